/-! words -/
theorem cl_W_8 : Cond.classLink RL 8 RX4 ∈ TB := tb_in (i := 99) (by decide +kernel) (by decide +kernel)
theorem is_4 : Cond.instantiable RX4 15 ∈ TB := tb_in (i := 100) (by decide +kernel) (by decide +kernel)
theorem ic_X4 : Cond.initialized RX4 ∈ TB := tb_in (i := 81) (by decide +kernel) (by decide +kernel)
theorem hd_4_0 : ∀ j, j < 15 → defaultValue (tyX4 j) = if tg 0 j = 0 then .int 0 else .null := by decide +kernel
theorem md_C_init : MDi I_C_init 0 := ⟨tb_in (i := 102) (by decide +kernel) (by decide +kernel), rfl, rfl, rfl, ⟨tb_in (i := 81) (by decide +kernel) (by decide +kernel), tb_in (i := 103) (by decide +kernel) (by decide +kernel), ⟨by decide, by decide, by decide +kernel⟩⟩⟩
theorem ml_W_107 : Cond.methodLink RL 107 yX4_init ∈ TB := tb_in (i := 101) (by decide +kernel) (by decide +kernel)
theorem cl_W_108 : Cond.classLink RL 108 RX5 ∈ TB := tb_in (i := 1114) (by decide +kernel) (by decide +kernel)
theorem is_5 : Cond.instantiable RX5 26 ∈ TB := tb_in (i := 1115) (by decide +kernel) (by decide +kernel)
theorem ic_X5 : Cond.initialized RX5 ∈ TB := tb_in (i := 91) (by decide +kernel) (by decide +kernel)
theorem hd_5_134 : ∀ j, j < 26 → defaultValue (tyX5 j) = if tg 134 j = 0 then .int 0 else .null := by decide +kernel
theorem md_M_init : MDi I_M_init 0 := ⟨tb_in (i := 1117) (by decide +kernel) (by decide +kernel), rfl, rfl, rfl, ⟨tb_in (i := 91) (by decide +kernel) (by decide +kernel), tb_in (i := 1118) (by decide +kernel) (by decide +kernel), ⟨by decide, by decide, by decide +kernel⟩⟩⟩
theorem ml_W_110 : Cond.methodLink RL 110 yX5_init ∈ TB := tb_in (i := 1116) (by decide +kernel) (by decide +kernel)
theorem ac_long : Cond.arrayClass .long ∈ TB := tb_in (i := 1692) (by decide +kernel) (by decide +kernel)
theorem bp_63 : (Int8.ofInt 63).toInt32 = 63 := by decide
theorem inc_6 (x : Int32) : x + Int32.ofInt 6 = x + 6 := rfl
theorem md_C_append : MDv I_C_append 5 := ⟨tb_in (i := 515) (by decide +kernel) (by decide +kernel), tb_in (i := 516) (by decide +kernel) (by decide +kernel), rfl, ⟨tb_in (i := 81) (by decide +kernel) (by decide +kernel), tb_in (i := 517) (by decide +kernel) (by decide +kernel), ⟨by decide, by decide, by decide +kernel⟩⟩⟩
theorem ml_W_111 : Cond.methodLink RL 111 yX4_append ∈ TB := tb_in (i := 514) (by decide +kernel) (by decide +kernel)
theorem rc_C_append : RC 4 I_C_append := ⟨by decide, _, _, rfl⟩
theorem md_M_append : MDv I_M_append 5 := ⟨tb_in (i := 1343) (by decide +kernel) (by decide +kernel), tb_in (i := 1344) (by decide +kernel) (by decide +kernel), rfl, ⟨tb_in (i := 91) (by decide +kernel) (by decide +kernel), tb_in (i := 1345) (by decide +kernel) (by decide +kernel), ⟨by decide, by decide, by decide +kernel⟩⟩⟩
theorem ml_W_114 : Cond.methodLink RL 114 yX5_append ∈ TB := tb_in (i := 1342) (by decide +kernel) (by decide +kernel)
theorem rc_M_append : RC 5 I_M_append := ⟨by decide, _, _, rfl⟩
theorem md_W_truncateInput : MDx I_W_truncateInput 3 := ⟨tb_in (i := 774) (by decide +kernel) (by decide +kernel), rfl, ⟨tb_in (i := 80) (by decide +kernel) (by decide +kernel), tb_in (i := 775) (by decide +kernel) (by decide +kernel), ⟨by decide, by decide, by decide +kernel⟩⟩⟩
theorem ml_W_115 : Cond.methodLink RL 115 yL_truncateInput ∈ TB := tb_in (i := 773) (by decide +kernel) (by decide +kernel)
theorem md_M_truncateInput : MDv I_M_truncateInput 1 := ⟨tb_in (i := 1351) (by decide +kernel) (by decide +kernel), tb_in (i := 1352) (by decide +kernel) (by decide +kernel), rfl, ⟨tb_in (i := 91) (by decide +kernel) (by decide +kernel), tb_in (i := 1353) (by decide +kernel) (by decide +kernel), ⟨by decide, by decide, by decide +kernel⟩⟩⟩
theorem ml_W_120 : Cond.methodLink RL 120 yX5_truncateInput ∈ TB := tb_in (i := 1350) (by decide +kernel) (by decide +kernel)
theorem rc_M_truncateInput : RC 5 I_M_truncateInput := ⟨by decide, _, _, rfl⟩
theorem md_M_thrown : MDv I_M_thrown 0 := ⟨tb_in (i := 1339) (by decide +kernel) (by decide +kernel), tb_in (i := 1340) (by decide +kernel) (by decide +kernel), rfl, ⟨tb_in (i := 91) (by decide +kernel) (by decide +kernel), tb_in (i := 1341) (by decide +kernel) (by decide +kernel), ⟨by decide, by decide, by decide +kernel⟩⟩⟩
theorem ml_W_121 : Cond.methodLink RL 121 yX5_thrown ∈ TB := tb_in (i := 1338) (by decide +kernel) (by decide +kernel)
theorem rc_M_thrown : RC 5 I_M_thrown := ⟨by decide, _, _, rfl⟩
theorem md_C_load : MDv I_C_load 0 := ⟨tb_in (i := 523) (by decide +kernel) (by decide +kernel), tb_in (i := 524) (by decide +kernel) (by decide +kernel), rfl, ⟨tb_in (i := 81) (by decide +kernel) (by decide +kernel), tb_in (i := 525) (by decide +kernel) (by decide +kernel), ⟨by decide, by decide, by decide +kernel⟩⟩⟩
theorem ml_W_124 : Cond.methodLink RL 124 yX4_load ∈ TB := tb_in (i := 522) (by decide +kernel) (by decide +kernel)
theorem rc_C_load : RC 4 I_C_load := ⟨by decide, _, _, rfl⟩
theorem ml_W_127 : Cond.methodLink RL 127 yX5_load ∈ TB := tb_in (i := 1358) (by decide +kernel) (by decide +kernel)
theorem md_C_play : MDv I_C_play 0 := ⟨tb_in (i := 536) (by decide +kernel) (by decide +kernel), tb_in (i := 537) (by decide +kernel) (by decide +kernel), rfl, ⟨tb_in (i := 81) (by decide +kernel) (by decide +kernel), tb_in (i := 538) (by decide +kernel) (by decide +kernel), ⟨by decide, by decide, by decide +kernel⟩⟩⟩
theorem ml_W_128 : Cond.methodLink RL 128 yX4_play ∈ TB := tb_in (i := 535) (by decide +kernel) (by decide +kernel)
theorem rc_C_play : RC 4 I_C_play := ⟨by decide, _, _, rfl⟩
theorem md_M_play : MDv I_M_play 0 := ⟨tb_in (i := 1360) (by decide +kernel) (by decide +kernel), tb_in (i := 1361) (by decide +kernel) (by decide +kernel), rfl, ⟨tb_in (i := 91) (by decide +kernel) (by decide +kernel), tb_in (i := 1362) (by decide +kernel) (by decide +kernel), ⟨by decide, by decide, by decide +kernel⟩⟩⟩
theorem ml_W_131 : Cond.methodLink RL 131 yX5_play ∈ TB := tb_in (i := 1359) (by decide +kernel) (by decide +kernel)
theorem rc_M_play : RC 5 I_M_play := ⟨by decide, _, _, rfl⟩
theorem md_C_errorCode : MDv I_C_errorCode 0 := ⟨tb_in (i := 540) (by decide +kernel) (by decide +kernel), tb_in (i := 541) (by decide +kernel) (by decide +kernel), rfl, ⟨tb_in (i := 81) (by decide +kernel) (by decide +kernel), tb_in (i := 542) (by decide +kernel) (by decide +kernel), ⟨by decide, by decide, by decide +kernel⟩⟩⟩
theorem ml_W_132 : Cond.methodLink RL 132 yX4_errorCode ∈ TB := tb_in (i := 539) (by decide +kernel) (by decide +kernel)
theorem rc_C_errorCode : RC 4 I_C_errorCode := ⟨by decide, _, _, rfl⟩
theorem md_M_errorCode : MDv I_M_errorCode 0 := ⟨tb_in (i := 1364) (by decide +kernel) (by decide +kernel), tb_in (i := 1365) (by decide +kernel) (by decide +kernel), rfl, ⟨tb_in (i := 91) (by decide +kernel) (by decide +kernel), tb_in (i := 1366) (by decide +kernel) (by decide +kernel), ⟨by decide, by decide, by decide +kernel⟩⟩⟩
theorem ml_W_135 : Cond.methodLink RL 135 yX5_errorCode ∈ TB := tb_in (i := 1363) (by decide +kernel) (by decide +kernel)
theorem rc_M_errorCode : RC 5 I_M_errorCode := ⟨by decide, _, _, rfl⟩
theorem md_C_errorOffset : MDv I_C_errorOffset 0 := ⟨tb_in (i := 544) (by decide +kernel) (by decide +kernel), tb_in (i := 545) (by decide +kernel) (by decide +kernel), rfl, ⟨tb_in (i := 81) (by decide +kernel) (by decide +kernel), tb_in (i := 546) (by decide +kernel) (by decide +kernel), ⟨by decide, by decide, by decide +kernel⟩⟩⟩
theorem ml_W_136 : Cond.methodLink RL 136 yX4_errorOffset ∈ TB := tb_in (i := 543) (by decide +kernel) (by decide +kernel)
theorem rc_C_errorOffset : RC 4 I_C_errorOffset := ⟨by decide, _, _, rfl⟩
theorem md_M_errorOffset : MDv I_M_errorOffset 0 := ⟨tb_in (i := 1372) (by decide +kernel) (by decide +kernel), tb_in (i := 1373) (by decide +kernel) (by decide +kernel), rfl, ⟨tb_in (i := 91) (by decide +kernel) (by decide +kernel), tb_in (i := 1374) (by decide +kernel) (by decide +kernel), ⟨by decide, by decide, by decide +kernel⟩⟩⟩
theorem ml_W_139 : Cond.methodLink RL 139 yX5_errorOffset ∈ TB := tb_in (i := 1371) (by decide +kernel) (by decide +kernel)
theorem rc_M_errorOffset : RC 5 I_M_errorOffset := ⟨by decide, _, _, rfl⟩
theorem md_W_addLeg : MDx I_W_addLeg 7 := ⟨tb_in (i := 849) (by decide +kernel) (by decide +kernel), rfl, ⟨tb_in (i := 80) (by decide +kernel) (by decide +kernel), tb_in (i := 850) (by decide +kernel) (by decide +kernel), ⟨by decide, by decide, by decide +kernel⟩⟩⟩
theorem ml_W_140 : Cond.methodLink RL 140 yL_addLeg ∈ TB := tb_in (i := 848) (by decide +kernel) (by decide +kernel)
theorem md_M_addLeg : MDv I_M_addLeg 5 := ⟨tb_in (i := 1376) (by decide +kernel) (by decide +kernel), tb_in (i := 1377) (by decide +kernel) (by decide +kernel), rfl, ⟨tb_in (i := 91) (by decide +kernel) (by decide +kernel), tb_in (i := 1378) (by decide +kernel) (by decide +kernel), ⟨by decide, by decide, by decide +kernel⟩⟩⟩
theorem ml_W_143 : Cond.methodLink RL 143 yX5_addLeg ∈ TB := tb_in (i := 1375) (by decide +kernel) (by decide +kernel)
theorem rc_M_addLeg : RC 5 I_M_addLeg := ⟨by decide, _, _, rfl⟩
theorem md_W_addBog : MDx I_W_addBog 4 := ⟨tb_in (i := 881) (by decide +kernel) (by decide +kernel), rfl, ⟨tb_in (i := 80) (by decide +kernel) (by decide +kernel), tb_in (i := 882) (by decide +kernel) (by decide +kernel), ⟨by decide, by decide, by decide +kernel⟩⟩⟩
theorem ml_W_144 : Cond.methodLink RL 144 yL_addBog ∈ TB := tb_in (i := 880) (by decide +kernel) (by decide +kernel)
theorem md_M_addBog : MDv I_M_addBog 2 := ⟨tb_in (i := 1391) (by decide +kernel) (by decide +kernel), tb_in (i := 1392) (by decide +kernel) (by decide +kernel), rfl, ⟨tb_in (i := 91) (by decide +kernel) (by decide +kernel), tb_in (i := 1393) (by decide +kernel) (by decide +kernel), ⟨by decide, by decide, by decide +kernel⟩⟩⟩
theorem ml_W_147 : Cond.methodLink RL 147 yX5_addBog ∈ TB := tb_in (i := 1390) (by decide +kernel) (by decide +kernel)
theorem rc_M_addBog : RC 5 I_M_addBog := ⟨by decide, _, _, rfl⟩
theorem md_W_dropPin : MDx I_W_dropPin 3 := ⟨tb_in (i := 890) (by decide +kernel) (by decide +kernel), rfl, ⟨tb_in (i := 80) (by decide +kernel) (by decide +kernel), tb_in (i := 891) (by decide +kernel) (by decide +kernel), ⟨by decide, by decide, by decide +kernel⟩⟩⟩
theorem ml_W_148 : Cond.methodLink RL 148 yL_dropPin ∈ TB := tb_in (i := 889) (by decide +kernel) (by decide +kernel)
theorem md_M_dropPin : MDv I_M_dropPin 1 := ⟨tb_in (i := 1395) (by decide +kernel) (by decide +kernel), tb_in (i := 1396) (by decide +kernel) (by decide +kernel), rfl, ⟨tb_in (i := 91) (by decide +kernel) (by decide +kernel), tb_in (i := 1397) (by decide +kernel) (by decide +kernel), ⟨by decide, by decide, by decide +kernel⟩⟩⟩
theorem ml_W_150 : Cond.methodLink RL 150 yX5_dropPin ∈ TB := tb_in (i := 1394) (by decide +kernel) (by decide +kernel)
theorem rc_M_dropPin : RC 5 I_M_dropPin := ⟨by decide, _, _, rfl⟩
theorem md_W_findPin : MDx I_W_findPin 3 := ⟨tb_in (i := 919) (by decide +kernel) (by decide +kernel), rfl, ⟨tb_in (i := 80) (by decide +kernel) (by decide +kernel), tb_in (i := 920) (by decide +kernel) (by decide +kernel), ⟨by decide, by decide, by decide +kernel⟩⟩⟩
theorem ml_W_151 : Cond.methodLink RL 151 yL_findPin ∈ TB := tb_in (i := 918) (by decide +kernel) (by decide +kernel)
theorem md_M_findPin : MDv I_M_findPin 1 := ⟨tb_in (i := 1403) (by decide +kernel) (by decide +kernel), tb_in (i := 1404) (by decide +kernel) (by decide +kernel), rfl, ⟨tb_in (i := 91) (by decide +kernel) (by decide +kernel), tb_in (i := 1405) (by decide +kernel) (by decide +kernel), ⟨by decide, by decide, by decide +kernel⟩⟩⟩
theorem ml_W_153 : Cond.methodLink RL 153 yX5_findPin ∈ TB := tb_in (i := 1402) (by decide +kernel) (by decide +kernel)
theorem rc_M_findPin : RC 5 I_M_findPin := ⟨by decide, _, _, rfl⟩
theorem md_W_removeLast : MDx I_W_removeLast 2 := ⟨tb_in (i := 928) (by decide +kernel) (by decide +kernel), rfl, ⟨tb_in (i := 80) (by decide +kernel) (by decide +kernel), tb_in (i := 929) (by decide +kernel) (by decide +kernel), ⟨by decide, by decide, by decide +kernel⟩⟩⟩
theorem ml_W_154 : Cond.methodLink RL 154 yL_removeLast ∈ TB := tb_in (i := 927) (by decide +kernel) (by decide +kernel)
theorem md_M_removeLast : MDv I_M_removeLast 0 := ⟨tb_in (i := 1407) (by decide +kernel) (by decide +kernel), tb_in (i := 1408) (by decide +kernel) (by decide +kernel), rfl, ⟨tb_in (i := 91) (by decide +kernel) (by decide +kernel), tb_in (i := 1409) (by decide +kernel) (by decide +kernel), ⟨by decide, by decide, by decide +kernel⟩⟩⟩
theorem ml_W_157 : Cond.methodLink RL 157 yX5_removeLast ∈ TB := tb_in (i := 1406) (by decide +kernel) (by decide +kernel)
theorem rc_M_removeLast : RC 5 I_M_removeLast := ⟨by decide, _, _, rfl⟩
theorem md_W_setWear : MDx I_W_setWear 3 := ⟨tb_in (i := 936) (by decide +kernel) (by decide +kernel), rfl, ⟨tb_in (i := 80) (by decide +kernel) (by decide +kernel), tb_in (i := 937) (by decide +kernel) (by decide +kernel), ⟨by decide, by decide, by decide +kernel⟩⟩⟩
theorem ml_W_158 : Cond.methodLink RL 158 yL_setWear ∈ TB := tb_in (i := 935) (by decide +kernel) (by decide +kernel)
theorem md_M_setWear : MDv I_M_setWear 1 := ⟨tb_in (i := 1411) (by decide +kernel) (by decide +kernel), tb_in (i := 1412) (by decide +kernel) (by decide +kernel), rfl, ⟨tb_in (i := 91) (by decide +kernel) (by decide +kernel), tb_in (i := 1413) (by decide +kernel) (by decide +kernel), ⟨by decide, by decide, by decide +kernel⟩⟩⟩
theorem ml_W_160 : Cond.methodLink RL 160 yX5_setWear ∈ TB := tb_in (i := 1410) (by decide +kernel) (by decide +kernel)
theorem rc_M_setWear : RC 5 I_M_setWear := ⟨by decide, _, _, rfl⟩
theorem md_W_setPace : MDx I_W_setPace 3 := ⟨tb_in (i := 944) (by decide +kernel) (by decide +kernel), rfl, ⟨tb_in (i := 80) (by decide +kernel) (by decide +kernel), tb_in (i := 945) (by decide +kernel) (by decide +kernel), ⟨by decide, by decide, by decide +kernel⟩⟩⟩
theorem ml_W_161 : Cond.methodLink RL 161 yL_setPace ∈ TB := tb_in (i := 943) (by decide +kernel) (by decide +kernel)
theorem md_M_setPace : MDv I_M_setPace 1 := ⟨tb_in (i := 1415) (by decide +kernel) (by decide +kernel), tb_in (i := 1416) (by decide +kernel) (by decide +kernel), rfl, ⟨tb_in (i := 91) (by decide +kernel) (by decide +kernel), tb_in (i := 1417) (by decide +kernel) (by decide +kernel), ⟨by decide, by decide, by decide +kernel⟩⟩⟩
theorem ml_W_163 : Cond.methodLink RL 163 yX5_setPace ∈ TB := tb_in (i := 1414) (by decide +kernel) (by decide +kernel)
theorem rc_M_setPace : RC 5 I_M_setPace := ⟨by decide, _, _, rfl⟩
theorem md_W_undo : MDx I_W_undo 2 := ⟨tb_in (i := 952) (by decide +kernel) (by decide +kernel), rfl, ⟨tb_in (i := 80) (by decide +kernel) (by decide +kernel), tb_in (i := 953) (by decide +kernel) (by decide +kernel), ⟨by decide, by decide, by decide +kernel⟩⟩⟩
theorem ml_W_169 : Cond.methodLink RL 169 yL_undo ∈ TB := tb_in (i := 951) (by decide +kernel) (by decide +kernel)
theorem md_M_undo : MDv I_M_undo 0 := ⟨tb_in (i := 1423) (by decide +kernel) (by decide +kernel), tb_in (i := 1424) (by decide +kernel) (by decide +kernel), rfl, ⟨tb_in (i := 91) (by decide +kernel) (by decide +kernel), tb_in (i := 1425) (by decide +kernel) (by decide +kernel), ⟨by decide, by decide, by decide +kernel⟩⟩⟩
theorem ml_W_171 : Cond.methodLink RL 171 yX5_undo ∈ TB := tb_in (i := 1422) (by decide +kernel) (by decide +kernel)
theorem rc_M_undo : RC 5 I_M_undo := ⟨by decide, _, _, rfl⟩
theorem md_W_save : MDx I_W_save 3 := ⟨tb_in (i := 960) (by decide +kernel) (by decide +kernel), rfl, ⟨tb_in (i := 80) (by decide +kernel) (by decide +kernel), tb_in (i := 961) (by decide +kernel) (by decide +kernel), ⟨by decide, by decide, by decide +kernel⟩⟩⟩
theorem ml_W_172 : Cond.methodLink RL 172 yL_save ∈ TB := tb_in (i := 959) (by decide +kernel) (by decide +kernel)
theorem md_M_save : MDv I_M_save 1 := ⟨tb_in (i := 1427) (by decide +kernel) (by decide +kernel), tb_in (i := 1428) (by decide +kernel) (by decide +kernel), rfl, ⟨tb_in (i := 91) (by decide +kernel) (by decide +kernel), tb_in (i := 1429) (by decide +kernel) (by decide +kernel), ⟨by decide, by decide, by decide +kernel⟩⟩⟩
theorem ml_W_174 : Cond.methodLink RL 174 yX5_save ∈ TB := tb_in (i := 1426) (by decide +kernel) (by decide +kernel)
theorem rc_M_save : RC 5 I_M_save := ⟨by decide, _, _, rfl⟩
theorem md_W_restore : MDx I_W_restore 3 := ⟨tb_in (i := 972) (by decide +kernel) (by decide +kernel), rfl, ⟨tb_in (i := 80) (by decide +kernel) (by decide +kernel), tb_in (i := 973) (by decide +kernel) (by decide +kernel), ⟨by decide, by decide, by decide +kernel⟩⟩⟩
theorem ml_W_175 : Cond.methodLink RL 175 yL_restore ∈ TB := tb_in (i := 971) (by decide +kernel) (by decide +kernel)
theorem md_M_restore : MDv I_M_restore 1 := ⟨tb_in (i := 1431) (by decide +kernel) (by decide +kernel), tb_in (i := 1432) (by decide +kernel) (by decide +kernel), rfl, ⟨tb_in (i := 91) (by decide +kernel) (by decide +kernel), tb_in (i := 1433) (by decide +kernel) (by decide +kernel), ⟨by decide, by decide, by decide +kernel⟩⟩⟩
theorem ml_W_177 : Cond.methodLink RL 177 yX5_restore ∈ TB := tb_in (i := 1430) (by decide +kernel) (by decide +kernel)
theorem rc_M_restore : RC 5 I_M_restore := ⟨by decide, _, _, rfl⟩
theorem md_C_legCount : MDv I_C_legCount 0 := ⟨tb_in (i := 552) (by decide +kernel) (by decide +kernel), tb_in (i := 553) (by decide +kernel) (by decide +kernel), rfl, ⟨tb_in (i := 81) (by decide +kernel) (by decide +kernel), tb_in (i := 554) (by decide +kernel) (by decide +kernel), ⟨by decide, by decide, by decide +kernel⟩⟩⟩
theorem ml_W_178 : Cond.methodLink RL 178 yX4_legCount ∈ TB := tb_in (i := 551) (by decide +kernel) (by decide +kernel)
theorem rc_C_legCount : RC 4 I_C_legCount := ⟨by decide, _, _, rfl⟩
theorem md_M_legCount : MDv I_M_legCount 0 := ⟨tb_in (i := 1435) (by decide +kernel) (by decide +kernel), tb_in (i := 1436) (by decide +kernel) (by decide +kernel), rfl, ⟨tb_in (i := 91) (by decide +kernel) (by decide +kernel), tb_in (i := 1437) (by decide +kernel) (by decide +kernel), ⟨by decide, by decide, by decide +kernel⟩⟩⟩
theorem ml_W_181 : Cond.methodLink RL 181 yX5_legCount ∈ TB := tb_in (i := 1434) (by decide +kernel) (by decide +kernel)
theorem rc_M_legCount : RC 5 I_M_legCount := ⟨by decide, _, _, rfl⟩
theorem md_C_stationCount : MDv I_C_stationCount 0 := ⟨tb_in (i := 556) (by decide +kernel) (by decide +kernel), tb_in (i := 557) (by decide +kernel) (by decide +kernel), rfl, ⟨tb_in (i := 81) (by decide +kernel) (by decide +kernel), tb_in (i := 558) (by decide +kernel) (by decide +kernel), ⟨by decide, by decide, by decide +kernel⟩⟩⟩
theorem ml_W_182 : Cond.methodLink RL 182 yX4_stationCount ∈ TB := tb_in (i := 555) (by decide +kernel) (by decide +kernel)
theorem rc_C_stationCount : RC 4 I_C_stationCount := ⟨by decide, _, _, rfl⟩
theorem md_M_stationCount : MDv I_M_stationCount 0 := ⟨tb_in (i := 1439) (by decide +kernel) (by decide +kernel), tb_in (i := 1440) (by decide +kernel) (by decide +kernel), rfl, ⟨tb_in (i := 91) (by decide +kernel) (by decide +kernel), tb_in (i := 1441) (by decide +kernel) (by decide +kernel), ⟨by decide, by decide, by decide +kernel⟩⟩⟩
theorem ml_W_185 : Cond.methodLink RL 185 yX5_stationCount ∈ TB := tb_in (i := 1438) (by decide +kernel) (by decide +kernel)
theorem rc_M_stationCount : RC 5 I_M_stationCount := ⟨by decide, _, _, rfl⟩
theorem md_C_wear : MDv I_C_wear 0 := ⟨tb_in (i := 560) (by decide +kernel) (by decide +kernel), tb_in (i := 561) (by decide +kernel) (by decide +kernel), rfl, ⟨tb_in (i := 81) (by decide +kernel) (by decide +kernel), tb_in (i := 562) (by decide +kernel) (by decide +kernel), ⟨by decide, by decide, by decide +kernel⟩⟩⟩
theorem ml_W_186 : Cond.methodLink RL 186 yX4_wear ∈ TB := tb_in (i := 559) (by decide +kernel) (by decide +kernel)
theorem rc_C_wear : RC 4 I_C_wear := ⟨by decide, _, _, rfl⟩
theorem md_M_wear : MDv I_M_wear 0 := ⟨tb_in (i := 1443) (by decide +kernel) (by decide +kernel), tb_in (i := 1444) (by decide +kernel) (by decide +kernel), rfl, ⟨tb_in (i := 91) (by decide +kernel) (by decide +kernel), tb_in (i := 1445) (by decide +kernel) (by decide +kernel), ⟨by decide, by decide, by decide +kernel⟩⟩⟩
theorem ml_W_189 : Cond.methodLink RL 189 yX5_wear ∈ TB := tb_in (i := 1442) (by decide +kernel) (by decide +kernel)
theorem rc_M_wear : RC 5 I_M_wear := ⟨by decide, _, _, rfl⟩
theorem md_C_pace : MDv I_C_pace 0 := ⟨tb_in (i := 564) (by decide +kernel) (by decide +kernel), tb_in (i := 565) (by decide +kernel) (by decide +kernel), rfl, ⟨tb_in (i := 81) (by decide +kernel) (by decide +kernel), tb_in (i := 566) (by decide +kernel) (by decide +kernel), ⟨by decide, by decide, by decide +kernel⟩⟩⟩
theorem ml_W_190 : Cond.methodLink RL 190 yX4_pace ∈ TB := tb_in (i := 563) (by decide +kernel) (by decide +kernel)
theorem rc_C_pace : RC 4 I_C_pace := ⟨by decide, _, _, rfl⟩
theorem md_M_pace : MDv I_M_pace 0 := ⟨tb_in (i := 1447) (by decide +kernel) (by decide +kernel), tb_in (i := 1448) (by decide +kernel) (by decide +kernel), rfl, ⟨tb_in (i := 91) (by decide +kernel) (by decide +kernel), tb_in (i := 1449) (by decide +kernel) (by decide +kernel), ⟨by decide, by decide, by decide +kernel⟩⟩⟩
theorem ml_W_193 : Cond.methodLink RL 193 yX5_pace ∈ TB := tb_in (i := 1446) (by decide +kernel) (by decide +kernel)
theorem rc_M_pace : RC 5 I_M_pace := ⟨by decide, _, _, rfl⟩
theorem md_C_undoableChanges : MDv I_C_undoableChanges 0 := ⟨tb_in (i := 568) (by decide +kernel) (by decide +kernel), tb_in (i := 569) (by decide +kernel) (by decide +kernel), rfl, ⟨tb_in (i := 81) (by decide +kernel) (by decide +kernel), tb_in (i := 570) (by decide +kernel) (by decide +kernel), ⟨by decide, by decide, by decide +kernel⟩⟩⟩
theorem ml_W_194 : Cond.methodLink RL 194 yX4_undoableChanges ∈ TB := tb_in (i := 567) (by decide +kernel) (by decide +kernel)
theorem rc_C_undoableChanges : RC 4 I_C_undoableChanges := ⟨by decide, _, _, rfl⟩
theorem md_M_undoableChanges : MDv I_M_undoableChanges 0 := ⟨tb_in (i := 1451) (by decide +kernel) (by decide +kernel), tb_in (i := 1452) (by decide +kernel) (by decide +kernel), rfl, ⟨tb_in (i := 91) (by decide +kernel) (by decide +kernel), tb_in (i := 1453) (by decide +kernel) (by decide +kernel), ⟨by decide, by decide, by decide +kernel⟩⟩⟩
theorem ml_W_197 : Cond.methodLink RL 197 yX5_undoableChanges ∈ TB := tb_in (i := 1450) (by decide +kernel) (by decide +kernel)
theorem rc_M_undoableChanges : RC 5 I_M_undoableChanges := ⟨by decide, _, _, rfl⟩
theorem md_C_isAdjusted : MDv I_C_isAdjusted 0 := ⟨tb_in (i := 572) (by decide +kernel) (by decide +kernel), tb_in (i := 573) (by decide +kernel) (by decide +kernel), rfl, ⟨tb_in (i := 81) (by decide +kernel) (by decide +kernel), tb_in (i := 574) (by decide +kernel) (by decide +kernel), ⟨by decide, by decide, by decide +kernel⟩⟩⟩
theorem ml_W_198 : Cond.methodLink RL 198 yX4_isAdjusted ∈ TB := tb_in (i := 571) (by decide +kernel) (by decide +kernel)
theorem rc_C_isAdjusted : RC 4 I_C_isAdjusted := ⟨by decide, _, _, rfl⟩
theorem md_M_isAdjusted : MDv I_M_isAdjusted 0 := ⟨tb_in (i := 1455) (by decide +kernel) (by decide +kernel), tb_in (i := 1456) (by decide +kernel) (by decide +kernel), rfl, ⟨tb_in (i := 91) (by decide +kernel) (by decide +kernel), tb_in (i := 1457) (by decide +kernel) (by decide +kernel), ⟨by decide, by decide, by decide +kernel⟩⟩⟩
theorem ml_W_202 : Cond.methodLink RL 202 yX5_isAdjusted ∈ TB := tb_in (i := 1454) (by decide +kernel) (by decide +kernel)
theorem rc_M_isAdjusted : RC 5 I_M_isAdjusted := ⟨by decide, _, _, rfl⟩
theorem md_W_bearing : MDx I_W_bearing 3 := ⟨tb_in (i := 980) (by decide +kernel) (by decide +kernel), rfl, ⟨tb_in (i := 80) (by decide +kernel) (by decide +kernel), tb_in (i := 981) (by decide +kernel) (by decide +kernel), ⟨by decide, by decide, by decide +kernel⟩⟩⟩
theorem ml_W_203 : Cond.methodLink RL 203 yL_bearing ∈ TB := tb_in (i := 979) (by decide +kernel) (by decide +kernel)
theorem md_M_bearing : MDv I_M_bearing 1 := ⟨tb_in (i := 1459) (by decide +kernel) (by decide +kernel), tb_in (i := 1460) (by decide +kernel) (by decide +kernel), rfl, ⟨tb_in (i := 91) (by decide +kernel) (by decide +kernel), tb_in (i := 1461) (by decide +kernel) (by decide +kernel), ⟨by decide, by decide, by decide +kernel⟩⟩⟩
theorem ml_W_205 : Cond.methodLink RL 205 yX5_bearing ∈ TB := tb_in (i := 1458) (by decide +kernel) (by decide +kernel)
theorem rc_M_bearing : RC 5 I_M_bearing := ⟨by decide, _, _, rfl⟩
theorem md_W_pins : MDx I_W_pins 3 := ⟨tb_in (i := 987) (by decide +kernel) (by decide +kernel), rfl, ⟨tb_in (i := 80) (by decide +kernel) (by decide +kernel), tb_in (i := 988) (by decide +kernel) (by decide +kernel), ⟨by decide, by decide, by decide +kernel⟩⟩⟩
theorem ml_W_206 : Cond.methodLink RL 206 yL_pins ∈ TB := tb_in (i := 986) (by decide +kernel) (by decide +kernel)
theorem md_M_pins : MDv I_M_pins 1 := ⟨tb_in (i := 1467) (by decide +kernel) (by decide +kernel), tb_in (i := 1468) (by decide +kernel) (by decide +kernel), rfl, ⟨tb_in (i := 91) (by decide +kernel) (by decide +kernel), tb_in (i := 1469) (by decide +kernel) (by decide +kernel), ⟨by decide, by decide, by decide +kernel⟩⟩⟩
theorem ml_W_208 : Cond.methodLink RL 208 yX5_pins ∈ TB := tb_in (i := 1466) (by decide +kernel) (by decide +kernel)
theorem rc_M_pins : RC 5 I_M_pins := ⟨by decide, _, _, rfl⟩
theorem md_W_droppedPins : MDx I_W_droppedPins 3 := ⟨tb_in (i := 994) (by decide +kernel) (by decide +kernel), rfl, ⟨tb_in (i := 80) (by decide +kernel) (by decide +kernel), tb_in (i := 995) (by decide +kernel) (by decide +kernel), ⟨by decide, by decide, by decide +kernel⟩⟩⟩
theorem ml_W_209 : Cond.methodLink RL 209 yL_droppedPins ∈ TB := tb_in (i := 993) (by decide +kernel) (by decide +kernel)
theorem md_M_droppedPins : MDv I_M_droppedPins 1 := ⟨tb_in (i := 1471) (by decide +kernel) (by decide +kernel), tb_in (i := 1472) (by decide +kernel) (by decide +kernel), rfl, ⟨tb_in (i := 91) (by decide +kernel) (by decide +kernel), tb_in (i := 1473) (by decide +kernel) (by decide +kernel), ⟨by decide, by decide, by decide +kernel⟩⟩⟩
theorem ml_W_211 : Cond.methodLink RL 211 yX5_droppedPins ∈ TB := tb_in (i := 1470) (by decide +kernel) (by decide +kernel)
theorem rc_M_droppedPins : RC 5 I_M_droppedPins := ⟨by decide, _, _, rfl⟩
theorem md_W_readLength : MDx I_W_readLength 3 := ⟨tb_in (i := 1001) (by decide +kernel) (by decide +kernel), rfl, ⟨tb_in (i := 80) (by decide +kernel) (by decide +kernel), tb_in (i := 1002) (by decide +kernel) (by decide +kernel), ⟨by decide, by decide, by decide +kernel⟩⟩⟩
theorem ml_W_212 : Cond.methodLink RL 212 yL_readLength ∈ TB := tb_in (i := 1000) (by decide +kernel) (by decide +kernel)
theorem md_M_readLength : MDv I_M_readLength 1 := ⟨tb_in (i := 1475) (by decide +kernel) (by decide +kernel), tb_in (i := 1476) (by decide +kernel) (by decide +kernel), rfl, ⟨tb_in (i := 91) (by decide +kernel) (by decide +kernel), tb_in (i := 1477) (by decide +kernel) (by decide +kernel), ⟨by decide, by decide, by decide +kernel⟩⟩⟩
theorem ml_W_214 : Cond.methodLink RL 214 yX5_readLength ∈ TB := tb_in (i := 1474) (by decide +kernel) (by decide +kernel)
theorem rc_M_readLength : RC 5 I_M_readLength := ⟨by decide, _, _, rfl⟩
theorem md_W_slopeLength : MDx I_W_slopeLength 3 := ⟨tb_in (i := 1009) (by decide +kernel) (by decide +kernel), rfl, ⟨tb_in (i := 80) (by decide +kernel) (by decide +kernel), tb_in (i := 1010) (by decide +kernel) (by decide +kernel), ⟨by decide, by decide, by decide +kernel⟩⟩⟩
theorem ml_W_215 : Cond.methodLink RL 215 yL_slopeLength ∈ TB := tb_in (i := 1008) (by decide +kernel) (by decide +kernel)
theorem md_M_slopeLength : MDv I_M_slopeLength 1 := ⟨tb_in (i := 1483) (by decide +kernel) (by decide +kernel), tb_in (i := 1484) (by decide +kernel) (by decide +kernel), rfl, ⟨tb_in (i := 91) (by decide +kernel) (by decide +kernel), tb_in (i := 1485) (by decide +kernel) (by decide +kernel), ⟨by decide, by decide, by decide +kernel⟩⟩⟩
theorem ml_W_217 : Cond.methodLink RL 217 yX5_slopeLength ∈ TB := tb_in (i := 1482) (by decide +kernel) (by decide +kernel)
theorem rc_M_slopeLength : RC 5 I_M_slopeLength := ⟨by decide, _, _, rfl⟩
theorem md_W_horizontalLength : MDx I_W_horizontalLength 3 := ⟨tb_in (i := 1016) (by decide +kernel) (by decide +kernel), rfl, ⟨tb_in (i := 80) (by decide +kernel) (by decide +kernel), tb_in (i := 1017) (by decide +kernel) (by decide +kernel), ⟨by decide, by decide, by decide +kernel⟩⟩⟩
theorem ml_W_218 : Cond.methodLink RL 218 yL_horizontalLength ∈ TB := tb_in (i := 1015) (by decide +kernel) (by decide +kernel)
theorem md_M_horizontalLength : MDv I_M_horizontalLength 1 := ⟨tb_in (i := 1494) (by decide +kernel) (by decide +kernel), tb_in (i := 1495) (by decide +kernel) (by decide +kernel), rfl, ⟨tb_in (i := 91) (by decide +kernel) (by decide +kernel), tb_in (i := 1496) (by decide +kernel) (by decide +kernel), ⟨by decide, by decide, by decide +kernel⟩⟩⟩
theorem ml_W_220 : Cond.methodLink RL 220 yX5_horizontalLength ∈ TB := tb_in (i := 1493) (by decide +kernel) (by decide +kernel)
theorem rc_M_horizontalLength : RC 5 I_M_horizontalLength := ⟨by decide, _, _, rfl⟩
theorem md_W_eastStep : MDx I_W_eastStep 3 := ⟨tb_in (i := 1023) (by decide +kernel) (by decide +kernel), rfl, ⟨tb_in (i := 80) (by decide +kernel) (by decide +kernel), tb_in (i := 1024) (by decide +kernel) (by decide +kernel), ⟨by decide, by decide, by decide +kernel⟩⟩⟩
theorem ml_W_221 : Cond.methodLink RL 221 yL_eastStep ∈ TB := tb_in (i := 1022) (by decide +kernel) (by decide +kernel)
theorem md_M_eastStep : MDv I_M_eastStep 1 := ⟨tb_in (i := 1507) (by decide +kernel) (by decide +kernel), tb_in (i := 1508) (by decide +kernel) (by decide +kernel), rfl, ⟨tb_in (i := 91) (by decide +kernel) (by decide +kernel), tb_in (i := 1509) (by decide +kernel) (by decide +kernel), ⟨by decide, by decide, by decide +kernel⟩⟩⟩
theorem ml_W_223 : Cond.methodLink RL 223 yX5_eastStep ∈ TB := tb_in (i := 1506) (by decide +kernel) (by decide +kernel)
theorem rc_M_eastStep : RC 5 I_M_eastStep := ⟨by decide, _, _, rfl⟩
theorem md_W_northStep : MDx I_W_northStep 3 := ⟨tb_in (i := 1030) (by decide +kernel) (by decide +kernel), rfl, ⟨tb_in (i := 80) (by decide +kernel) (by decide +kernel), tb_in (i := 1031) (by decide +kernel) (by decide +kernel), ⟨by decide, by decide, by decide +kernel⟩⟩⟩
theorem ml_W_224 : Cond.methodLink RL 224 yL_northStep ∈ TB := tb_in (i := 1029) (by decide +kernel) (by decide +kernel)
theorem md_M_northStep : MDv I_M_northStep 1 := ⟨tb_in (i := 1519) (by decide +kernel) (by decide +kernel), tb_in (i := 1520) (by decide +kernel) (by decide +kernel), rfl, ⟨tb_in (i := 91) (by decide +kernel) (by decide +kernel), tb_in (i := 1521) (by decide +kernel) (by decide +kernel), ⟨by decide, by decide, by decide +kernel⟩⟩⟩
theorem ml_W_226 : Cond.methodLink RL 226 yX5_northStep ∈ TB := tb_in (i := 1518) (by decide +kernel) (by decide +kernel)
theorem rc_M_northStep : RC 5 I_M_northStep := ⟨by decide, _, _, rfl⟩
theorem md_W_tallies : MDx I_W_tallies 3 := ⟨tb_in (i := 1037) (by decide +kernel) (by decide +kernel), rfl, ⟨tb_in (i := 80) (by decide +kernel) (by decide +kernel), tb_in (i := 1038) (by decide +kernel) (by decide +kernel), ⟨by decide, by decide, by decide +kernel⟩⟩⟩
theorem ml_W_227 : Cond.methodLink RL 227 yL_tallies ∈ TB := tb_in (i := 1036) (by decide +kernel) (by decide +kernel)
theorem md_M_tallies : MDv I_M_tallies 1 := ⟨tb_in (i := 1523) (by decide +kernel) (by decide +kernel), tb_in (i := 1524) (by decide +kernel) (by decide +kernel), rfl, ⟨tb_in (i := 91) (by decide +kernel) (by decide +kernel), tb_in (i := 1525) (by decide +kernel) (by decide +kernel), ⟨by decide, by decide, by decide +kernel⟩⟩⟩
theorem ml_W_229 : Cond.methodLink RL 229 yX5_tallies ∈ TB := tb_in (i := 1522) (by decide +kernel) (by decide +kernel)
theorem rc_M_tallies : RC 5 I_M_tallies := ⟨by decide, _, _, rfl⟩
theorem md_W_isBog : MDx I_W_isBog 3 := ⟨tb_in (i := 1044) (by decide +kernel) (by decide +kernel), rfl, ⟨tb_in (i := 80) (by decide +kernel) (by decide +kernel), tb_in (i := 1045) (by decide +kernel) (by decide +kernel), ⟨by decide, by decide, by decide +kernel⟩⟩⟩
theorem ml_W_230 : Cond.methodLink RL 230 yL_isBog ∈ TB := tb_in (i := 1043) (by decide +kernel) (by decide +kernel)
theorem md_M_isBog : MDv I_M_isBog 1 := ⟨tb_in (i := 1527) (by decide +kernel) (by decide +kernel), tb_in (i := 1528) (by decide +kernel) (by decide +kernel), rfl, ⟨tb_in (i := 91) (by decide +kernel) (by decide +kernel), tb_in (i := 1529) (by decide +kernel) (by decide +kernel), ⟨by decide, by decide, by decide +kernel⟩⟩⟩
theorem ml_W_232 : Cond.methodLink RL 232 yX5_isBog ∈ TB := tb_in (i := 1526) (by decide +kernel) (by decide +kernel)
theorem rc_M_isBog : RC 5 I_M_isBog := ⟨by decide, _, _, rfl⟩
theorem md_W_nameByte : MDx I_W_nameByte 4 := ⟨tb_in (i := 1051) (by decide +kernel) (by decide +kernel), rfl, ⟨tb_in (i := 80) (by decide +kernel) (by decide +kernel), tb_in (i := 1052) (by decide +kernel) (by decide +kernel), ⟨by decide, by decide, by decide +kernel⟩⟩⟩
theorem ml_W_233 : Cond.methodLink RL 233 yL_nameByte ∈ TB := tb_in (i := 1050) (by decide +kernel) (by decide +kernel)
theorem md_M_nameByte : MDv I_M_nameByte 2 := ⟨tb_in (i := 1531) (by decide +kernel) (by decide +kernel), tb_in (i := 1532) (by decide +kernel) (by decide +kernel), rfl, ⟨tb_in (i := 91) (by decide +kernel) (by decide +kernel), tb_in (i := 1533) (by decide +kernel) (by decide +kernel), ⟨by decide, by decide, by decide +kernel⟩⟩⟩
theorem ml_W_235 : Cond.methodLink RL 235 yX5_nameByte ∈ TB := tb_in (i := 1530) (by decide +kernel) (by decide +kernel)
theorem rc_M_nameByte : RC 5 I_M_nameByte := ⟨by decide, _, _, rfl⟩
theorem md_C_findLeg : MDv I_C_findLeg 0 := ⟨tb_in (i := 576) (by decide +kernel) (by decide +kernel), tb_in (i := 577) (by decide +kernel) (by decide +kernel), rfl, ⟨tb_in (i := 81) (by decide +kernel) (by decide +kernel), tb_in (i := 578) (by decide +kernel) (by decide +kernel), ⟨by decide, by decide, by decide +kernel⟩⟩⟩
theorem ml_W_236 : Cond.methodLink RL 236 yX4_findLeg ∈ TB := tb_in (i := 575) (by decide +kernel) (by decide +kernel)
theorem rc_C_findLeg : RC 4 I_C_findLeg := ⟨by decide, _, _, rfl⟩
theorem md_M_findLeg : MDv I_M_findLeg 0 := ⟨tb_in (i := 1535) (by decide +kernel) (by decide +kernel), tb_in (i := 1536) (by decide +kernel) (by decide +kernel), rfl, ⟨tb_in (i := 91) (by decide +kernel) (by decide +kernel), tb_in (i := 1537) (by decide +kernel) (by decide +kernel), ⟨by decide, by decide, by decide +kernel⟩⟩⟩
theorem ml_W_239 : Cond.methodLink RL 239 yX5_findLeg ∈ TB := tb_in (i := 1534) (by decide +kernel) (by decide +kernel)
theorem rc_M_findLeg : RC 5 I_M_findLeg := ⟨by decide, _, _, rfl⟩
theorem md_W_rawEast : MDx I_W_rawEast 3 := ⟨tb_in (i := 1061) (by decide +kernel) (by decide +kernel), rfl, ⟨tb_in (i := 80) (by decide +kernel) (by decide +kernel), tb_in (i := 1062) (by decide +kernel) (by decide +kernel), ⟨by decide, by decide, by decide +kernel⟩⟩⟩
theorem ml_W_240 : Cond.methodLink RL 240 yL_rawEast ∈ TB := tb_in (i := 1060) (by decide +kernel) (by decide +kernel)
theorem md_M_rawEast : MDv I_M_rawEast 1 := ⟨tb_in (i := 1539) (by decide +kernel) (by decide +kernel), tb_in (i := 1540) (by decide +kernel) (by decide +kernel), rfl, ⟨tb_in (i := 91) (by decide +kernel) (by decide +kernel), tb_in (i := 1541) (by decide +kernel) (by decide +kernel), ⟨by decide, by decide, by decide +kernel⟩⟩⟩
theorem ml_W_242 : Cond.methodLink RL 242 yX5_rawEast ∈ TB := tb_in (i := 1538) (by decide +kernel) (by decide +kernel)
theorem rc_M_rawEast : RC 5 I_M_rawEast := ⟨by decide, _, _, rfl⟩
theorem md_W_rawNorth : MDx I_W_rawNorth 3 := ⟨tb_in (i := 1073) (by decide +kernel) (by decide +kernel), rfl, ⟨tb_in (i := 80) (by decide +kernel) (by decide +kernel), tb_in (i := 1074) (by decide +kernel) (by decide +kernel), ⟨by decide, by decide, by decide +kernel⟩⟩⟩
theorem ml_W_243 : Cond.methodLink RL 243 yL_rawNorth ∈ TB := tb_in (i := 1072) (by decide +kernel) (by decide +kernel)
theorem md_M_rawNorth : MDv I_M_rawNorth 1 := ⟨tb_in (i := 1551) (by decide +kernel) (by decide +kernel), tb_in (i := 1552) (by decide +kernel) (by decide +kernel), rfl, ⟨tb_in (i := 91) (by decide +kernel) (by decide +kernel), tb_in (i := 1553) (by decide +kernel) (by decide +kernel), ⟨by decide, by decide, by decide +kernel⟩⟩⟩
theorem ml_W_245 : Cond.methodLink RL 245 yX5_rawNorth ∈ TB := tb_in (i := 1550) (by decide +kernel) (by decide +kernel)
theorem rc_M_rawNorth : RC 5 I_M_rawNorth := ⟨by decide, _, _, rfl⟩
theorem md_W_east : MDx I_W_east 3 := ⟨tb_in (i := 1080) (by decide +kernel) (by decide +kernel), rfl, ⟨tb_in (i := 80) (by decide +kernel) (by decide +kernel), tb_in (i := 1081) (by decide +kernel) (by decide +kernel), ⟨by decide, by decide, by decide +kernel⟩⟩⟩
theorem ml_W_246 : Cond.methodLink RL 246 yL_east ∈ TB := tb_in (i := 1079) (by decide +kernel) (by decide +kernel)
theorem md_M_east : MDv I_M_east 1 := ⟨tb_in (i := 1555) (by decide +kernel) (by decide +kernel), tb_in (i := 1556) (by decide +kernel) (by decide +kernel), rfl, ⟨tb_in (i := 91) (by decide +kernel) (by decide +kernel), tb_in (i := 1557) (by decide +kernel) (by decide +kernel), ⟨by decide, by decide, by decide +kernel⟩⟩⟩
theorem ml_W_248 : Cond.methodLink RL 248 yX5_east ∈ TB := tb_in (i := 1554) (by decide +kernel) (by decide +kernel)
theorem rc_M_east : RC 5 I_M_east := ⟨by decide, _, _, rfl⟩
theorem md_W_north : MDx I_W_north 3 := ⟨tb_in (i := 1087) (by decide +kernel) (by decide +kernel), rfl, ⟨tb_in (i := 80) (by decide +kernel) (by decide +kernel), tb_in (i := 1088) (by decide +kernel) (by decide +kernel), ⟨by decide, by decide, by decide +kernel⟩⟩⟩
theorem ml_W_249 : Cond.methodLink RL 249 yL_north ∈ TB := tb_in (i := 1086) (by decide +kernel) (by decide +kernel)
theorem md_M_north : MDv I_M_north 1 := ⟨tb_in (i := 1570) (by decide +kernel) (by decide +kernel), tb_in (i := 1571) (by decide +kernel) (by decide +kernel), rfl, ⟨tb_in (i := 91) (by decide +kernel) (by decide +kernel), tb_in (i := 1572) (by decide +kernel) (by decide +kernel), ⟨by decide, by decide, by decide +kernel⟩⟩⟩
theorem ml_W_251 : Cond.methodLink RL 251 yX5_north ∈ TB := tb_in (i := 1569) (by decide +kernel) (by decide +kernel)
theorem rc_M_north : RC 5 I_M_north := ⟨by decide, _, _, rfl⟩
theorem md_W_run : MDx I_W_run 3 := ⟨tb_in (i := 1094) (by decide +kernel) (by decide +kernel), rfl, ⟨tb_in (i := 80) (by decide +kernel) (by decide +kernel), tb_in (i := 1095) (by decide +kernel) (by decide +kernel), ⟨by decide, by decide, by decide +kernel⟩⟩⟩
theorem ml_W_252 : Cond.methodLink RL 252 yL_run ∈ TB := tb_in (i := 1093) (by decide +kernel) (by decide +kernel)
theorem md_M_run : MDv I_M_run 1 := ⟨tb_in (i := 1574) (by decide +kernel) (by decide +kernel), tb_in (i := 1575) (by decide +kernel) (by decide +kernel), rfl, ⟨tb_in (i := 91) (by decide +kernel) (by decide +kernel), tb_in (i := 1576) (by decide +kernel) (by decide +kernel), ⟨by decide, by decide, by decide +kernel⟩⟩⟩
theorem ml_W_254 : Cond.methodLink RL 254 yX5_run ∈ TB := tb_in (i := 1573) (by decide +kernel) (by decide +kernel)
theorem rc_M_run : RC 5 I_M_run := ⟨by decide, _, _, rfl⟩
theorem md_W_distanceFromStart : MDx I_W_distanceFromStart 3 := ⟨tb_in (i := 1101) (by decide +kernel) (by decide +kernel), rfl, ⟨tb_in (i := 80) (by decide +kernel) (by decide +kernel), tb_in (i := 1102) (by decide +kernel) (by decide +kernel), ⟨by decide, by decide, by decide +kernel⟩⟩⟩
theorem ml_W_255 : Cond.methodLink RL 255 yL_distanceFromStart ∈ TB := tb_in (i := 1100) (by decide +kernel) (by decide +kernel)
theorem md_M_distanceFromStart : MDv I_M_distanceFromStart 1 := ⟨tb_in (i := 1578) (by decide +kernel) (by decide +kernel), tb_in (i := 1579) (by decide +kernel) (by decide +kernel), rfl, ⟨tb_in (i := 91) (by decide +kernel) (by decide +kernel), tb_in (i := 1580) (by decide +kernel) (by decide +kernel), ⟨by decide, by decide, by decide +kernel⟩⟩⟩
theorem ml_W_257 : Cond.methodLink RL 257 yX5_distanceFromStart ∈ TB := tb_in (i := 1577) (by decide +kernel) (by decide +kernel)
theorem rc_M_distanceFromStart : RC 5 I_M_distanceFromStart := ⟨by decide, _, _, rfl⟩
theorem ml_W_258 : Cond.methodLink RL 258 yX4_perimeter ∈ TB := tb_in (i := 581) (by decide +kernel) (by decide +kernel)
theorem md_M_perimeter : MDv I_M_perimeter 0 := ⟨tb_in (i := 1585) (by decide +kernel) (by decide +kernel), tb_in (i := 1586) (by decide +kernel) (by decide +kernel), rfl, ⟨tb_in (i := 91) (by decide +kernel) (by decide +kernel), tb_in (i := 1587) (by decide +kernel) (by decide +kernel), ⟨by decide, by decide, by decide +kernel⟩⟩⟩
theorem ml_W_261 : Cond.methodLink RL 261 yX5_perimeter ∈ TB := tb_in (i := 1584) (by decide +kernel) (by decide +kernel)
theorem rc_M_perimeter : RC 5 I_M_perimeter := ⟨by decide, _, _, rfl⟩
theorem md_C_closingEast : MDv I_C_closingEast 0 := ⟨tb_in (i := 646) (by decide +kernel) (by decide +kernel), tb_in (i := 647) (by decide +kernel) (by decide +kernel), rfl, ⟨tb_in (i := 81) (by decide +kernel) (by decide +kernel), tb_in (i := 648) (by decide +kernel) (by decide +kernel), ⟨by decide, by decide, by decide +kernel⟩⟩⟩
theorem ml_W_262 : Cond.methodLink RL 262 yX4_closingEast ∈ TB := tb_in (i := 645) (by decide +kernel) (by decide +kernel)
theorem rc_C_closingEast : RC 4 I_C_closingEast := ⟨by decide, _, _, rfl⟩
theorem md_M_closingEast : MDv I_M_closingEast 0 := ⟨tb_in (i := 1593) (by decide +kernel) (by decide +kernel), tb_in (i := 1594) (by decide +kernel) (by decide +kernel), rfl, ⟨tb_in (i := 91) (by decide +kernel) (by decide +kernel), tb_in (i := 1595) (by decide +kernel) (by decide +kernel), ⟨by decide, by decide, by decide +kernel⟩⟩⟩
theorem ml_W_265 : Cond.methodLink RL 265 yX5_closingEast ∈ TB := tb_in (i := 1592) (by decide +kernel) (by decide +kernel)
theorem rc_M_closingEast : RC 5 I_M_closingEast := ⟨by decide, _, _, rfl⟩
theorem md_C_closingNorth : MDv I_C_closingNorth 0 := ⟨tb_in (i := 651) (by decide +kernel) (by decide +kernel), tb_in (i := 652) (by decide +kernel) (by decide +kernel), rfl, ⟨tb_in (i := 81) (by decide +kernel) (by decide +kernel), tb_in (i := 653) (by decide +kernel) (by decide +kernel), ⟨by decide, by decide, by decide +kernel⟩⟩⟩
theorem ml_W_266 : Cond.methodLink RL 266 yX4_closingNorth ∈ TB := tb_in (i := 650) (by decide +kernel) (by decide +kernel)
theorem rc_C_closingNorth : RC 4 I_C_closingNorth := ⟨by decide, _, _, rfl⟩
theorem md_M_closingNorth : MDv I_M_closingNorth 0 := ⟨tb_in (i := 1597) (by decide +kernel) (by decide +kernel), tb_in (i := 1598) (by decide +kernel) (by decide +kernel), rfl, ⟨tb_in (i := 91) (by decide +kernel) (by decide +kernel), tb_in (i := 1599) (by decide +kernel) (by decide +kernel), ⟨by decide, by decide, by decide +kernel⟩⟩⟩
theorem ml_W_269 : Cond.methodLink RL 269 yX5_closingNorth ∈ TB := tb_in (i := 1596) (by decide +kernel) (by decide +kernel)
theorem rc_M_closingNorth : RC 5 I_M_closingNorth := ⟨by decide, _, _, rfl⟩
theorem md_C_misclosure : MDv I_C_misclosure 0 := ⟨tb_in (i := 656) (by decide +kernel) (by decide +kernel), tb_in (i := 657) (by decide +kernel) (by decide +kernel), rfl, ⟨tb_in (i := 81) (by decide +kernel) (by decide +kernel), tb_in (i := 658) (by decide +kernel) (by decide +kernel), ⟨by decide, by decide, by decide +kernel⟩⟩⟩
theorem ml_W_270 : Cond.methodLink RL 270 yX4_misclosure ∈ TB := tb_in (i := 655) (by decide +kernel) (by decide +kernel)
theorem rc_C_misclosure : RC 4 I_C_misclosure := ⟨by decide, _, _, rfl⟩
theorem md_M_misclosure : MDv I_M_misclosure 0 := ⟨tb_in (i := 1601) (by decide +kernel) (by decide +kernel), tb_in (i := 1602) (by decide +kernel) (by decide +kernel), rfl, ⟨tb_in (i := 91) (by decide +kernel) (by decide +kernel), tb_in (i := 1603) (by decide +kernel) (by decide +kernel), ⟨by decide, by decide, by decide +kernel⟩⟩⟩
theorem ml_W_273 : Cond.methodLink RL 273 yX5_misclosure ∈ TB := tb_in (i := 1600) (by decide +kernel) (by decide +kernel)
theorem rc_M_misclosure : RC 5 I_M_misclosure := ⟨by decide, _, _, rfl⟩
theorem md_C_precision : MDv I_C_precision 0 := ⟨tb_in (i := 668) (by decide +kernel) (by decide +kernel), tb_in (i := 669) (by decide +kernel) (by decide +kernel), rfl, ⟨tb_in (i := 81) (by decide +kernel) (by decide +kernel), tb_in (i := 670) (by decide +kernel) (by decide +kernel), ⟨by decide, by decide, by decide +kernel⟩⟩⟩
theorem ml_W_274 : Cond.methodLink RL 274 yX4_precision ∈ TB := tb_in (i := 667) (by decide +kernel) (by decide +kernel)
theorem rc_C_precision : RC 4 I_C_precision := ⟨by decide, _, _, rfl⟩
theorem md_M_precision : MDv I_M_precision 0 := ⟨tb_in (i := 1609) (by decide +kernel) (by decide +kernel), tb_in (i := 1610) (by decide +kernel) (by decide +kernel), rfl, ⟨tb_in (i := 91) (by decide +kernel) (by decide +kernel), tb_in (i := 1611) (by decide +kernel) (by decide +kernel), ⟨by decide, by decide, by decide +kernel⟩⟩⟩
theorem ml_W_277 : Cond.methodLink RL 277 yX5_precision ∈ TB := tb_in (i := 1608) (by decide +kernel) (by decide +kernel)
theorem rc_M_precision : RC 5 I_M_precision := ⟨by decide, _, _, rfl⟩
theorem md_C_width : MDv I_C_width 0 := ⟨tb_in (i := 672) (by decide +kernel) (by decide +kernel), tb_in (i := 673) (by decide +kernel) (by decide +kernel), rfl, ⟨tb_in (i := 81) (by decide +kernel) (by decide +kernel), tb_in (i := 674) (by decide +kernel) (by decide +kernel), ⟨by decide, by decide, by decide +kernel⟩⟩⟩
theorem ml_W_278 : Cond.methodLink RL 278 yX4_width ∈ TB := tb_in (i := 671) (by decide +kernel) (by decide +kernel)
theorem rc_C_width : RC 4 I_C_width := ⟨by decide, _, _, rfl⟩
theorem md_M_width : MDv I_M_width 0 := ⟨tb_in (i := 1613) (by decide +kernel) (by decide +kernel), tb_in (i := 1614) (by decide +kernel) (by decide +kernel), rfl, ⟨tb_in (i := 91) (by decide +kernel) (by decide +kernel), tb_in (i := 1615) (by decide +kernel) (by decide +kernel), ⟨by decide, by decide, by decide +kernel⟩⟩⟩
theorem ml_W_281 : Cond.methodLink RL 281 yX5_width ∈ TB := tb_in (i := 1612) (by decide +kernel) (by decide +kernel)
theorem rc_M_width : RC 5 I_M_width := ⟨by decide, _, _, rfl⟩
theorem md_C_height : MDv I_C_height 0 := ⟨tb_in (i := 682) (by decide +kernel) (by decide +kernel), tb_in (i := 683) (by decide +kernel) (by decide +kernel), rfl, ⟨tb_in (i := 81) (by decide +kernel) (by decide +kernel), tb_in (i := 684) (by decide +kernel) (by decide +kernel), ⟨by decide, by decide, by decide +kernel⟩⟩⟩
theorem ml_W_282 : Cond.methodLink RL 282 yX4_height ∈ TB := tb_in (i := 681) (by decide +kernel) (by decide +kernel)
theorem rc_C_height : RC 4 I_C_height := ⟨by decide, _, _, rfl⟩
theorem md_M_height : MDv I_M_height 0 := ⟨tb_in (i := 1622) (by decide +kernel) (by decide +kernel), tb_in (i := 1623) (by decide +kernel) (by decide +kernel), rfl, ⟨tb_in (i := 91) (by decide +kernel) (by decide +kernel), tb_in (i := 1624) (by decide +kernel) (by decide +kernel), ⟨by decide, by decide, by decide +kernel⟩⟩⟩
theorem ml_W_285 : Cond.methodLink RL 285 yX5_height ∈ TB := tb_in (i := 1621) (by decide +kernel) (by decide +kernel)
theorem rc_M_height : RC 5 I_M_height := ⟨by decide, _, _, rfl⟩
theorem md_C_farthestStation : MDv I_C_farthestStation 0 := ⟨tb_in (i := 686) (by decide +kernel) (by decide +kernel), tb_in (i := 687) (by decide +kernel) (by decide +kernel), rfl, ⟨tb_in (i := 81) (by decide +kernel) (by decide +kernel), tb_in (i := 688) (by decide +kernel) (by decide +kernel), ⟨by decide, by decide, by decide +kernel⟩⟩⟩
theorem ml_W_286 : Cond.methodLink RL 286 yX4_farthestStation ∈ TB := tb_in (i := 685) (by decide +kernel) (by decide +kernel)
theorem rc_C_farthestStation : RC 4 I_C_farthestStation := ⟨by decide, _, _, rfl⟩
theorem md_M_farthestStation : MDv I_M_farthestStation 0 := ⟨tb_in (i := 1626) (by decide +kernel) (by decide +kernel), tb_in (i := 1627) (by decide +kernel) (by decide +kernel), rfl, ⟨tb_in (i := 91) (by decide +kernel) (by decide +kernel), tb_in (i := 1628) (by decide +kernel) (by decide +kernel), ⟨by decide, by decide, by decide +kernel⟩⟩⟩
theorem ml_W_289 : Cond.methodLink RL 289 yX5_farthestStation ∈ TB := tb_in (i := 1625) (by decide +kernel) (by decide +kernel)
theorem rc_M_farthestStation : RC 5 I_M_farthestStation := ⟨by decide, _, _, rfl⟩
theorem md_C_longestLeg : MDv I_C_longestLeg 0 := ⟨tb_in (i := 694) (by decide +kernel) (by decide +kernel), tb_in (i := 695) (by decide +kernel) (by decide +kernel), rfl, ⟨tb_in (i := 81) (by decide +kernel) (by decide +kernel), tb_in (i := 696) (by decide +kernel) (by decide +kernel), ⟨by decide, by decide, by decide +kernel⟩⟩⟩
theorem ml_W_290 : Cond.methodLink RL 290 yX4_longestLeg ∈ TB := tb_in (i := 693) (by decide +kernel) (by decide +kernel)
theorem rc_C_longestLeg : RC 4 I_C_longestLeg := ⟨by decide, _, _, rfl⟩
theorem md_M_longestLeg : MDv I_M_longestLeg 0 := ⟨tb_in (i := 1630) (by decide +kernel) (by decide +kernel), tb_in (i := 1631) (by decide +kernel) (by decide +kernel), rfl, ⟨tb_in (i := 91) (by decide +kernel) (by decide +kernel), tb_in (i := 1632) (by decide +kernel) (by decide +kernel), ⟨by decide, by decide, by decide +kernel⟩⟩⟩
theorem ml_W_293 : Cond.methodLink RL 293 yX5_longestLeg ∈ TB := tb_in (i := 1629) (by decide +kernel) (by decide +kernel)
theorem rc_M_longestLeg : RC 5 I_M_longestLeg := ⟨by decide, _, _, rfl⟩
theorem ml_W_294 : Cond.methodLink RL 294 yX4_bogLength ∈ TB := tb_in (i := 698) (by decide +kernel) (by decide +kernel)
theorem md_M_bogLength : MDv I_M_bogLength 0 := ⟨tb_in (i := 1634) (by decide +kernel) (by decide +kernel), tb_in (i := 1635) (by decide +kernel) (by decide +kernel), rfl, ⟨tb_in (i := 91) (by decide +kernel) (by decide +kernel), tb_in (i := 1636) (by decide +kernel) (by decide +kernel), ⟨by decide, by decide, by decide +kernel⟩⟩⟩
theorem ml_W_297 : Cond.methodLink RL 297 yX5_bogLength ∈ TB := tb_in (i := 1633) (by decide +kernel) (by decide +kernel)
theorem rc_M_bogLength : RC 5 I_M_bogLength := ⟨by decide, _, _, rfl⟩
theorem md_C_area : MDv I_C_area 0 := ⟨tb_in (i := 703) (by decide +kernel) (by decide +kernel), tb_in (i := 704) (by decide +kernel) (by decide +kernel), rfl, ⟨tb_in (i := 81) (by decide +kernel) (by decide +kernel), tb_in (i := 705) (by decide +kernel) (by decide +kernel), ⟨by decide, by decide, by decide +kernel⟩⟩⟩
theorem ml_W_298 : Cond.methodLink RL 298 yX4_area ∈ TB := tb_in (i := 702) (by decide +kernel) (by decide +kernel)
theorem rc_C_area : RC 4 I_C_area := ⟨by decide, _, _, rfl⟩
theorem md_M_area : MDv I_M_area 0 := ⟨tb_in (i := 1642) (by decide +kernel) (by decide +kernel), tb_in (i := 1643) (by decide +kernel) (by decide +kernel), rfl, ⟨tb_in (i := 91) (by decide +kernel) (by decide +kernel), tb_in (i := 1644) (by decide +kernel) (by decide +kernel), ⟨by decide, by decide, by decide +kernel⟩⟩⟩
theorem ml_W_302 : Cond.methodLink RL 302 yX5_area ∈ TB := tb_in (i := 1641) (by decide +kernel) (by decide +kernel)
theorem rc_M_area : RC 5 I_M_area := ⟨by decide, _, _, rfl⟩
theorem md_W_misclosureIfDropped : MDx I_W_misclosureIfDropped 3 := ⟨tb_in (i := 1108) (by decide +kernel) (by decide +kernel), rfl, ⟨tb_in (i := 80) (by decide +kernel) (by decide +kernel), tb_in (i := 1109) (by decide +kernel) (by decide +kernel), ⟨by decide, by decide, by decide +kernel⟩⟩⟩
theorem ml_W_303 : Cond.methodLink RL 303 yL_misclosureIfDropped ∈ TB := tb_in (i := 1107) (by decide +kernel) (by decide +kernel)
theorem md_M_misclosureIfDropped : MDv I_M_misclosureIfDropped 1 := ⟨tb_in (i := 1648) (by decide +kernel) (by decide +kernel), tb_in (i := 1649) (by decide +kernel) (by decide +kernel), rfl, ⟨tb_in (i := 91) (by decide +kernel) (by decide +kernel), tb_in (i := 1650) (by decide +kernel) (by decide +kernel), ⟨by decide, by decide, by decide +kernel⟩⟩⟩
theorem ml_W_305 : Cond.methodLink RL 305 yX5_misclosureIfDropped ∈ TB := tb_in (i := 1647) (by decide +kernel) (by decide +kernel)
theorem rc_M_misclosureIfDropped : RC 5 I_M_misclosureIfDropped := ⟨by decide, _, _, rfl⟩
theorem md_C_suspectLeg : MDv I_C_suspectLeg 0 := ⟨tb_in (i := 715) (by decide +kernel) (by decide +kernel), tb_in (i := 716) (by decide +kernel) (by decide +kernel), rfl, ⟨tb_in (i := 81) (by decide +kernel) (by decide +kernel), tb_in (i := 717) (by decide +kernel) (by decide +kernel), ⟨by decide, by decide, by decide +kernel⟩⟩⟩
theorem ml_W_306 : Cond.methodLink RL 306 yX4_suspectLeg ∈ TB := tb_in (i := 714) (by decide +kernel) (by decide +kernel)
theorem rc_C_suspectLeg : RC 4 I_C_suspectLeg := ⟨by decide, _, _, rfl⟩
theorem md_M_suspectLeg : MDv I_M_suspectLeg 0 := ⟨tb_in (i := 1656) (by decide +kernel) (by decide +kernel), tb_in (i := 1657) (by decide +kernel) (by decide +kernel), rfl, ⟨tb_in (i := 91) (by decide +kernel) (by decide +kernel), tb_in (i := 1658) (by decide +kernel) (by decide +kernel), ⟨by decide, by decide, by decide +kernel⟩⟩⟩
theorem ml_W_309 : Cond.methodLink RL 309 yX5_suspectLeg ∈ TB := tb_in (i := 1655) (by decide +kernel) (by decide +kernel)
theorem rc_M_suspectLeg : RC 5 I_M_suspectLeg := ⟨by decide, _, _, rfl⟩
theorem md_C_bestPace : MDv I_C_bestPace 0 := ⟨tb_in (i := 724) (by decide +kernel) (by decide +kernel), tb_in (i := 725) (by decide +kernel) (by decide +kernel), rfl, ⟨tb_in (i := 81) (by decide +kernel) (by decide +kernel), tb_in (i := 726) (by decide +kernel) (by decide +kernel), ⟨by decide, by decide, by decide +kernel⟩⟩⟩
theorem ml_W_310 : Cond.methodLink RL 310 yX4_bestPace ∈ TB := tb_in (i := 723) (by decide +kernel) (by decide +kernel)
theorem rc_C_bestPace : RC 4 I_C_bestPace := ⟨by decide, _, _, rfl⟩
theorem md_M_bestPace : MDv I_M_bestPace 0 := ⟨tb_in (i := 1660) (by decide +kernel) (by decide +kernel), tb_in (i := 1661) (by decide +kernel) (by decide +kernel), rfl, ⟨tb_in (i := 91) (by decide +kernel) (by decide +kernel), tb_in (i := 1662) (by decide +kernel) (by decide +kernel), ⟨by decide, by decide, by decide +kernel⟩⟩⟩
theorem ml_W_313 : Cond.methodLink RL 313 yX5_bestPace ∈ TB := tb_in (i := 1659) (by decide +kernel) (by decide +kernel)
theorem rc_M_bestPace : RC 5 I_M_bestPace := ⟨by decide, _, _, rfl⟩
theorem md_C_inconsistencies : MDv I_C_inconsistencies 0 := ⟨tb_in (i := 739) (by decide +kernel) (by decide +kernel), tb_in (i := 740) (by decide +kernel) (by decide +kernel), rfl, ⟨tb_in (i := 81) (by decide +kernel) (by decide +kernel), tb_in (i := 741) (by decide +kernel) (by decide +kernel), ⟨by decide, by decide, by decide +kernel⟩⟩⟩
theorem ml_W_314 : Cond.methodLink RL 314 yX4_inconsistencies ∈ TB := tb_in (i := 738) (by decide +kernel) (by decide +kernel)
theorem rc_C_inconsistencies : RC 4 I_C_inconsistencies := ⟨by decide, _, _, rfl⟩
theorem md_M_inconsistencies : MDv I_M_inconsistencies 0 := ⟨tb_in (i := 1664) (by decide +kernel) (by decide +kernel), tb_in (i := 1665) (by decide +kernel) (by decide +kernel), rfl, ⟨tb_in (i := 91) (by decide +kernel) (by decide +kernel), tb_in (i := 1666) (by decide +kernel) (by decide +kernel), ⟨by decide, by decide, by decide +kernel⟩⟩⟩
theorem ml_W_317 : Cond.methodLink RL 317 yX5_inconsistencies ∈ TB := tb_in (i := 1663) (by decide +kernel) (by decide +kernel)
theorem rc_M_inconsistencies : RC 5 I_M_inconsistencies := ⟨by decide, _, _, rfl⟩
theorem md_C_meanLeg : MDv I_C_meanLeg 0 := ⟨tb_in (i := 744) (by decide +kernel) (by decide +kernel), tb_in (i := 745) (by decide +kernel) (by decide +kernel), rfl, ⟨tb_in (i := 81) (by decide +kernel) (by decide +kernel), tb_in (i := 746) (by decide +kernel) (by decide +kernel), ⟨by decide, by decide, by decide +kernel⟩⟩⟩
theorem ml_W_318 : Cond.methodLink RL 318 yX4_meanLeg ∈ TB := tb_in (i := 743) (by decide +kernel) (by decide +kernel)
theorem rc_C_meanLeg : RC 4 I_C_meanLeg := ⟨by decide, _, _, rfl⟩
theorem md_M_meanLeg : MDv I_M_meanLeg 0 := ⟨tb_in (i := 1668) (by decide +kernel) (by decide +kernel), tb_in (i := 1669) (by decide +kernel) (by decide +kernel), rfl, ⟨tb_in (i := 91) (by decide +kernel) (by decide +kernel), tb_in (i := 1670) (by decide +kernel) (by decide +kernel), ⟨by decide, by decide, by decide +kernel⟩⟩⟩
theorem ml_W_322 : Cond.methodLink RL 322 yX5_meanLeg ∈ TB := tb_in (i := 1667) (by decide +kernel) (by decide +kernel)
theorem rc_M_meanLeg : RC 5 I_M_meanLeg := ⟨by decide, _, _, rfl⟩
theorem md_C_bogShare : MDv I_C_bogShare 0 := ⟨tb_in (i := 749) (by decide +kernel) (by decide +kernel), tb_in (i := 750) (by decide +kernel) (by decide +kernel), rfl, ⟨tb_in (i := 81) (by decide +kernel) (by decide +kernel), tb_in (i := 751) (by decide +kernel) (by decide +kernel), ⟨by decide, by decide, by decide +kernel⟩⟩⟩
theorem ml_W_323 : Cond.methodLink RL 323 yX4_bogShare ∈ TB := tb_in (i := 748) (by decide +kernel) (by decide +kernel)
theorem rc_C_bogShare : RC 4 I_C_bogShare := ⟨by decide, _, _, rfl⟩
theorem md_M_bogShare : MDv I_M_bogShare 0 := ⟨tb_in (i := 1672) (by decide +kernel) (by decide +kernel), tb_in (i := 1673) (by decide +kernel) (by decide +kernel), rfl, ⟨tb_in (i := 91) (by decide +kernel) (by decide +kernel), tb_in (i := 1674) (by decide +kernel) (by decide +kernel), ⟨by decide, by decide, by decide +kernel⟩⟩⟩
theorem ml_W_327 : Cond.methodLink RL 327 yX5_bogShare ∈ TB := tb_in (i := 1671) (by decide +kernel) (by decide +kernel)
theorem rc_M_bogShare : RC 5 I_M_bogShare := ⟨by decide, _, _, rfl⟩
theorem md_C_writeStations : MDv I_C_writeStations 0 := ⟨tb_in (i := 754) (by decide +kernel) (by decide +kernel), tb_in (i := 755) (by decide +kernel) (by decide +kernel), rfl, ⟨tb_in (i := 81) (by decide +kernel) (by decide +kernel), tb_in (i := 756) (by decide +kernel) (by decide +kernel), ⟨by decide, by decide, by decide +kernel⟩⟩⟩
theorem ml_W_328 : Cond.methodLink RL 328 yX4_writeStations ∈ TB := tb_in (i := 753) (by decide +kernel) (by decide +kernel)
theorem rc_C_writeStations : RC 4 I_C_writeStations := ⟨by decide, _, _, rfl⟩
theorem md_M_writeStations : MDv I_M_writeStations 0 := ⟨tb_in (i := 1676) (by decide +kernel) (by decide +kernel), tb_in (i := 1677) (by decide +kernel) (by decide +kernel), rfl, ⟨tb_in (i := 91) (by decide +kernel) (by decide +kernel), tb_in (i := 1678) (by decide +kernel) (by decide +kernel), ⟨by decide, by decide, by decide +kernel⟩⟩⟩
theorem ml_W_331 : Cond.methodLink RL 331 yX5_writeStations ∈ TB := tb_in (i := 1675) (by decide +kernel) (by decide +kernel)
theorem rc_M_writeStations : RC 5 I_M_writeStations := ⟨by decide, _, _, rfl⟩
theorem md_C_outputByte : MDv I_C_outputByte 1 := ⟨tb_in (i := 770) (by decide +kernel) (by decide +kernel), tb_in (i := 771) (by decide +kernel) (by decide +kernel), rfl, ⟨tb_in (i := 81) (by decide +kernel) (by decide +kernel), tb_in (i := 772) (by decide +kernel) (by decide +kernel), ⟨by decide, by decide, by decide +kernel⟩⟩⟩
theorem ml_W_332 : Cond.methodLink RL 332 yX4_outputByte ∈ TB := tb_in (i := 769) (by decide +kernel) (by decide +kernel)
theorem rc_C_outputByte : RC 4 I_C_outputByte := ⟨by decide, _, _, rfl⟩
theorem md_M_outputByte : MDv I_M_outputByte 1 := ⟨tb_in (i := 1689) (by decide +kernel) (by decide +kernel), tb_in (i := 1690) (by decide +kernel) (by decide +kernel), rfl, ⟨tb_in (i := 91) (by decide +kernel) (by decide +kernel), tb_in (i := 1691) (by decide +kernel) (by decide +kernel), ⟨by decide, by decide, by decide +kernel⟩⟩⟩
theorem ml_W_335 : Cond.methodLink RL 335 yX5_outputByte ∈ TB := tb_in (i := 1688) (by decide +kernel) (by decide +kernel)
theorem rc_M_outputByte : RC 5 I_M_outputByte := ⟨by decide, _, _, rfl⟩
theorem md_C_setAdjusted : MDv I_C_setAdjusted 1 := ⟨tb_in (i := 548) (by decide +kernel) (by decide +kernel), tb_in (i := 549) (by decide +kernel) (by decide +kernel), rfl, ⟨tb_in (i := 81) (by decide +kernel) (by decide +kernel), tb_in (i := 550) (by decide +kernel) (by decide +kernel), ⟨by decide, by decide, by decide +kernel⟩⟩⟩
theorem ml_W_164 : Cond.methodLink RL 164 yX4_setAdjusted ∈ TB := tb_in (i := 547) (by decide +kernel) (by decide +kernel)
theorem rc_C_setAdjusted : RC 4 I_C_setAdjusted := ⟨by decide, _, _, rfl⟩
theorem md_M_setAdjusted : MDv I_M_setAdjusted 1 := ⟨tb_in (i := 1419) (by decide +kernel) (by decide +kernel), tb_in (i := 1420) (by decide +kernel) (by decide +kernel), rfl, ⟨tb_in (i := 91) (by decide +kernel) (by decide +kernel), tb_in (i := 1421) (by decide +kernel) (by decide +kernel), ⟨by decide, by decide, by decide +kernel⟩⟩⟩
theorem ml_W_168 : Cond.methodLink RL 168 yX5_setAdjusted ∈ TB := tb_in (i := 1418) (by decide +kernel) (by decide +kernel)
theorem rc_M_setAdjusted : RC 5 I_M_setAdjusted := ⟨by decide, _, _, rfl⟩
