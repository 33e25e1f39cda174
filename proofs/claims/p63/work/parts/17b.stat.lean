/-! words -/
theorem md_C_legCount : MDv I_C_legCount 0 := ⟨tb_in (i := 484) (by decide +kernel) (by decide +kernel), tb_in (i := 485) (by decide +kernel) (by decide +kernel), rfl, ⟨tb_in (i := 31) (by decide +kernel) (by decide +kernel), tb_in (i := 486) (by decide +kernel) (by decide +kernel), ⟨by decide, by decide, by decide +kernel⟩⟩⟩
theorem ml_W_126 : Cond.methodLink RL 126 yX4_legCount ∈ TB := tb_in (i := 483) (by decide +kernel) (by decide +kernel)
theorem rc_C_legCount : RC 4 I_C_legCount := ⟨by decide, _, _, rfl⟩
theorem md_C_stationCount : MDv I_C_stationCount 0 := ⟨tb_in (i := 696) (by decide +kernel) (by decide +kernel), tb_in (i := 697) (by decide +kernel) (by decide +kernel), rfl, ⟨tb_in (i := 31) (by decide +kernel) (by decide +kernel), tb_in (i := 698) (by decide +kernel) (by decide +kernel), ⟨by decide, by decide, by decide +kernel⟩⟩⟩
theorem ml_W_129 : Cond.methodLink RL 129 yX4_stationCount ∈ TB := tb_in (i := 695) (by decide +kernel) (by decide +kernel)
theorem rc_C_stationCount : RC 4 I_C_stationCount := ⟨by decide, _, _, rfl⟩
theorem md_W_rawEast : MDx I_W_rawEast 2 := ⟨tb_in (i := 700) (by decide +kernel) (by decide +kernel), rfl, ⟨tb_in (i := 30) (by decide +kernel) (by decide +kernel), tb_in (i := 701) (by decide +kernel) (by decide +kernel), ⟨by decide, by decide, by decide +kernel⟩⟩⟩
theorem ml_W_132 : Cond.methodLink RL 132 yL_rawEast ∈ TB := tb_in (i := 699) (by decide +kernel) (by decide +kernel)
theorem md_W_east : MDx I_W_east 2 := ⟨tb_in (i := 729) (by decide +kernel) (by decide +kernel), rfl, ⟨tb_in (i := 30) (by decide +kernel) (by decide +kernel), tb_in (i := 730) (by decide +kernel) (by decide +kernel), ⟨by decide, by decide, by decide +kernel⟩⟩⟩
theorem ml_W_134 : Cond.methodLink RL 134 yL_east ∈ TB := tb_in (i := 728) (by decide +kernel) (by decide +kernel)
theorem md_W_run : MDx I_W_run 2 := ⟨tb_in (i := 736) (by decide +kernel) (by decide +kernel), rfl, ⟨tb_in (i := 30) (by decide +kernel) (by decide +kernel), tb_in (i := 737) (by decide +kernel) (by decide +kernel), ⟨by decide, by decide, by decide +kernel⟩⟩⟩
theorem ml_W_136 : Cond.methodLink RL 136 yL_run ∈ TB := tb_in (i := 735) (by decide +kernel) (by decide +kernel)
theorem md_W_horizontalLength : MDx I_W_horizontalLength 2 := ⟨tb_in (i := 743) (by decide +kernel) (by decide +kernel), rfl, ⟨tb_in (i := 30) (by decide +kernel) (by decide +kernel), tb_in (i := 744) (by decide +kernel) (by decide +kernel), ⟨by decide, by decide, by decide +kernel⟩⟩⟩
theorem ml_W_138 : Cond.methodLink RL 138 yL_horizontalLength ∈ TB := tb_in (i := 742) (by decide +kernel) (by decide +kernel)
theorem md_W_bearing : MDx I_W_bearing 2 := ⟨tb_in (i := 756) (by decide +kernel) (by decide +kernel), rfl, ⟨tb_in (i := 30) (by decide +kernel) (by decide +kernel), tb_in (i := 757) (by decide +kernel) (by decide +kernel), ⟨by decide, by decide, by decide +kernel⟩⟩⟩
theorem ml_W_140 : Cond.methodLink RL 140 yL_bearing ∈ TB := tb_in (i := 755) (by decide +kernel) (by decide +kernel)
theorem md_W_slopeLength : MDx I_W_slopeLength 2 := ⟨tb_in (i := 763) (by decide +kernel) (by decide +kernel), rfl, ⟨tb_in (i := 30) (by decide +kernel) (by decide +kernel), tb_in (i := 764) (by decide +kernel) (by decide +kernel), ⟨by decide, by decide, by decide +kernel⟩⟩⟩
theorem ml_W_142 : Cond.methodLink RL 142 yL_slopeLength ∈ TB := tb_in (i := 762) (by decide +kernel) (by decide +kernel)
theorem md_W_isBog : MDx I_W_isBog 2 := ⟨tb_in (i := 771) (by decide +kernel) (by decide +kernel), rfl, ⟨tb_in (i := 30) (by decide +kernel) (by decide +kernel), tb_in (i := 772) (by decide +kernel) (by decide +kernel), ⟨by decide, by decide, by decide +kernel⟩⟩⟩
theorem ml_W_144 : Cond.methodLink RL 144 yL_isBog ∈ TB := tb_in (i := 770) (by decide +kernel) (by decide +kernel)
theorem md_W_readLength : MDx I_W_readLength 2 := ⟨tb_in (i := 778) (by decide +kernel) (by decide +kernel), rfl, ⟨tb_in (i := 30) (by decide +kernel) (by decide +kernel), tb_in (i := 779) (by decide +kernel) (by decide +kernel), ⟨by decide, by decide, by decide +kernel⟩⟩⟩
theorem ml_W_146 : Cond.methodLink RL 146 yL_readLength ∈ TB := tb_in (i := 777) (by decide +kernel) (by decide +kernel)
theorem md_W_pins : MDx I_W_pins 2 := ⟨tb_in (i := 786) (by decide +kernel) (by decide +kernel), rfl, ⟨tb_in (i := 30) (by decide +kernel) (by decide +kernel), tb_in (i := 787) (by decide +kernel) (by decide +kernel), ⟨by decide, by decide, by decide +kernel⟩⟩⟩
theorem ml_W_148 : Cond.methodLink RL 148 yL_pins ∈ TB := tb_in (i := 785) (by decide +kernel) (by decide +kernel)
theorem md_C_isAdjusted : MDv I_C_isAdjusted 0 := ⟨tb_in (i := 492) (by decide +kernel) (by decide +kernel), tb_in (i := 493) (by decide +kernel) (by decide +kernel), rfl, ⟨tb_in (i := 31) (by decide +kernel) (by decide +kernel), tb_in (i := 494) (by decide +kernel) (by decide +kernel), ⟨by decide, by decide, by decide +kernel⟩⟩⟩
theorem ml_W_160 : Cond.methodLink RL 160 yX4_isAdjusted ∈ TB := tb_in (i := 491) (by decide +kernel) (by decide +kernel)
theorem rc_C_isAdjusted : RC 4 I_C_isAdjusted := ⟨by decide, _, _, rfl⟩
theorem md_W_north : MDx I_W_north 2 := ⟨tb_in (i := 830) (by decide +kernel) (by decide +kernel), rfl, ⟨tb_in (i := 30) (by decide +kernel) (by decide +kernel), tb_in (i := 831) (by decide +kernel) (by decide +kernel), ⟨by decide, by decide, by decide +kernel⟩⟩⟩
theorem ml_W_164 : Cond.methodLink RL 164 yL_north ∈ TB := tb_in (i := 829) (by decide +kernel) (by decide +kernel)
theorem md_W_eastStep : MDx I_W_eastStep 2 := ⟨tb_in (i := 793) (by decide +kernel) (by decide +kernel), rfl, ⟨tb_in (i := 30) (by decide +kernel) (by decide +kernel), tb_in (i := 794) (by decide +kernel) (by decide +kernel), ⟨by decide, by decide, by decide +kernel⟩⟩⟩
theorem ml_W_150 : Cond.methodLink RL 150 yL_eastStep ∈ TB := tb_in (i := 792) (by decide +kernel) (by decide +kernel)
theorem md_W_northStep : MDx I_W_northStep 2 := ⟨tb_in (i := 802) (by decide +kernel) (by decide +kernel), rfl, ⟨tb_in (i := 30) (by decide +kernel) (by decide +kernel), tb_in (i := 803) (by decide +kernel) (by decide +kernel), ⟨by decide, by decide, by decide +kernel⟩⟩⟩
theorem ml_W_152 : Cond.methodLink RL 152 yL_northStep ∈ TB := tb_in (i := 801) (by decide +kernel) (by decide +kernel)
theorem md_C_misclosure : MDv I_C_misclosure 0 := ⟨tb_in (i := 560) (by decide +kernel) (by decide +kernel), tb_in (i := 561) (by decide +kernel) (by decide +kernel), rfl, ⟨tb_in (i := 31) (by decide +kernel) (by decide +kernel), tb_in (i := 562) (by decide +kernel) (by decide +kernel), ⟨by decide, by decide, by decide +kernel⟩⟩⟩
theorem ml_W_175 : Cond.methodLink RL 175 yX4_misclosure ∈ TB := tb_in (i := 559) (by decide +kernel) (by decide +kernel)
theorem rc_C_misclosure : RC 4 I_C_misclosure := ⟨by decide, _, _, rfl⟩
theorem md_C_perimeter : MDv I_C_perimeter 0 := ⟨tb_in (i := 496) (by decide +kernel) (by decide +kernel), tb_in (i := 497) (by decide +kernel) (by decide +kernel), rfl, ⟨tb_in (i := 31) (by decide +kernel) (by decide +kernel), tb_in (i := 498) (by decide +kernel) (by decide +kernel), ⟨by decide, by decide, by decide +kernel⟩⟩⟩
theorem ml_W_178 : Cond.methodLink RL 178 yX4_perimeter ∈ TB := tb_in (i := 495) (by decide +kernel) (by decide +kernel)
theorem rc_C_perimeter : RC 4 I_C_perimeter := ⟨by decide, _, _, rfl⟩
theorem md_C_closingEast : MDv I_C_closingEast 0 := ⟨tb_in (i := 855) (by decide +kernel) (by decide +kernel), tb_in (i := 856) (by decide +kernel) (by decide +kernel), rfl, ⟨tb_in (i := 31) (by decide +kernel) (by decide +kernel), tb_in (i := 857) (by decide +kernel) (by decide +kernel), ⟨by decide, by decide, by decide +kernel⟩⟩⟩
theorem ml_W_181 : Cond.methodLink RL 181 yX4_closingEast ∈ TB := tb_in (i := 854) (by decide +kernel) (by decide +kernel)
theorem rc_C_closingEast : RC 4 I_C_closingEast := ⟨by decide, _, _, rfl⟩
theorem md_C_closingNorth : MDv I_C_closingNorth 0 := ⟨tb_in (i := 860) (by decide +kernel) (by decide +kernel), tb_in (i := 861) (by decide +kernel) (by decide +kernel), rfl, ⟨tb_in (i := 31) (by decide +kernel) (by decide +kernel), tb_in (i := 862) (by decide +kernel) (by decide +kernel), ⟨by decide, by decide, by decide +kernel⟩⟩⟩
theorem ml_W_184 : Cond.methodLink RL 184 yX4_closingNorth ∈ TB := tb_in (i := 859) (by decide +kernel) (by decide +kernel)
theorem rc_C_closingNorth : RC 4 I_C_closingNorth := ⟨by decide, _, _, rfl⟩
theorem md_W_isRoot : MDs I_W_isRoot 2 := ⟨tb_in (i := 848) (by decide +kernel) (by decide +kernel), rfl, ⟨tb_in (i := 30) (by decide +kernel) (by decide +kernel), tb_in (i := 849) (by decide +kernel) (by decide +kernel), ⟨by decide, by decide, by decide +kernel⟩⟩⟩
theorem ml_W_168 : Cond.methodLink RL 168 yL_isRoot ∈ TB := tb_in (i := 847) (by decide +kernel) (by decide +kernel)
theorem md_C_precision : MDv I_C_precision 0 := ⟨tb_in (i := 865) (by decide +kernel) (by decide +kernel), tb_in (i := 866) (by decide +kernel) (by decide +kernel), rfl, ⟨tb_in (i := 31) (by decide +kernel) (by decide +kernel), tb_in (i := 867) (by decide +kernel) (by decide +kernel), ⟨by decide, by decide, by decide +kernel⟩⟩⟩
theorem ml_W_187 : Cond.methodLink RL 187 yX4_precision ∈ TB := tb_in (i := 864) (by decide +kernel) (by decide +kernel)
theorem rc_C_precision : RC 4 I_C_precision := ⟨by decide, _, _, rfl⟩
theorem md_C_bogLength : MDv I_C_bogLength 0 := ⟨tb_in (i := 869) (by decide +kernel) (by decide +kernel), tb_in (i := 870) (by decide +kernel) (by decide +kernel), rfl, ⟨tb_in (i := 31) (by decide +kernel) (by decide +kernel), tb_in (i := 871) (by decide +kernel) (by decide +kernel), ⟨by decide, by decide, by decide +kernel⟩⟩⟩
theorem ml_W_190 : Cond.methodLink RL 190 yX4_bogLength ∈ TB := tb_in (i := 868) (by decide +kernel) (by decide +kernel)
theorem rc_C_bogLength : RC 4 I_C_bogLength := ⟨by decide, _, _, rfl⟩
theorem md_C_longestLeg : MDv I_C_longestLeg 0 := ⟨tb_in (i := 873) (by decide +kernel) (by decide +kernel), tb_in (i := 874) (by decide +kernel) (by decide +kernel), rfl, ⟨tb_in (i := 31) (by decide +kernel) (by decide +kernel), tb_in (i := 875) (by decide +kernel) (by decide +kernel), ⟨by decide, by decide, by decide +kernel⟩⟩⟩
theorem ml_W_193 : Cond.methodLink RL 193 yX4_longestLeg ∈ TB := tb_in (i := 872) (by decide +kernel) (by decide +kernel)
theorem rc_C_longestLeg : RC 4 I_C_longestLeg := ⟨by decide, _, _, rfl⟩
theorem md_C_area : MDv I_C_area 0 := ⟨tb_in (i := 877) (by decide +kernel) (by decide +kernel), tb_in (i := 878) (by decide +kernel) (by decide +kernel), rfl, ⟨tb_in (i := 31) (by decide +kernel) (by decide +kernel), tb_in (i := 879) (by decide +kernel) (by decide +kernel), ⟨by decide, by decide, by decide +kernel⟩⟩⟩
theorem ml_W_196 : Cond.methodLink RL 196 yX4_area ∈ TB := tb_in (i := 876) (by decide +kernel) (by decide +kernel)
theorem rc_C_area : RC 4 I_C_area := ⟨by decide, _, _, rfl⟩
theorem ml_W_200 : Cond.methodLink RL 200 yJ9_abs_067f4 ∈ TB := tb_in (i := 888) (by decide +kernel) (by decide +kernel)
theorem cj_W_206 : Cond.constantLong RL 206 2 ∈ TB := tb_in (i := 889) (by decide +kernel) (by decide +kernel)
theorem md_C_width : MDv I_C_width 0 := ⟨tb_in (i := 891) (by decide +kernel) (by decide +kernel), tb_in (i := 892) (by decide +kernel) (by decide +kernel), rfl, ⟨tb_in (i := 31) (by decide +kernel) (by decide +kernel), tb_in (i := 893) (by decide +kernel) (by decide +kernel), ⟨by decide, by decide, by decide +kernel⟩⟩⟩
theorem ml_W_208 : Cond.methodLink RL 208 yX4_width ∈ TB := tb_in (i := 890) (by decide +kernel) (by decide +kernel)
theorem rc_C_width : RC 4 I_C_width := ⟨by decide, _, _, rfl⟩
theorem md_C_height : MDv I_C_height 0 := ⟨tb_in (i := 901) (by decide +kernel) (by decide +kernel), tb_in (i := 902) (by decide +kernel) (by decide +kernel), rfl, ⟨tb_in (i := 31) (by decide +kernel) (by decide +kernel), tb_in (i := 903) (by decide +kernel) (by decide +kernel), ⟨by decide, by decide, by decide +kernel⟩⟩⟩
theorem ml_W_211 : Cond.methodLink RL 211 yX4_height ∈ TB := tb_in (i := 900) (by decide +kernel) (by decide +kernel)
theorem rc_C_height : RC 4 I_C_height := ⟨by decide, _, _, rfl⟩
theorem md_C_inconsistencies : MDv I_C_inconsistencies 0 := ⟨tb_in (i := 905) (by decide +kernel) (by decide +kernel), tb_in (i := 906) (by decide +kernel) (by decide +kernel), rfl, ⟨tb_in (i := 31) (by decide +kernel) (by decide +kernel), tb_in (i := 907) (by decide +kernel) (by decide +kernel), ⟨by decide, by decide, by decide +kernel⟩⟩⟩
theorem ml_W_214 : Cond.methodLink RL 214 yX4_inconsistencies ∈ TB := tb_in (i := 904) (by decide +kernel) (by decide +kernel)
theorem rc_C_inconsistencies : RC 4 I_C_inconsistencies := ⟨by decide, _, _, rfl⟩
theorem md_W_tallies : MDx I_W_tallies 2 := ⟨tb_in (i := 809) (by decide +kernel) (by decide +kernel), rfl, ⟨tb_in (i := 30) (by decide +kernel) (by decide +kernel), tb_in (i := 810) (by decide +kernel) (by decide +kernel), ⟨by decide, by decide, by decide +kernel⟩⟩⟩
theorem ml_W_154 : Cond.methodLink RL 154 yL_tallies ∈ TB := tb_in (i := 808) (by decide +kernel) (by decide +kernel)
theorem md_W_droppedPins : MDx I_W_droppedPins 2 := ⟨tb_in (i := 816) (by decide +kernel) (by decide +kernel), rfl, ⟨tb_in (i := 30) (by decide +kernel) (by decide +kernel), tb_in (i := 817) (by decide +kernel) (by decide +kernel), ⟨by decide, by decide, by decide +kernel⟩⟩⟩
theorem ml_W_156 : Cond.methodLink RL 156 yL_droppedPins ∈ TB := tb_in (i := 815) (by decide +kernel) (by decide +kernel)
theorem md_W_rawNorth : MDx I_W_rawNorth 2 := ⟨tb_in (i := 823) (by decide +kernel) (by decide +kernel), rfl, ⟨tb_in (i := 30) (by decide +kernel) (by decide +kernel), tb_in (i := 824) (by decide +kernel) (by decide +kernel), ⟨by decide, by decide, by decide +kernel⟩⟩⟩
theorem ml_W_158 : Cond.methodLink RL 158 yL_rawNorth ∈ TB := tb_in (i := 822) (by decide +kernel) (by decide +kernel)
theorem md_W_distanceFromStart : MDx I_W_distanceFromStart 2 := ⟨tb_in (i := 837) (by decide +kernel) (by decide +kernel), rfl, ⟨tb_in (i := 30) (by decide +kernel) (by decide +kernel), tb_in (i := 838) (by decide +kernel) (by decide +kernel), ⟨by decide, by decide, by decide +kernel⟩⟩⟩
theorem ml_W_166 : Cond.methodLink RL 166 yL_distanceFromStart ∈ TB := tb_in (i := 836) (by decide +kernel) (by decide +kernel)
theorem md_C_farthestStation : MDv I_C_farthestStation 0 := ⟨tb_in (i := 851) (by decide +kernel) (by decide +kernel), tb_in (i := 852) (by decide +kernel) (by decide +kernel), rfl, ⟨tb_in (i := 31) (by decide +kernel) (by decide +kernel), tb_in (i := 853) (by decide +kernel) (by decide +kernel), ⟨by decide, by decide, by decide +kernel⟩⟩⟩
theorem ml_W_172 : Cond.methodLink RL 172 yX4_farthestStation ∈ TB := tb_in (i := 850) (by decide +kernel) (by decide +kernel)
theorem rc_C_farthestStation : RC 4 I_C_farthestStation := ⟨by decide, _, _, rfl⟩
theorem md_W_draw : MDs I_W_draw 2 := ⟨tb_in (i := 689) (by decide +kernel) (by decide +kernel), rfl, ⟨tb_in (i := 30) (by decide +kernel) (by decide +kernel), tb_in (i := 690) (by decide +kernel) (by decide +kernel), ⟨by decide, by decide, by decide +kernel⟩⟩⟩
theorem ml_W_217 : Cond.methodLink RL 217 yL_draw ∈ TB := tb_in (i := 688) (by decide +kernel) (by decide +kernel)
theorem md_W_removeLast : MDx I_W_removeLast 1 := ⟨tb_in (i := 1018) (by decide +kernel) (by decide +kernel), rfl, ⟨tb_in (i := 30) (by decide +kernel) (by decide +kernel), tb_in (i := 1019) (by decide +kernel) (by decide +kernel), ⟨by decide, by decide, by decide +kernel⟩⟩⟩
theorem ml_W_255 : Cond.methodLink RL 255 yL_removeLast ∈ TB := tb_in (i := 1017) (by decide +kernel) (by decide +kernel)
theorem sp_300 : (Int16.ofInt 300).toInt32 = 300 := by decide
theorem md_W_addBog : MDx I_W_addBog 3 := ⟨tb_in (i := 939) (by decide +kernel) (by decide +kernel), rfl, ⟨tb_in (i := 30) (by decide +kernel) (by decide +kernel), tb_in (i := 940) (by decide +kernel) (by decide +kernel), ⟨by decide, by decide, by decide +kernel⟩⟩⟩
theorem ml_W_227 : Cond.methodLink RL 227 yL_addBog ∈ TB := tb_in (i := 938) (by decide +kernel) (by decide +kernel)
theorem md_C_pace : MDv I_C_pace 0 := ⟨tb_in (i := 948) (by decide +kernel) (by decide +kernel), tb_in (i := 949) (by decide +kernel) (by decide +kernel), rfl, ⟨tb_in (i := 31) (by decide +kernel) (by decide +kernel), tb_in (i := 950) (by decide +kernel) (by decide +kernel), ⟨by decide, by decide, by decide +kernel⟩⟩⟩
theorem ml_W_229 : Cond.methodLink RL 229 yX4_pace ∈ TB := tb_in (i := 947) (by decide +kernel) (by decide +kernel)
theorem rc_C_pace : RC 4 I_C_pace := ⟨by decide, _, _, rfl⟩
theorem md_W_misclosureIfDropped : MDx I_W_misclosureIfDropped 2 := ⟨tb_in (i := 961) (by decide +kernel) (by decide +kernel), rfl, ⟨tb_in (i := 30) (by decide +kernel) (by decide +kernel), tb_in (i := 962) (by decide +kernel) (by decide +kernel), ⟨by decide, by decide, by decide +kernel⟩⟩⟩
theorem ml_W_234 : Cond.methodLink RL 234 yL_misclosureIfDropped ∈ TB := tb_in (i := 960) (by decide +kernel) (by decide +kernel)
theorem md_W_dropPin : MDx I_W_dropPin 2 := ⟨tb_in (i := 952) (by decide +kernel) (by decide +kernel), rfl, ⟨tb_in (i := 30) (by decide +kernel) (by decide +kernel), tb_in (i := 953) (by decide +kernel) (by decide +kernel), ⟨by decide, by decide, by decide +kernel⟩⟩⟩
theorem ml_W_232 : Cond.methodLink RL 232 yL_dropPin ∈ TB := tb_in (i := 951) (by decide +kernel) (by decide +kernel)
theorem md_C_suspectLeg : MDv I_C_suspectLeg 0 := ⟨tb_in (i := 981) (by decide +kernel) (by decide +kernel), tb_in (i := 982) (by decide +kernel) (by decide +kernel), rfl, ⟨tb_in (i := 31) (by decide +kernel) (by decide +kernel), tb_in (i := 983) (by decide +kernel) (by decide +kernel), ⟨by decide, by decide, by decide +kernel⟩⟩⟩
theorem ml_W_238 : Cond.methodLink RL 238 yX4_suspectLeg ∈ TB := tb_in (i := 980) (by decide +kernel) (by decide +kernel)
theorem rc_C_suspectLeg : RC 4 I_C_suspectLeg := ⟨by decide, _, _, rfl⟩
theorem md_C_bestPace : MDv I_C_bestPace 0 := ⟨tb_in (i := 985) (by decide +kernel) (by decide +kernel), tb_in (i := 986) (by decide +kernel) (by decide +kernel), rfl, ⟨tb_in (i := 31) (by decide +kernel) (by decide +kernel), tb_in (i := 987) (by decide +kernel) (by decide +kernel), ⟨by decide, by decide, by decide +kernel⟩⟩⟩
theorem ml_W_241 : Cond.methodLink RL 241 yX4_bestPace ∈ TB := tb_in (i := 984) (by decide +kernel) (by decide +kernel)
theorem rc_C_bestPace : RC 4 I_C_bestPace := ⟨by decide, _, _, rfl⟩
theorem md_W_setPace : MDx I_W_setPace 2 := ⟨tb_in (i := 998) (by decide +kernel) (by decide +kernel), rfl, ⟨tb_in (i := 30) (by decide +kernel) (by decide +kernel), tb_in (i := 999) (by decide +kernel) (by decide +kernel), ⟨by decide, by decide, by decide +kernel⟩⟩⟩
theorem ml_W_244 : Cond.methodLink RL 244 yL_setPace ∈ TB := tb_in (i := 997) (by decide +kernel) (by decide +kernel)
theorem md_C_wear : MDv I_C_wear 0 := ⟨tb_in (i := 1006) (by decide +kernel) (by decide +kernel), tb_in (i := 1007) (by decide +kernel) (by decide +kernel), rfl, ⟨tb_in (i := 31) (by decide +kernel) (by decide +kernel), tb_in (i := 1008) (by decide +kernel) (by decide +kernel), ⟨by decide, by decide, by decide +kernel⟩⟩⟩
theorem ml_W_246 : Cond.methodLink RL 246 yX4_wear ∈ TB := tb_in (i := 1005) (by decide +kernel) (by decide +kernel)
theorem rc_C_wear : RC 4 I_C_wear := ⟨by decide, _, _, rfl⟩
theorem sp_200 : (Int16.ofInt 200).toInt32 = 200 := by decide
theorem md_W_setWear : MDx I_W_setWear 2 := ⟨tb_in (i := 1010) (by decide +kernel) (by decide +kernel), rfl, ⟨tb_in (i := 30) (by decide +kernel) (by decide +kernel), tb_in (i := 1011) (by decide +kernel) (by decide +kernel), ⟨by decide, by decide, by decide +kernel⟩⟩⟩
theorem ml_W_249 : Cond.methodLink RL 249 yL_setWear ∈ TB := tb_in (i := 1009) (by decide +kernel) (by decide +kernel)
theorem bp_51 : (Int8.ofInt 51).toInt32 = 51 := by decide
theorem md_W_addLeg : MDx I_W_addLeg 6 := ⟨tb_in (i := 912) (by decide +kernel) (by decide +kernel), rfl, ⟨tb_in (i := 30) (by decide +kernel) (by decide +kernel), tb_in (i := 913) (by decide +kernel) (by decide +kernel), ⟨by decide, by decide, by decide +kernel⟩⟩⟩
theorem ml_W_221 : Cond.methodLink RL 221 yL_addLeg ∈ TB := tb_in (i := 911) (by decide +kernel) (by decide +kernel)
theorem md_W_nameByte : MDx I_W_nameByte 3 := ⟨tb_in (i := 929) (by decide +kernel) (by decide +kernel), rfl, ⟨tb_in (i := 30) (by decide +kernel) (by decide +kernel), tb_in (i := 930) (by decide +kernel) (by decide +kernel), ⟨by decide, by decide, by decide +kernel⟩⟩⟩
theorem ml_W_224 : Cond.methodLink RL 224 yL_nameByte ∈ TB := tb_in (i := 928) (by decide +kernel) (by decide +kernel)
theorem bp_113 : (Int8.ofInt 113).toInt32 = 113 := by decide
theorem md_W_findPin : MDx I_W_findPin 2 := ⟨tb_in (i := 972) (by decide +kernel) (by decide +kernel), rfl, ⟨tb_in (i := 30) (by decide +kernel) (by decide +kernel), tb_in (i := 973) (by decide +kernel) (by decide +kernel), ⟨by decide, by decide, by decide +kernel⟩⟩⟩
theorem ml_W_236 : Cond.methodLink RL 236 yL_findPin ∈ TB := tb_in (i := 971) (by decide +kernel) (by decide +kernel)
theorem md_C_setAdjusted : MDv I_C_setAdjusted 1 := ⟨tb_in (i := 480) (by decide +kernel) (by decide +kernel), tb_in (i := 481) (by decide +kernel) (by decide +kernel), rfl, ⟨tb_in (i := 31) (by decide +kernel) (by decide +kernel), tb_in (i := 482) (by decide +kernel) (by decide +kernel), ⟨by decide, by decide, by decide +kernel⟩⟩⟩
theorem ml_W_251 : Cond.methodLink RL 251 yX4_setAdjusted ∈ TB := tb_in (i := 479) (by decide +kernel) (by decide +kernel)
theorem rc_C_setAdjusted : RC 4 I_C_setAdjusted := ⟨by decide, _, _, rfl⟩
theorem cl_W_8 : Cond.classLink RL 8 RX4 ∈ TB := tb_in (i := 53) (by decide +kernel) (by decide +kernel)
theorem is_4 : Cond.instantiable RX4 15 ∈ TB := tb_in (i := 54) (by decide +kernel) (by decide +kernel)
theorem ic_X4 : Cond.initialized RX4 ∈ TB := tb_in (i := 31) (by decide +kernel) (by decide +kernel)
theorem hd_4_0 : ∀ j, j < 15 → defaultValue (tyX4 j) = if tg 0 j = 0 then .int 0 else .null := by decide +kernel
theorem md_C_init : MDi I_C_init 0 := ⟨tb_in (i := 56) (by decide +kernel) (by decide +kernel), rfl, rfl, rfl, ⟨tb_in (i := 31) (by decide +kernel) (by decide +kernel), tb_in (i := 57) (by decide +kernel) (by decide +kernel), ⟨by decide, by decide, by decide +kernel⟩⟩⟩
theorem ml_W_258 : Cond.methodLink RL 258 yX4_init ∈ TB := tb_in (i := 55) (by decide +kernel) (by decide +kernel)
theorem cl_W_259 : Cond.classLink RL 259 RJ4 ∈ TB := tb_in (i := 1026) (by decide +kernel) (by decide +kernel)
theorem is_5 : Cond.instantiable RJ4 4 ∈ TB := tb_in (i := 1027) (by decide +kernel) (by decide +kernel)
theorem ic_X5 : Cond.initialized RJ4 ∈ TB := tb_in (i := 42) (by decide +kernel) (by decide +kernel)
theorem hd_5_134 : ∀ j, j < 4 → defaultValue (tyJ4 j) = if tg 134 j = 0 then .int 0 else .null := by decide +kernel
theorem md_B_init : MDi I_B_init 0 := ⟨tb_in (i := 1029) (by decide +kernel) (by decide +kernel), rfl, rfl, rfl, ⟨tb_in (i := 42) (by decide +kernel) (by decide +kernel), tb_in (i := 1030) (by decide +kernel) (by decide +kernel), ⟨by decide, by decide, by decide +kernel⟩⟩⟩
theorem ml_W_261 : Cond.methodLink RL 261 yJ4_init_da8c8 ∈ TB := tb_in (i := 1028) (by decide +kernel) (by decide +kernel)
theorem md_B_append : MDv I_B_append 1 := ⟨tb_in (i := 1057) (by decide +kernel) (by decide +kernel), tb_in (i := 1058) (by decide +kernel) (by decide +kernel), rfl, ⟨tb_in (i := 42) (by decide +kernel) (by decide +kernel), tb_in (i := 1059) (by decide +kernel) (by decide +kernel), ⟨by decide, by decide, by decide +kernel⟩⟩⟩
theorem ml_W_264 : Cond.methodLink RL 264 yJ4_append_15ec4 ∈ TB := tb_in (i := 1056) (by decide +kernel) (by decide +kernel)
theorem rc_B_append : RC 5 I_B_append := ⟨by decide, _, _, rfl⟩
theorem md_B_appendI : MDv I_B_appendI 1 := ⟨tb_in (i := 1154) (by decide +kernel) (by decide +kernel), tb_in (i := 1155) (by decide +kernel) (by decide +kernel), rfl, ⟨tb_in (i := 42) (by decide +kernel) (by decide +kernel), tb_in (i := 1156) (by decide +kernel) (by decide +kernel), ⟨by decide, by decide, by decide +kernel⟩⟩⟩
theorem ml_W_267 : Cond.methodLink RL 267 yJ4_append_bf812 ∈ TB := tb_in (i := 1153) (by decide +kernel) (by decide +kernel)
theorem rc_B_appendI : RC 5 I_B_appendI := ⟨by decide, _, _, rfl⟩
theorem md_B_toString : MDv I_B_toString 0 := ⟨tb_in (i := 1179) (by decide +kernel) (by decide +kernel), tb_in (i := 1180) (by decide +kernel) (by decide +kernel), rfl, ⟨tb_in (i := 42) (by decide +kernel) (by decide +kernel), tb_in (i := 1181) (by decide +kernel) (by decide +kernel), ⟨by decide, by decide, by decide +kernel⟩⟩⟩
theorem ml_W_274 : Cond.methodLink RL 274 yJ4_toString_0e30d ∈ TB := tb_in (i := 1178) (by decide +kernel) (by decide +kernel)
theorem rc_B_toString : RC 5 I_B_toString := ⟨by decide, _, _, rfl⟩
theorem md_W_write : MDs I_W_write 2 := ⟨tb_in (i := 648) (by decide +kernel) (by decide +kernel), rfl, ⟨tb_in (i := 30) (by decide +kernel) (by decide +kernel), tb_in (i := 649) (by decide +kernel) (by decide +kernel), ⟨by decide, by decide, by decide +kernel⟩⟩⟩
theorem ml_W_278 : Cond.methodLink RL 278 yL_write ∈ TB := tb_in (i := 647) (by decide +kernel) (by decide +kernel)
theorem md_C_load : MDv I_C_load 0 := ⟨tb_in (i := 467) (by decide +kernel) (by decide +kernel), tb_in (i := 468) (by decide +kernel) (by decide +kernel), rfl, ⟨tb_in (i := 31) (by decide +kernel) (by decide +kernel), tb_in (i := 469) (by decide +kernel) (by decide +kernel), ⟨by decide, by decide, by decide +kernel⟩⟩⟩
theorem ml_W_282 : Cond.methodLink RL 282 yX4_load ∈ TB := tb_in (i := 466) (by decide +kernel) (by decide +kernel)
theorem rc_C_load : RC 4 I_C_load := ⟨by decide, _, _, rfl⟩
theorem ml_W_285 : Cond.methodLink RL 285 yL_isSound ∈ TB := tb_in (i := 692) (by decide +kernel) (by decide +kernel)
theorem md_C_undoableChanges : MDv I_C_undoableChanges 0 := ⟨tb_in (i := 488) (by decide +kernel) (by decide +kernel), tb_in (i := 489) (by decide +kernel) (by decide +kernel), rfl, ⟨tb_in (i := 31) (by decide +kernel) (by decide +kernel), tb_in (i := 490) (by decide +kernel) (by decide +kernel), ⟨by decide, by decide, by decide +kernel⟩⟩⟩
theorem ml_W_293 : Cond.methodLink RL 293 yX4_undoableChanges ∈ TB := tb_in (i := 487) (by decide +kernel) (by decide +kernel)
theorem rc_C_undoableChanges : RC 4 I_C_undoableChanges := ⟨by decide, _, _, rfl⟩
theorem ml_W_289 : Cond.methodLink RL 289 yL_acts ∈ TB := tb_in (i := 908) (by decide +kernel) (by decide +kernel)
theorem md_W_undo : MDx I_W_undo 1 := ⟨tb_in (i := 572) (by decide +kernel) (by decide +kernel), rfl, ⟨tb_in (i := 30) (by decide +kernel) (by decide +kernel), tb_in (i := 573) (by decide +kernel) (by decide +kernel), ⟨by decide, by decide, by decide +kernel⟩⟩⟩
theorem ml_W_296 : Cond.methodLink RL 296 yL_undo ∈ TB := tb_in (i := 571) (by decide +kernel) (by decide +kernel)
theorem ml_W_298 : Cond.methodLink RL 298 yJ9_min_7cf53 ∈ TB := tb_in (i := 1025) (by decide +kernel) (by decide +kernel)
