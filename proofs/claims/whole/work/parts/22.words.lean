theorem ws_X1_begin : zW (.selects RX1 yX1_begin yX1_begin) := ⟨List.mem_of_getElem? (i := 0) (by decide +kernel), by decide +kernel⟩
theorem ws_X0_clear : zW (.selects RX0 yX0_clear yX0_clear) := ⟨List.mem_of_getElem? (i := 1) (by decide +kernel), by decide +kernel⟩
theorem ws_X5_has : zW (.selects RX5 yX5_has yX5_has) := ⟨List.mem_of_getElem? (i := 2) (by decide +kernel), by decide +kernel⟩
theorem ws_X5_at : zW (.selects RX5 yX5_at yX5_at) := ⟨List.mem_of_getElem? (i := 3) (by decide +kernel), by decide +kernel⟩
theorem ws_X1_isPending : zW (.selects RX1 yX1_isPending yX1_isPending) := ⟨List.mem_of_getElem? (i := 4) (by decide +kernel), by decide +kernel⟩
theorem ws_X1_markSet : zW (.selects RX1 yX1_markSet yX1_markSet) := ⟨List.mem_of_getElem? (i := 5) (by decide +kernel), by decide +kernel⟩
theorem ws_X5_words : zW (.selects RX5 yX5_words yX5_words) := ⟨List.mem_of_getElem? (i := 6) (by decide +kernel), by decide +kernel⟩
theorem ws_X5_kindAt : zW (.selects RX5 yX5_kindAt yX5_kindAt) := ⟨List.mem_of_getElem? (i := 7) (by decide +kernel), by decide +kernel⟩
theorem ws_X1_press : zW (.selects RX1 yX1_press yX1_press) := ⟨List.mem_of_getElem? (i := 8) (by decide +kernel), by decide +kernel⟩
theorem ws_X1_strike : zW (.selects RX1 yX1_strike yX1_strike) := ⟨List.mem_of_getElem? (i := 9) (by decide +kernel), by decide +kernel⟩
theorem ws_X1_typeIn : zW (.selects RX1 yX1_typeIn yX1_typeIn) := ⟨List.mem_of_getElem? (i := 10) (by decide +kernel), by decide +kernel⟩
theorem ws_X2_add : zW (.selects RX2 yX2_add yX2_add) := ⟨List.mem_of_getElem? (i := 11) (by decide +kernel), by decide +kernel⟩
theorem ws_X1_remember : zW (.selects RX1 yX1_remember yX1_remember) := ⟨List.mem_of_getElem? (i := 12) (by decide +kernel), by decide +kernel⟩
theorem ws_X3_keep : zW (.selects RX3 yX3_keep yX3_keep) := ⟨List.mem_of_getElem? (i := 13) (by decide +kernel), by decide +kernel⟩
theorem ws_X2_become : zW (.selects RX2 yX2_become yX2_become) := ⟨List.mem_of_getElem? (i := 14) (by decide +kernel), by decide +kernel⟩
theorem ws_X5_makeRoom : zW (.selects RX5 yX5_makeRoom yX5_makeRoom) := ⟨List.mem_of_getElem? (i := 15) (by decide +kernel), by decide +kernel⟩
theorem ws_X0_take : zW (.selects RX0 yX0_take yX0_take) := ⟨List.mem_of_getElem? (i := 16) (by decide +kernel), by decide +kernel⟩
theorem ws_X0_takeVerb : zW (.selects RX0 yX0_takeVerb yX0_takeVerb) := ⟨List.mem_of_getElem? (i := 17) (by decide +kernel), by decide +kernel⟩
theorem ws_X0_waitWith : zW (.selects RX0 yX0_waitWith yX0_waitWith) := ⟨List.mem_of_getElem? (i := 18) (by decide +kernel), by decide +kernel⟩
theorem ws_X0_takeMotion : zW (.selects RX0 yX0_takeMotion yX0_takeMotion) := ⟨List.mem_of_getElem? (i := 19) (by decide +kernel), by decide +kernel⟩
theorem ws_X0_takeReach : zW (.selects RX0 yX0_takeReach yX0_takeReach) := ⟨List.mem_of_getElem? (i := 20) (by decide +kernel), by decide +kernel⟩
theorem ws_X0_takeObject : zW (.selects RX0 yX0_takeObject yX0_takeObject) := ⟨List.mem_of_getElem? (i := 21) (by decide +kernel), by decide +kernel⟩
theorem ws_X5_become : zW (.selects RX5 yX5_become yX5_become) := ⟨List.mem_of_getElem? (i := 22) (by decide +kernel), by decide +kernel⟩
theorem ws_X1_aim : zW (.selects RX1 yX1_aim yX1_aim) := ⟨List.mem_of_getElem? (i := 23) (by decide +kernel), by decide +kernel⟩
theorem ws_X0_times : zW (.selects RX0 yX0_times yX0_times) := ⟨List.mem_of_getElem? (i := 24) (by decide +kernel), by decide +kernel⟩
theorem ws_X1_aimByMotion : zW (.selects RX1 yX1_aimByMotion yX1_aimByMotion) := ⟨List.mem_of_getElem? (i := 25) (by decide +kernel), by decide +kernel⟩
theorem ws_X5_standing : zW (.selects RX5 yX5_standing yX5_standing) := ⟨List.mem_of_getElem? (i := 26) (by decide +kernel), by decide +kernel⟩
theorem ws_X5_last : zW (.selects RX5 yX5_last yX5_last) := ⟨List.mem_of_getElem? (i := 27) (by decide +kernel), by decide +kernel⟩
theorem ws_X1_placeOfMark : zW (.selects RX1 yX1_placeOfMark yX1_placeOfMark) := ⟨List.mem_of_getElem? (i := 28) (by decide +kernel), by decide +kernel⟩
theorem ws_X5_findBehind : zW (.selects RX5 yX5_findBehind yX5_findBehind) := ⟨List.mem_of_getElem? (i := 29) (by decide +kernel), by decide +kernel⟩
theorem ws_X5_lead : zW (.selects RX5 yX5_lead yX5_lead) := ⟨List.mem_of_getElem? (i := 30) (by decide +kernel), by decide +kernel⟩
theorem ws_X5_behindKind : zW (.selects RX5 yX5_behindKind yX5_behindKind) := ⟨List.mem_of_getElem? (i := 31) (by decide +kernel), by decide +kernel⟩
theorem ws_X5_beginOfKind : zW (.selects RX5 yX5_beginOfKind yX5_beginOfKind) := ⟨List.mem_of_getElem? (i := 32) (by decide +kernel), by decide +kernel⟩
theorem ws_X1_aimByWord : zW (.selects RX1 yX1_aimByWord yX1_aimByWord) := ⟨List.mem_of_getElem? (i := 33) (by decide +kernel), by decide +kernel⟩
theorem ws_X1_aimByBrackets : zW (.selects RX1 yX1_aimByBrackets yX1_aimByBrackets) := ⟨List.mem_of_getElem? (i := 34) (by decide +kernel), by decide +kernel⟩
theorem ws_X5_openingRound : zW (.selects RX5 yX5_openingRound yX5_openingRound) := ⟨List.mem_of_getElem? (i := 35) (by decide +kernel), by decide +kernel⟩
theorem ws_X5_closingOf : zW (.selects RX5 yX5_closingOf yX5_closingOf) := ⟨List.mem_of_getElem? (i := 36) (by decide +kernel), by decide +kernel⟩
theorem ws_X1_aimByLetters : zW (.selects RX1 yX1_aimByLetters yX1_aimByLetters) := ⟨List.mem_of_getElem? (i := 37) (by decide +kernel), by decide +kernel⟩
theorem ws_X1_perform : zW (.selects RX1 yX1_perform yX1_perform) := ⟨List.mem_of_getElem? (i := 38) (by decide +kernel), by decide +kernel⟩
theorem ws_X5_goTo : zW (.selects RX5 yX5_goTo yX5_goTo) := ⟨List.mem_of_getElem? (i := 39) (by decide +kernel), by decide +kernel⟩
theorem ws_X1_cutRange : zW (.selects RX1 yX1_cutRange yX1_cutRange) := ⟨List.mem_of_getElem? (i := 40) (by decide +kernel), by decide +kernel⟩
theorem ws_X1_storeRange : zW (.selects RX1 yX1_storeRange yX1_storeRange) := ⟨List.mem_of_getElem? (i := 41) (by decide +kernel), by decide +kernel⟩
theorem ws_X5_takeOut : zW (.selects RX5 yX5_takeOut yX5_takeOut) := ⟨List.mem_of_getElem? (i := 42) (by decide +kernel), by decide +kernel⟩
theorem ws_X1_typeAt : zW (.selects RX1 yX1_typeAt yX1_typeAt) := ⟨List.mem_of_getElem? (i := 43) (by decide +kernel), by decide +kernel⟩
theorem ws_X1_overwrite : zW (.selects RX1 yX1_overwrite yX1_overwrite) := ⟨List.mem_of_getElem? (i := 44) (by decide +kernel), by decide +kernel⟩
theorem ws_X1_swapCases : zW (.selects RX1 yX1_swapCases yX1_swapCases) := ⟨List.mem_of_getElem? (i := 45) (by decide +kernel), by decide +kernel⟩
theorem ws_X5_swapCase : zW (.selects RX5 yX5_swapCase yX5_swapCase) := ⟨List.mem_of_getElem? (i := 46) (by decide +kernel), by decide +kernel⟩
theorem ws_X1_putIn : zW (.selects RX1 yX1_putIn yX1_putIn) := ⟨List.mem_of_getElem? (i := 47) (by decide +kernel), by decide +kernel⟩
theorem ws_X3_bringBack : zW (.selects RX3 yX3_bringBack yX3_bringBack) := ⟨List.mem_of_getElem? (i := 48) (by decide +kernel), by decide +kernel⟩
theorem ws_X1_setMark : zW (.selects RX1 yX1_setMark yX1_setMark) := ⟨List.mem_of_getElem? (i := 49) (by decide +kernel), by decide +kernel⟩
theorem ws_X2_canBeRepeated : zW (.selects RX2 yX2_canBeRepeated yX2_canBeRepeated) := ⟨List.mem_of_getElem? (i := 50) (by decide +kernel), by decide +kernel⟩
theorem ws_X5_canStand : zW (.selects RX5 yX5_canStand yX5_canStand) := ⟨List.mem_of_getElem? (i := 51) (by decide +kernel), by decide +kernel⟩
theorem ws_X6_survey : zW (.selects RX6 yX6_survey yX6_survey) := ⟨List.mem_of_getElem? (i := 52) (by decide +kernel), by decide +kernel⟩
theorem ws_X5_deed : zW (.selects RX5 yX5_deed yX5_deed) := ⟨List.mem_of_getElem? (i := 53) (by decide +kernel), by decide +kernel⟩
theorem ws_X6_reckon : zW (.selects RX6 yX6_reckon yX6_reckon) := ⟨List.mem_of_getElem? (i := 54) (by decide +kernel), by decide +kernel⟩
theorem ws_X6_stepOf : zW (.selects RX6 yX6_stepOf yX6_stepOf) := ⟨List.mem_of_getElem? (i := 55) (by decide +kernel), by decide +kernel⟩
theorem ws_X6_firstOnWay : zW (.selects RX6 yX6_firstOnWay yX6_firstOnWay) := ⟨List.mem_of_getElem? (i := 56) (by decide +kernel), by decide +kernel⟩
theorem ws_X6_dearest : zW (.selects RX6 yX6_dearest yX6_dearest) := ⟨List.mem_of_getElem? (i := 57) (by decide +kernel), by decide +kernel⟩
theorem ws_X6_rowsTo : zW (.selects RX6 yX6_rowsTo yX6_rowsTo) := ⟨List.mem_of_getElem? (i := 58) (by decide +kernel), by decide +kernel⟩
theorem ws_X1_become : zW (.selects RX1 yX1_become yX1_become) := ⟨List.mem_of_getElem? (i := 59) (by decide +kernel), by decide +kernel⟩
theorem ws_X3_become : zW (.selects RX3 yX3_become yX3_become) := ⟨List.mem_of_getElem? (i := 60) (by decide +kernel), by decide +kernel⟩
theorem ws_X0_become : zW (.selects RX0 yX0_become yX0_become) := ⟨List.mem_of_getElem? (i := 61) (by decide +kernel), by decide +kernel⟩
theorem ws_X7_sheetAt : zW (.selects RX7 yX7_sheetAt yX7_sheetAt) := ⟨List.mem_of_getElem? (i := 62) (by decide +kernel), by decide +kernel⟩
theorem ws_X4_faultAs : zW (.selects RX4 yX4_faultAs yX4_faultAs) := ⟨List.mem_of_getElem? (i := 63) (by decide +kernel), by decide +kernel⟩
theorem ws_X4_isNothing : zW (.selects RX4 yX4_isNothing yX4_isNothing) := ⟨List.mem_of_getElem? (i := 64) (by decide +kernel), by decide +kernel⟩
theorem ws_X4_reaches : zW (.selects RX4 yX4_reaches yX4_reaches) := ⟨List.mem_of_getElem? (i := 65) (by decide +kernel), by decide +kernel⟩
theorem ws_X4_put : zW (.selects RX4 yX4_put yX4_put) := ⟨List.mem_of_getElem? (i := 66) (by decide +kernel), by decide +kernel⟩
theorem ws_X4_hold : zW (.selects RX4 yX4_hold yX4_hold) := ⟨List.mem_of_getElem? (i := 67) (by decide +kernel), by decide +kernel⟩
theorem ws_X8_keyed : zW (.selects RX8 yX8_keyed yX8_keyed) := ⟨List.mem_of_getElem? (i := 68) (by decide +kernel), by decide +kernel⟩
theorem ws_X8_strikes : zW (.selects RX8 yX8_strikes yX8_strikes) := ⟨List.mem_of_getElem? (i := 69) (by decide +kernel), by decide +kernel⟩
theorem ws_X8_inserted : zW (.selects RX8 yX8_inserted yX8_inserted) := ⟨List.mem_of_getElem? (i := 70) (by decide +kernel), by decide +kernel⟩
theorem ws_X8_records : zW (.selects RX8 yX8_records yX8_records) := ⟨List.mem_of_getElem? (i := 71) (by decide +kernel), by decide +kernel⟩
theorem ws_X8_changes : zW (.selects RX8 yX8_changes yX8_changes) := ⟨List.mem_of_getElem? (i := 72) (by decide +kernel), by decide +kernel⟩
theorem ws_X8_ends : zW (.selects RX8 yX8_ends yX8_ends) := ⟨List.mem_of_getElem? (i := 73) (by decide +kernel), by decide +kernel⟩
theorem ws_X8_commands : zW (.selects RX8 yX8_commands yX8_commands) := ⟨List.mem_of_getElem? (i := 74) (by decide +kernel), by decide +kernel⟩
theorem ws_X8_waited : zW (.selects RX8 yX8_waited yX8_waited) := ⟨List.mem_of_getElem? (i := 75) (by decide +kernel), by decide +kernel⟩
theorem ws_X8_often : zW (.selects RX8 yX8_often yX8_often) := ⟨List.mem_of_getElem? (i := 76) (by decide +kernel), by decide +kernel⟩
theorem ws_X8_findsTo : zW (.selects RX8 yX8_findsTo yX8_findsTo) := ⟨List.mem_of_getElem? (i := 77) (by decide +kernel), by decide +kernel⟩
theorem ws_X8_nextOf : zW (.selects RX8 yX8_nextOf yX8_nextOf) := ⟨List.mem_of_getElem? (i := 78) (by decide +kernel), by decide +kernel⟩
theorem ws_X8_goesTo : zW (.selects RX8 yX8_goesTo yX8_goesTo) := ⟨List.mem_of_getElem? (i := 79) (by decide +kernel), by decide +kernel⟩
theorem ws_X8_last : zW (.selects RX8 yX8_last yX8_last) := ⟨List.mem_of_getElem? (i := 80) (by decide +kernel), by decide +kernel⟩
theorem ws_X8_ranged : zW (.selects RX8 yX8_ranged yX8_ranged) := ⟨List.mem_of_getElem? (i := 81) (by decide +kernel), by decide +kernel⟩
theorem ws_X8_keeps : zW (.selects RX8 yX8_keeps yX8_keeps) := ⟨List.mem_of_getElem? (i := 82) (by decide +kernel), by decide +kernel⟩
theorem ws_X8_cuts : zW (.selects RX8 yX8_cuts yX8_cuts) := ⟨List.mem_of_getElem? (i := 83) (by decide +kernel), by decide +kernel⟩
theorem ws_X8_inserts : zW (.selects RX8 yX8_inserts yX8_inserts) := ⟨List.mem_of_getElem? (i := 84) (by decide +kernel), by decide +kernel⟩
theorem ws_X8_replaces : zW (.selects RX8 yX8_replaces yX8_replaces) := ⟨List.mem_of_getElem? (i := 85) (by decide +kernel), by decide +kernel⟩
theorem ws_X8_objects : zW (.selects RX8 yX8_objects yX8_objects) := ⟨List.mem_of_getElem? (i := 86) (by decide +kernel), by decide +kernel⟩
theorem ws_X8_words : zW (.selects RX8 yX8_words yX8_words) := ⟨List.mem_of_getElem? (i := 87) (by decide +kernel), by decide +kernel⟩
theorem ws_X8_classAt : zW (.selects RX8 yX8_classAt yX8_classAt) := ⟨List.mem_of_getElem? (i := 88) (by decide +kernel), by decide +kernel⟩
theorem ws_X8_brackets : zW (.selects RX8 yX8_brackets yX8_brackets) := ⟨List.mem_of_getElem? (i := 89) (by decide +kernel), by decide +kernel⟩
theorem ws_X8_bracket : zW (.selects RX8 yX8_bracket yX8_bracket) := ⟨List.mem_of_getElem? (i := 90) (by decide +kernel), by decide +kernel⟩
theorem ws_X8_motionOf : zW (.selects RX8 yX8_motionOf yX8_motionOf) := ⟨List.mem_of_getElem? (i := 91) (by decide +kernel), by decide +kernel⟩
theorem ws_X8_moves : zW (.selects RX8 yX8_moves yX8_moves) := ⟨List.mem_of_getElem? (i := 92) (by decide +kernel), by decide +kernel⟩
theorem ws_X8_leadsTo : zW (.selects RX8 yX8_leadsTo yX8_leadsTo) := ⟨List.mem_of_getElem? (i := 93) (by decide +kernel), by decide +kernel⟩
theorem ws_X8_wordOn : zW (.selects RX8 yX8_wordOn yX8_wordOn) := ⟨List.mem_of_getElem? (i := 94) (by decide +kernel), by decide +kernel⟩
theorem ws_X8_wordBack : zW (.selects RX8 yX8_wordBack yX8_wordBack) := ⟨List.mem_of_getElem? (i := 95) (by decide +kernel), by decide +kernel⟩
theorem ws_X8_wordEnd : zW (.selects RX8 yX8_wordEnd yX8_wordEnd) := ⟨List.mem_of_getElem? (i := 96) (by decide +kernel), by decide +kernel⟩
theorem ws_X8_waits : zW (.selects RX8 yX8_waits yX8_waits) := ⟨List.mem_of_getElem? (i := 97) (by decide +kernel), by decide +kernel⟩
theorem ws_X8_deed : zW (.selects RX8 yX8_deed yX8_deed) := ⟨List.mem_of_getElem? (i := 98) (by decide +kernel), by decide +kernel⟩
theorem ws_X8_crosses : zW (.selects RX8 yX8_crosses yX8_crosses) := ⟨List.mem_of_getElem? (i := 99) (by decide +kernel), by decide +kernel⟩
theorem ws_X8_turns : zW (.selects RX8 yX8_turns yX8_turns) := ⟨List.mem_of_getElem? (i := 100) (by decide +kernel), by decide +kernel⟩
theorem ws_X8_puts : zW (.selects RX8 yX8_puts yX8_puts) := ⟨List.mem_of_getElem? (i := 101) (by decide +kernel), by decide +kernel⟩
theorem ws_X8_undoes : zW (.selects RX8 yX8_undoes yX8_undoes) := ⟨List.mem_of_getElem? (i := 102) (by decide +kernel), by decide +kernel⟩
theorem ws_X8_marks : zW (.selects RX8 yX8_marks yX8_marks) := ⟨List.mem_of_getElem? (i := 103) (by decide +kernel), by decide +kernel⟩
theorem ws_X8_wordsOf : zW (.selects RX8 yX8_wordsOf yX8_wordsOf) := ⟨List.mem_of_getElem? (i := 104) (by decide +kernel), by decide +kernel⟩
theorem ws_X8_isPlace : zW (.selects RX8 yX8_isPlace yX8_isPlace) := ⟨List.mem_of_getElem? (i := 105) (by decide +kernel), by decide +kernel⟩
theorem ws_X8_costsTo : zW (.selects RX8 yX8_costsTo yX8_costsTo) := ⟨List.mem_of_getElem? (i := 106) (by decide +kernel), by decide +kernel⟩
theorem ws_X8_lands : zW (.selects RX8 yX8_lands yX8_lands) := ⟨List.mem_of_getElem? (i := 107) (by decide +kernel), by decide +kernel⟩
theorem ws_X8_start : zW (.selects RX8 yX8_start yX8_start) := ⟨List.mem_of_getElem? (i := 108) (by decide +kernel), by decide +kernel⟩
theorem ws_X8_why : zW (.selects RX8 yX8_why yX8_why) := ⟨List.mem_of_getElem? (i := 109) (by decide +kernel), by decide +kernel⟩
theorem wn_L : zW (.initialized RL) := ⟨List.mem_of_getElem? (i := 110) (by decide +kernel), by decide +kernel⟩
theorem wn_X7 : zW (.initialized RX7) := ⟨List.mem_of_getElem? (i := 111) (by decide +kernel), by decide +kernel⟩
theorem wn_X1 : zW (.initialized RX1) := ⟨List.mem_of_getElem? (i := 112) (by decide +kernel), by decide +kernel⟩
theorem wn_X5 : zW (.initialized RX5) := ⟨List.mem_of_getElem? (i := 113) (by decide +kernel), by decide +kernel⟩
theorem wn_X3 : zW (.initialized RX3) := ⟨List.mem_of_getElem? (i := 114) (by decide +kernel), by decide +kernel⟩
theorem wn_X0 : zW (.initialized RX0) := ⟨List.mem_of_getElem? (i := 115) (by decide +kernel), by decide +kernel⟩
theorem wn_X2 : zW (.initialized RX2) := ⟨List.mem_of_getElem? (i := 116) (by decide +kernel), by decide +kernel⟩
theorem wn_X6 : zW (.initialized RX6) := ⟨List.mem_of_getElem? (i := 117) (by decide +kernel), by decide +kernel⟩
theorem wn_X4 : zW (.initialized RX4) := ⟨List.mem_of_getElem? (i := 118) (by decide +kernel), by decide +kernel⟩
theorem wn_X8 : zW (.initialized RX8) := ⟨List.mem_of_getElem? (i := 119) (by decide +kernel), by decide +kernel⟩
theorem wn_Sys : zW (.initialized "java/lang/System") := ⟨List.mem_of_getElem? (i := 120) (by decide +kernel), by decide +kernel⟩
theorem wn_J7 : zW (.initialized "java/util/Arrays") := ⟨List.mem_of_getElem? (i := 121) (by decide +kernel), by decide +kernel⟩
theorem wn_Math : zW (.initialized "java/lang/Math") := ⟨List.mem_of_getElem? (i := 122) (by decide +kernel), by decide +kernel⟩
theorem wl_L_7 : zW (.classLink RL 7 RX7) := ⟨List.mem_of_getElem? (i := 123) (by decide +kernel), by decide +kernel⟩
theorem wx_X7 : zW (.instantiable RX7 7) := ⟨List.mem_of_getElem? (i := 124) (by decide +kernel), by decide +kernel⟩
theorem wm_L_9 : zW (.methodLink RL 9 yX7_init) := ⟨List.mem_of_getElem? (i := 125) (by decide +kernel), by decide +kernel⟩
theorem wi_X7_init : zW (.instanceMethod yX7_init) := ⟨List.mem_of_getElem? (i := 126) (by decide +kernel), by decide +kernel⟩
theorem wc_X7_init : zW (.code yX7_init cX7_init 2 none) := ⟨List.mem_of_getElem? (i := 127) (by decide +kernel), by decide +kernel⟩
theorem wl_X7_13 : zW (.classLink RX7 13 RX1) := ⟨List.mem_of_getElem? (i := 131) (by decide +kernel), by decide +kernel⟩
theorem wx_X1 : zW (.instantiable RX1 13) := ⟨List.mem_of_getElem? (i := 132) (by decide +kernel), by decide +kernel⟩
theorem wm_X7_15 : zW (.methodLinkNest RX7 15 yX1_init "ModalKeys") := ⟨List.mem_of_getElem? (i := 133) (by decide +kernel), by decide +kernel⟩
theorem wi_X1_init : zW (.instanceMethod yX1_init) := ⟨List.mem_of_getElem? (i := 134) (by decide +kernel), by decide +kernel⟩
theorem wc_X1_init : zW (.code yX1_init cX1_init 1 none) := ⟨List.mem_of_getElem? (i := 135) (by decide +kernel), by decide +kernel⟩
theorem wl_X1_9 : zW (.classLink RX1 9 RX5) := ⟨List.mem_of_getElem? (i := 137) (by decide +kernel), by decide +kernel⟩
theorem wx_X5 : zW (.instantiable RX5 3) := ⟨List.mem_of_getElem? (i := 138) (by decide +kernel), by decide +kernel⟩
theorem wm_X1_11 : zW (.methodLinkNest RX1 11 yX5_init "ModalKeys") := ⟨List.mem_of_getElem? (i := 139) (by decide +kernel), by decide +kernel⟩
theorem wi_X5_init : zW (.instanceMethod yX5_init) := ⟨List.mem_of_getElem? (i := 140) (by decide +kernel), by decide +kernel⟩
theorem wc_X5_init : zW (.code yX5_init cX5_init 1 none) := ⟨List.mem_of_getElem? (i := 141) (by decide +kernel), by decide +kernel⟩
theorem wf_X5_9 : zW (.fieldLink RX5 9 (TX5 0).1 (TX5 0).2.1 (TX5 0).2.2.1) := ⟨List.mem_of_getElem? (i := 143) (by decide +kernel), by decide +kernel⟩
theorem wf_X3_34 : zW (.fieldLinkNest RX3 34 (TX5 0).1 (TX5 0).2.1 (TX5 0).2.2.1 "ModalKeys") := ⟨List.mem_of_getElem? (i := 144) (by decide +kernel), by decide +kernel⟩
theorem wf_X1_79 : zW (.fieldLinkNest RX1 79 (TX5 0).1 (TX5 0).2.1 (TX5 0).2.2.1 "ModalKeys") := ⟨List.mem_of_getElem? (i := 145) (by decide +kernel), by decide +kernel⟩
theorem wf_X5_21 : zW (.fieldLink RX5 21 (TX5 1).1 (TX5 1).2.1 (TX5 1).2.2.1) := ⟨List.mem_of_getElem? (i := 146) (by decide +kernel), by decide +kernel⟩
theorem wf_X1_82 : zW (.fieldLinkNest RX1 82 (TX5 1).1 (TX5 1).2.1 (TX5 1).2.2.1 "ModalKeys") := ⟨List.mem_of_getElem? (i := 147) (by decide +kernel), by decide +kernel⟩
theorem wf_X7_53 : zW (.fieldLinkNest RX7 53 (TX5 1).1 (TX5 1).2.1 (TX5 1).2.2.1 "ModalKeys") := ⟨List.mem_of_getElem? (i := 148) (by decide +kernel), by decide +kernel⟩
theorem wf_X3_37 : zW (.fieldLinkNest RX3 37 (TX5 1).1 (TX5 1).2.1 (TX5 1).2.2.1 "ModalKeys") := ⟨List.mem_of_getElem? (i := 149) (by decide +kernel), by decide +kernel⟩
theorem wf_X5_25 : zW (.fieldLink RX5 25 (TX5 2).1 (TX5 2).2.1 (TX5 2).2.2.1) := ⟨List.mem_of_getElem? (i := 150) (by decide +kernel), by decide +kernel⟩
theorem wf_X1_85 : zW (.fieldLinkNest RX1 85 (TX5 2).1 (TX5 2).2.1 (TX5 2).2.2.1 "ModalKeys") := ⟨List.mem_of_getElem? (i := 151) (by decide +kernel), by decide +kernel⟩
theorem wf_X3_40 : zW (.fieldLinkNest RX3 40 (TX5 2).1 (TX5 2).2.1 (TX5 2).2.2.1 "ModalKeys") := ⟨List.mem_of_getElem? (i := 152) (by decide +kernel), by decide +kernel⟩
theorem wf_X7_74 : zW (.fieldLinkNest RX7 74 (TX5 2).1 (TX5 2).2.1 (TX5 2).2.2.1 "ModalKeys") := ⟨List.mem_of_getElem? (i := 153) (by decide +kernel), by decide +kernel⟩
theorem wl_X1_21 : zW (.classLink RX1 21 RX3) := ⟨List.mem_of_getElem? (i := 162) (by decide +kernel), by decide +kernel⟩
theorem wx_X3 : zW (.instantiable RX3 5) := ⟨List.mem_of_getElem? (i := 163) (by decide +kernel), by decide +kernel⟩
theorem wm_X1_23 : zW (.methodLinkNest RX1 23 yX3_init "ModalKeys") := ⟨List.mem_of_getElem? (i := 164) (by decide +kernel), by decide +kernel⟩
theorem wi_X3_init : zW (.instanceMethod yX3_init) := ⟨List.mem_of_getElem? (i := 165) (by decide +kernel), by decide +kernel⟩
theorem wc_X3_init : zW (.code yX3_init cX3_init 1 none) := ⟨List.mem_of_getElem? (i := 166) (by decide +kernel), by decide +kernel⟩
theorem wf_X3_11 : zW (.fieldLink RX3 11 (TX3 0).1 (TX3 0).2.1 (TX3 0).2.2.1) := ⟨List.mem_of_getElem? (i := 168) (by decide +kernel), by decide +kernel⟩
theorem wf_X3_15 : zW (.fieldLink RX3 15 (TX3 1).1 (TX3 1).2.1 (TX3 1).2.2.1) := ⟨List.mem_of_getElem? (i := 169) (by decide +kernel), by decide +kernel⟩
theorem wf_X3_18 : zW (.fieldLink RX3 18 (TX3 2).1 (TX3 2).2.1 (TX3 2).2.2.1) := ⟨List.mem_of_getElem? (i := 170) (by decide +kernel), by decide +kernel⟩
theorem wf_X3_27 : zW (.fieldLink RX3 27 (TX3 3).1 (TX3 3).2.1 (TX3 3).2.2.1) := ⟨List.mem_of_getElem? (i := 171) (by decide +kernel), by decide +kernel⟩
theorem wf_X3_31 : zW (.fieldLink RX3 31 (TX3 4).1 (TX3 4).2.1 (TX3 4).2.2.1) := ⟨List.mem_of_getElem? (i := 172) (by decide +kernel), by decide +kernel⟩
theorem wf_X1_94 : zW (.fieldLinkNest RX1 94 (TX3 4).1 (TX3 4).2.1 (TX3 4).2.2.1 "ModalKeys") := ⟨List.mem_of_getElem? (i := 173) (by decide +kernel), by decide +kernel⟩
theorem wf_X7_93 : zW (.fieldLinkNest RX7 93 (TX3 4).1 (TX3 4).2.1 (TX3 4).2.2.1 "ModalKeys") := ⟨List.mem_of_getElem? (i := 174) (by decide +kernel), by decide +kernel⟩
theorem wl_X1_28 : zW (.classLink RX1 28 RX0) := ⟨List.mem_of_getElem? (i := 186) (by decide +kernel), by decide +kernel⟩
theorem wx_X0 : zW (.instantiable RX0 9) := ⟨List.mem_of_getElem? (i := 187) (by decide +kernel), by decide +kernel⟩
theorem wm_X1_30 : zW (.methodLinkNest RX1 30 yX0_init "ModalKeys") := ⟨List.mem_of_getElem? (i := 188) (by decide +kernel), by decide +kernel⟩
theorem wi_X0_init : zW (.instanceMethod yX0_init) := ⟨List.mem_of_getElem? (i := 189) (by decide +kernel), by decide +kernel⟩
theorem wc_X0_init : zW (.code yX0_init cX0_init 1 none) := ⟨List.mem_of_getElem? (i := 190) (by decide +kernel), by decide +kernel⟩
theorem wl_X0_9 : zW (.classLink RX0 9 RX2) := ⟨List.mem_of_getElem? (i := 192) (by decide +kernel), by decide +kernel⟩
theorem wx_X2 : zW (.instantiable RX2 2) := ⟨List.mem_of_getElem? (i := 193) (by decide +kernel), by decide +kernel⟩
theorem wm_X0_11 : zW (.methodLinkNest RX0 11 yX2_init "ModalKeys") := ⟨List.mem_of_getElem? (i := 194) (by decide +kernel), by decide +kernel⟩
theorem wi_X2_init : zW (.instanceMethod yX2_init) := ⟨List.mem_of_getElem? (i := 195) (by decide +kernel), by decide +kernel⟩
theorem wc_X2_init : zW (.code yX2_init cX2_init 1 none) := ⟨List.mem_of_getElem? (i := 196) (by decide +kernel), by decide +kernel⟩
theorem wf_X2_9 : zW (.fieldLink RX2 9 (TX2 0).1 (TX2 0).2.1 (TX2 0).2.2.1) := ⟨List.mem_of_getElem? (i := 198) (by decide +kernel), by decide +kernel⟩
theorem wf_X1_115 : zW (.fieldLinkNest RX1 115 (TX2 0).1 (TX2 0).2.1 (TX2 0).2.2.1 "ModalKeys") := ⟨List.mem_of_getElem? (i := 199) (by decide +kernel), by decide +kernel⟩
theorem wf_X0_18 : zW (.fieldLinkNest RX0 18 (TX2 1).1 (TX2 1).2.1 (TX2 1).2.2.1 "ModalKeys") := ⟨List.mem_of_getElem? (i := 200) (by decide +kernel), by decide +kernel⟩
theorem wf_X2_19 : zW (.fieldLink RX2 19 (TX2 1).1 (TX2 1).2.1 (TX2 1).2.2.1) := ⟨List.mem_of_getElem? (i := 201) (by decide +kernel), by decide +kernel⟩
theorem wf_X1_97 : zW (.fieldLinkNest RX1 97 (TX2 1).1 (TX2 1).2.1 (TX2 1).2.2.1 "ModalKeys") := ⟨List.mem_of_getElem? (i := 202) (by decide +kernel), by decide +kernel⟩
theorem wf_X7_105 : zW (.fieldLinkNest RX7 105 (TX2 1).1 (TX2 1).2.1 (TX2 1).2.2.1 "ModalKeys") := ⟨List.mem_of_getElem? (i := 203) (by decide +kernel), by decide +kernel⟩
theorem wf_X0_12 : zW (.fieldLink RX0 12 (TX0 0).1 (TX0 0).2.1 (TX0 0).2.2.1) := ⟨List.mem_of_getElem? (i := 209) (by decide +kernel), by decide +kernel⟩
theorem wf_X1_101 : zW (.fieldLinkNest RX1 101 (TX0 0).1 (TX0 0).2.1 (TX0 0).2.2.1 "ModalKeys") := ⟨List.mem_of_getElem? (i := 210) (by decide +kernel), by decide +kernel⟩
theorem wf_X0_22 : zW (.fieldLink RX0 22 (TX0 1).1 (TX0 1).2.1 (TX0 1).2.2.1) := ⟨List.mem_of_getElem? (i := 211) (by decide +kernel), by decide +kernel⟩
theorem wf_X1_104 : zW (.fieldLinkNest RX1 104 (TX0 1).1 (TX0 1).2.1 (TX0 1).2.2.1 "ModalKeys") := ⟨List.mem_of_getElem? (i := 212) (by decide +kernel), by decide +kernel⟩
theorem wf_X0_25 : zW (.fieldLink RX0 25 (TX0 2).1 (TX0 2).2.1 (TX0 2).2.2.1) := ⟨List.mem_of_getElem? (i := 213) (by decide +kernel), by decide +kernel⟩
theorem wf_X1_224 : zW (.fieldLinkNest RX1 224 (TX0 2).1 (TX0 2).2.1 (TX0 2).2.2.1 "ModalKeys") := ⟨List.mem_of_getElem? (i := 214) (by decide +kernel), by decide +kernel⟩
theorem wf_X0_28 : zW (.fieldLink RX0 28 (TX0 3).1 (TX0 3).2.1 (TX0 3).2.2.1) := ⟨List.mem_of_getElem? (i := 215) (by decide +kernel), by decide +kernel⟩
theorem wf_X0_31 : zW (.fieldLink RX0 31 (TX0 4).1 (TX0 4).2.1 (TX0 4).2.2.1) := ⟨List.mem_of_getElem? (i := 216) (by decide +kernel), by decide +kernel⟩
theorem wf_X0_34 : zW (.fieldLink RX0 34 (TX0 5).1 (TX0 5).2.1 (TX0 5).2.2.1) := ⟨List.mem_of_getElem? (i := 217) (by decide +kernel), by decide +kernel⟩
theorem wf_X1_155 : zW (.fieldLinkNest RX1 155 (TX0 5).1 (TX0 5).2.1 (TX0 5).2.2.1 "ModalKeys") := ⟨List.mem_of_getElem? (i := 218) (by decide +kernel), by decide +kernel⟩
theorem wf_X0_37 : zW (.fieldLink RX0 37 (TX0 6).1 (TX0 6).2.1 (TX0 6).2.2.1) := ⟨List.mem_of_getElem? (i := 219) (by decide +kernel), by decide +kernel⟩
theorem wf_X1_158 : zW (.fieldLinkNest RX1 158 (TX0 6).1 (TX0 6).2.1 (TX0 6).2.2.1 "ModalKeys") := ⟨List.mem_of_getElem? (i := 220) (by decide +kernel), by decide +kernel⟩
theorem wf_X0_40 : zW (.fieldLink RX0 40 (TX0 7).1 (TX0 7).2.1 (TX0 7).2.2.1) := ⟨List.mem_of_getElem? (i := 221) (by decide +kernel), by decide +kernel⟩
theorem wf_X1_215 : zW (.fieldLinkNest RX1 215 (TX0 7).1 (TX0 7).2.1 (TX0 7).2.2.1 "ModalKeys") := ⟨List.mem_of_getElem? (i := 222) (by decide +kernel), by decide +kernel⟩
theorem wf_X0_44 : zW (.fieldLink RX0 44 (TX0 8).1 (TX0 8).2.1 (TX0 8).2.2.1) := ⟨List.mem_of_getElem? (i := 223) (by decide +kernel), by decide +kernel⟩
theorem wf_X1_161 : zW (.fieldLinkNest RX1 161 (TX0 8).1 (TX0 8).2.1 (TX0 8).2.2.1 "ModalKeys") := ⟨List.mem_of_getElem? (i := 224) (by decide +kernel), by decide +kernel⟩
theorem wl_X1_35 : zW (.classLink RX1 35 RX2) := ⟨List.mem_of_getElem? (i := 244) (by decide +kernel), by decide +kernel⟩
theorem wm_X1_37 : zW (.methodLinkNest RX1 37 yX2_init "ModalKeys") := ⟨List.mem_of_getElem? (i := 245) (by decide +kernel), by decide +kernel⟩
theorem wf_X1_12 : zW (.fieldLink RX1 12 (TX1 0).1 (TX1 0).2.1 (TX1 0).2.2.1) := ⟨List.mem_of_getElem? (i := 246) (by decide +kernel), by decide +kernel⟩
theorem wf_X7_49 : zW (.fieldLinkNest RX7 49 (TX1 0).1 (TX1 0).2.1 (TX1 0).2.2.1 "ModalKeys") := ⟨List.mem_of_getElem? (i := 247) (by decide +kernel), by decide +kernel⟩
theorem wf_X1_18 : zW (.fieldLink RX1 18 (TX1 1).1 (TX1 1).2.1 (TX1 1).2.2.1) := ⟨List.mem_of_getElem? (i := 248) (by decide +kernel), by decide +kernel⟩
theorem wf_X1_24 : zW (.fieldLink RX1 24 (TX1 2).1 (TX1 2).2.1 (TX1 2).2.2.1) := ⟨List.mem_of_getElem? (i := 249) (by decide +kernel), by decide +kernel⟩
theorem wf_X7_89 : zW (.fieldLinkNest RX7 89 (TX1 2).1 (TX1 2).2.1 (TX1 2).2.2.1 "ModalKeys") := ⟨List.mem_of_getElem? (i := 250) (by decide +kernel), by decide +kernel⟩
theorem wf_X1_31 : zW (.fieldLink RX1 31 (TX1 3).1 (TX1 3).2.1 (TX1 3).2.2.1) := ⟨List.mem_of_getElem? (i := 251) (by decide +kernel), by decide +kernel⟩
theorem wf_X1_38 : zW (.fieldLink RX1 38 (TX1 4).1 (TX1 4).2.1 (TX1 4).2.2.1) := ⟨List.mem_of_getElem? (i := 252) (by decide +kernel), by decide +kernel⟩
theorem wf_X7_101 : zW (.fieldLinkNest RX7 101 (TX1 4).1 (TX1 4).2.1 (TX1 4).2.2.1 "ModalKeys") := ⟨List.mem_of_getElem? (i := 253) (by decide +kernel), by decide +kernel⟩
theorem wf_X1_42 : zW (.fieldLink RX1 42 (TX1 5).1 (TX1 5).2.1 (TX1 5).2.2.1) := ⟨List.mem_of_getElem? (i := 254) (by decide +kernel), by decide +kernel⟩
theorem wf_X7_68 : zW (.fieldLinkNest RX7 68 (TX1 5).1 (TX1 5).2.1 (TX1 5).2.2.1 "ModalKeys") := ⟨List.mem_of_getElem? (i := 255) (by decide +kernel), by decide +kernel⟩
theorem wf_X1_71 : zW (.fieldLink RX1 71 (TX1 6).1 (TX1 6).2.1 (TX1 6).2.2.1) := ⟨List.mem_of_getElem? (i := 256) (by decide +kernel), by decide +kernel⟩
theorem wf_X7_65 : zW (.fieldLinkNest RX7 65 (TX1 6).1 (TX1 6).2.1 (TX1 6).2.2.1 "ModalKeys") := ⟨List.mem_of_getElem? (i := 257) (by decide +kernel), by decide +kernel⟩
theorem wf_X1_46 : zW (.fieldLink RX1 46 (TX1 7).1 (TX1 7).2.1 (TX1 7).2.2.1) := ⟨List.mem_of_getElem? (i := 258) (by decide +kernel), by decide +kernel⟩
theorem wf_X7_71 : zW (.fieldLinkNest RX7 71 (TX1 7).1 (TX1 7).2.1 (TX1 7).2.2.1 "ModalKeys") := ⟨List.mem_of_getElem? (i := 259) (by decide +kernel), by decide +kernel⟩
theorem wf_X1_49 : zW (.fieldLink RX1 49 (TX1 8).1 (TX1 8).2.1 (TX1 8).2.2.1) := ⟨List.mem_of_getElem? (i := 260) (by decide +kernel), by decide +kernel⟩
theorem wf_X7_114 : zW (.fieldLinkNest RX7 114 (TX1 8).1 (TX1 8).2.1 (TX1 8).2.2.1 "ModalKeys") := ⟨List.mem_of_getElem? (i := 261) (by decide +kernel), by decide +kernel⟩
theorem wf_X1_75 : zW (.fieldLink RX1 75 (TX1 9).1 (TX1 9).2.1 (TX1 9).2.2.1) := ⟨List.mem_of_getElem? (i := 262) (by decide +kernel), by decide +kernel⟩
theorem wf_X7_77 : zW (.fieldLinkNest RX7 77 (TX1 9).1 (TX1 9).2.1 (TX1 9).2.2.1 "ModalKeys") := ⟨List.mem_of_getElem? (i := 263) (by decide +kernel), by decide +kernel⟩
theorem wf_X1_187 : zW (.fieldLink RX1 187 (TX1 10).1 (TX1 10).2.1 (TX1 10).2.2.1) := ⟨List.mem_of_getElem? (i := 264) (by decide +kernel), by decide +kernel⟩
theorem wf_X1_178 : zW (.fieldLink RX1 178 (TX1 11).1 (TX1 11).2.1 (TX1 11).2.2.1) := ⟨List.mem_of_getElem? (i := 265) (by decide +kernel), by decide +kernel⟩
theorem wf_X7_155 : zW (.fieldLinkNest RX7 155 (TX1 11).1 (TX1 11).2.1 (TX1 11).2.2.1 "ModalKeys") := ⟨List.mem_of_getElem? (i := 266) (by decide +kernel), by decide +kernel⟩
theorem wf_X1_181 : zW (.fieldLink RX1 181 (TX1 12).1 (TX1 12).2.1 (TX1 12).2.2.1) := ⟨List.mem_of_getElem? (i := 267) (by decide +kernel), by decide +kernel⟩
theorem wf_X7_152 : zW (.fieldLinkNest RX7 152 (TX1 12).1 (TX1 12).2.1 (TX1 12).2.2.1 "ModalKeys") := ⟨List.mem_of_getElem? (i := 268) (by decide +kernel), by decide +kernel⟩
theorem wl_X7_23 : zW (.classLink RX7 23 RX6) := ⟨List.mem_of_getElem? (i := 296) (by decide +kernel), by decide +kernel⟩
theorem wx_X6 : zW (.instantiable RX6 5) := ⟨List.mem_of_getElem? (i := 297) (by decide +kernel), by decide +kernel⟩
theorem wm_X7_25 : zW (.methodLinkNest RX7 25 yX6_init "ModalKeys") := ⟨List.mem_of_getElem? (i := 298) (by decide +kernel), by decide +kernel⟩
theorem wi_X6_init : zW (.instanceMethod yX6_init) := ⟨List.mem_of_getElem? (i := 299) (by decide +kernel), by decide +kernel⟩
theorem wc_X6_init : zW (.code yX6_init cX6_init 1 none) := ⟨List.mem_of_getElem? (i := 300) (by decide +kernel), by decide +kernel⟩
theorem wl_X6_9 : zW (.classLink RX6 9 "[[I") := ⟨List.mem_of_getElem? (i := 302) (by decide +kernel), by decide +kernel⟩
theorem wf_X6_11 : zW (.fieldLink RX6 11 (TX6 0).1 (TX6 0).2.1 (TX6 0).2.2.1) := ⟨List.mem_of_getElem? (i := 304) (by decide +kernel), by decide +kernel⟩
theorem wf_X6_16 : zW (.fieldLink RX6 16 (TX6 1).1 (TX6 1).2.1 (TX6 1).2.2.1) := ⟨List.mem_of_getElem? (i := 305) (by decide +kernel), by decide +kernel⟩
theorem wf_X7_132 : zW (.fieldLinkNest RX7 132 (TX6 1).1 (TX6 1).2.1 (TX6 1).2.2.1 "ModalKeys") := ⟨List.mem_of_getElem? (i := 306) (by decide +kernel), by decide +kernel⟩
theorem wf_X6_20 : zW (.fieldLink RX6 20 (TX6 2).1 (TX6 2).2.1 (TX6 2).2.2.1) := ⟨List.mem_of_getElem? (i := 307) (by decide +kernel), by decide +kernel⟩
theorem wf_X6_23 : zW (.fieldLink RX6 23 (TX6 3).1 (TX6 3).2.1 (TX6 3).2.2.1) := ⟨List.mem_of_getElem? (i := 308) (by decide +kernel), by decide +kernel⟩
theorem wf_X6_32 : zW (.fieldLink RX6 32 (TX6 4).1 (TX6 4).2.1 (TX6 4).2.2.1) := ⟨List.mem_of_getElem? (i := 309) (by decide +kernel), by decide +kernel⟩
theorem wl_X7_30 : zW (.classLink RX7 30 RX4) := ⟨List.mem_of_getElem? (i := 321) (by decide +kernel), by decide +kernel⟩
theorem wx_X4 : zW (.instantiable RX4 3) := ⟨List.mem_of_getElem? (i := 323) (by decide +kernel), by decide +kernel⟩
theorem wm_X7_36 : zW (.methodLinkNest RX7 36 yX4_init "ModalKeys") := ⟨List.mem_of_getElem? (i := 324) (by decide +kernel), by decide +kernel⟩
theorem wi_X4_init : zW (.instanceMethod yX4_init) := ⟨List.mem_of_getElem? (i := 325) (by decide +kernel), by decide +kernel⟩
theorem wc_X4_init : zW (.code yX4_init cX4_init 1 none) := ⟨List.mem_of_getElem? (i := 326) (by decide +kernel), by decide +kernel⟩
theorem wf_X4_9 : zW (.fieldLink RX4 9 (TX4 0).1 (TX4 0).2.1 (TX4 0).2.2.1) := ⟨List.mem_of_getElem? (i := 328) (by decide +kernel), by decide +kernel⟩
theorem wf_X7_182 : zW (.fieldLinkNest RX7 182 (TX4 0).1 (TX4 0).2.1 (TX4 0).2.2.1 "ModalKeys") := ⟨List.mem_of_getElem? (i := 329) (by decide +kernel), by decide +kernel⟩
theorem wf_X4_15 : zW (.fieldLink RX4 15 (TX4 1).1 (TX4 1).2.1 (TX4 1).2.2.1) := ⟨List.mem_of_getElem? (i := 330) (by decide +kernel), by decide +kernel⟩
theorem wf_X7_202 : zW (.fieldLinkNest RX7 202 (TX4 1).1 (TX4 1).2.1 (TX4 1).2.2.1 "ModalKeys") := ⟨List.mem_of_getElem? (i := 331) (by decide +kernel), by decide +kernel⟩
theorem wf_X4_19 : zW (.fieldLink RX4 19 (TX4 2).1 (TX4 2).2.1 (TX4 2).2.2.1) := ⟨List.mem_of_getElem? (i := 332) (by decide +kernel), by decide +kernel⟩
theorem wf_X7_201 : zW (.fieldLinkNest RX7 201 (TX4 2).1 (TX4 2).2.1 (TX4 2).2.2.1 "ModalKeys") := ⟨List.mem_of_getElem? (i := 333) (by decide +kernel), by decide +kernel⟩
theorem wf_X7_9 : zW (.fieldLink RX7 9 (TX7 0).1 (TX7 0).2.1 (TX7 0).2.2.1) := ⟨List.mem_of_getElem? (i := 342) (by decide +kernel), by decide +kernel⟩
theorem wf_X7_41 : zW (.fieldLink RX7 41 (TX7 1).1 (TX7 1).2.1 (TX7 1).2.2.1) := ⟨List.mem_of_getElem? (i := 343) (by decide +kernel), by decide +kernel⟩
theorem wf_X7_16 : zW (.fieldLink RX7 16 (TX7 2).1 (TX7 2).2.1 (TX7 2).2.2.1) := ⟨List.mem_of_getElem? (i := 344) (by decide +kernel), by decide +kernel⟩
theorem wf_X7_20 : zW (.fieldLink RX7 20 (TX7 3).1 (TX7 3).2.1 (TX7 3).2.2.1) := ⟨List.mem_of_getElem? (i := 345) (by decide +kernel), by decide +kernel⟩
theorem wf_X7_166 : zW (.fieldLink RX7 166 (TX7 4).1 (TX7 4).2.1 (TX7 4).2.2.1) := ⟨List.mem_of_getElem? (i := 346) (by decide +kernel), by decide +kernel⟩
theorem wf_X7_26 : zW (.fieldLink RX7 26 (TX7 5).1 (TX7 5).2.1 (TX7 5).2.2.1) := ⟨List.mem_of_getElem? (i := 347) (by decide +kernel), by decide +kernel⟩
theorem wf_X7_32 : zW (.fieldLink RX7 32 (TX7 6).1 (TX7 6).2.1 (TX7 6).2.2.1) := ⟨List.mem_of_getElem? (i := 348) (by decide +kernel), by decide +kernel⟩
theorem wm_L_13 : zW (.methodLink RL 13 yX7_type) := ⟨List.mem_of_getElem? (i := 364) (by decide +kernel), by decide +kernel⟩
theorem wi_X7_type : zW (.instanceMethod yX7_type) := ⟨List.mem_of_getElem? (i := 365) (by decide +kernel), by decide +kernel⟩
theorem ws_X7_type : zW (.selects RX7 yX7_type yX7_type) := ⟨List.mem_of_getElem? (i := 366) (by decide +kernel), by decide +kernel⟩
theorem wc_X7_type : zW (.code yX7_type cX7_type 2 (some Jvm.ClassFile.FieldType.int)) := ⟨List.mem_of_getElem? (i := 367) (by decide +kernel), by decide +kernel⟩
theorem wm_X7_37 : zW (.methodLink RX7 37 yX7_isLetter) := ⟨List.mem_of_getElem? (i := 368) (by decide +kernel), by decide +kernel⟩
theorem wt_X7_isLetter : zW (.static yX7_isLetter) := ⟨List.mem_of_getElem? (i := 369) (by decide +kernel), by decide +kernel⟩
theorem wc_X7_isLetter : zW (.code yX7_isLetter cX7_isLetter 1 (some Jvm.ClassFile.FieldType.boolean)) := ⟨List.mem_of_getElem? (i := 370) (by decide +kernel), by decide +kernel⟩
theorem wm_L_18 : zW (.methodLink RL 18 yX7_line) := ⟨List.mem_of_getElem? (i := 371) (by decide +kernel), by decide +kernel⟩
theorem wi_X7_line : zW (.instanceMethod yX7_line) := ⟨List.mem_of_getElem? (i := 372) (by decide +kernel), by decide +kernel⟩
theorem ws_X7_line : zW (.selects RX7 yX7_line yX7_line) := ⟨List.mem_of_getElem? (i := 373) (by decide +kernel), by decide +kernel⟩
theorem wc_X7_line : zW (.code yX7_line cX7_line 1 (some Jvm.ClassFile.FieldType.int)) := ⟨List.mem_of_getElem? (i := 374) (by decide +kernel), by decide +kernel⟩
theorem wm_X7_45 : zW (.methodLinkNest RX7 45 yX1_begin "ModalKeys") := ⟨List.mem_of_getElem? (i := 375) (by decide +kernel), by decide +kernel⟩
theorem wi_X1_begin : zW (.instanceMethod yX1_begin) := ⟨List.mem_of_getElem? (i := 377) (by decide +kernel), by decide +kernel⟩
theorem wc_X1_begin : zW (.code yX1_begin cX1_begin 3 none) := ⟨List.mem_of_getElem? (i := 378) (by decide +kernel), by decide +kernel⟩
theorem wm_X1_65 : zW (.methodLink RX1 65 arraycopyName) := ⟨List.mem_of_getElem? (i := 379) (by decide +kernel), by decide +kernel⟩
theorem wt_System_arraycopy : zW (.static arraycopyName) := ⟨List.mem_of_getElem? (i := 380) (by decide +kernel), by decide +kernel⟩
theorem wv_System_arraycopy : zW (.native arraycopyName) := ⟨List.mem_of_getElem? (i := 381) (by decide +kernel), by decide +kernel⟩
theorem wm_X1_88 : zW (.methodLink RX1 88 yJ7_fill_53178) := ⟨List.mem_of_getElem? (i := 382) (by decide +kernel), by decide +kernel⟩
theorem wt_J7_fill_53178 : zW (.static yJ7_fill_53178) := ⟨List.mem_of_getElem? (i := 383) (by decide +kernel), by decide +kernel⟩
theorem wc_J7_fill_53178 : zW (.code yJ7_fill_53178 cJ7_fill_53178 4 none) := ⟨List.mem_of_getElem? (i := 384) (by decide +kernel), by decide +kernel⟩
theorem wm_X1_98 : zW (.methodLinkNest RX1 98 yX0_clear "ModalKeys") := ⟨List.mem_of_getElem? (i := 385) (by decide +kernel), by decide +kernel⟩
theorem wi_X0_clear : zW (.instanceMethod yX0_clear) := ⟨List.mem_of_getElem? (i := 387) (by decide +kernel), by decide +kernel⟩
theorem wc_X0_clear : zW (.code yX0_clear cX0_clear 1 none) := ⟨List.mem_of_getElem? (i := 388) (by decide +kernel), by decide +kernel⟩
theorem wm_L_23 : zW (.methodLink RL 23 yX7_letter) := ⟨List.mem_of_getElem? (i := 389) (by decide +kernel), by decide +kernel⟩
theorem wi_X7_letter : zW (.instanceMethod yX7_letter) := ⟨List.mem_of_getElem? (i := 390) (by decide +kernel), by decide +kernel⟩
theorem ws_X7_letter : zW (.selects RX7 yX7_letter yX7_letter) := ⟨List.mem_of_getElem? (i := 391) (by decide +kernel), by decide +kernel⟩
theorem wc_X7_letter : zW (.code yX7_letter cX7_letter 2 (some Jvm.ClassFile.FieldType.int)) := ⟨List.mem_of_getElem? (i := 392) (by decide +kernel), by decide +kernel⟩
theorem wm_X7_58 : zW (.methodLinkNest RX7 58 yX5_has "ModalKeys") := ⟨List.mem_of_getElem? (i := 393) (by decide +kernel), by decide +kernel⟩
theorem wi_X5_has : zW (.instanceMethod yX5_has) := ⟨List.mem_of_getElem? (i := 395) (by decide +kernel), by decide +kernel⟩
theorem wc_X5_has : zW (.code yX5_has cX5_has 2 (some Jvm.ClassFile.FieldType.boolean)) := ⟨List.mem_of_getElem? (i := 396) (by decide +kernel), by decide +kernel⟩
theorem wm_X7_61 : zW (.methodLinkNest RX7 61 yX5_at "ModalKeys") := ⟨List.mem_of_getElem? (i := 397) (by decide +kernel), by decide +kernel⟩
theorem wi_X5_at : zW (.instanceMethod yX5_at) := ⟨List.mem_of_getElem? (i := 399) (by decide +kernel), by decide +kernel⟩
theorem wc_X5_at : zW (.code yX5_at cX5_at 2 (some Jvm.ClassFile.FieldType.int)) := ⟨List.mem_of_getElem? (i := 400) (by decide +kernel), by decide +kernel⟩
theorem wm_X5_28 : zW (.methodLink RX5 28 yX5_has) := ⟨List.mem_of_getElem? (i := 401) (by decide +kernel), by decide +kernel⟩
theorem wm_L_27 : zW (.methodLink RL 27 yX7_store) := ⟨List.mem_of_getElem? (i := 402) (by decide +kernel), by decide +kernel⟩
theorem wi_X7_store : zW (.instanceMethod yX7_store) := ⟨List.mem_of_getElem? (i := 403) (by decide +kernel), by decide +kernel⟩
theorem ws_X7_store : zW (.selects RX7 yX7_store yX7_store) := ⟨List.mem_of_getElem? (i := 404) (by decide +kernel), by decide +kernel⟩
theorem wc_X7_store : zW (.code yX7_store cX7_store 2 (some Jvm.ClassFile.FieldType.int)) := ⟨List.mem_of_getElem? (i := 405) (by decide +kernel), by decide +kernel⟩
theorem wm_L_31 : zW (.methodLink RL 31 yX7_mark) := ⟨List.mem_of_getElem? (i := 406) (by decide +kernel), by decide +kernel⟩
theorem wi_X7_mark : zW (.instanceMethod yX7_mark) := ⟨List.mem_of_getElem? (i := 407) (by decide +kernel), by decide +kernel⟩
theorem ws_X7_mark : zW (.selects RX7 yX7_mark yX7_mark) := ⟨List.mem_of_getElem? (i := 408) (by decide +kernel), by decide +kernel⟩
theorem wc_X7_mark : zW (.code yX7_mark cX7_mark 2 (some Jvm.ClassFile.FieldType.int)) := ⟨List.mem_of_getElem? (i := 409) (by decide +kernel), by decide +kernel⟩
theorem wm_L_35 : zW (.methodLink RL 35 yX7_count) := ⟨List.mem_of_getElem? (i := 410) (by decide +kernel), by decide +kernel⟩
theorem wi_X7_count : zW (.instanceMethod yX7_count) := ⟨List.mem_of_getElem? (i := 411) (by decide +kernel), by decide +kernel⟩
theorem ws_X7_count : zW (.selects RX7 yX7_count yX7_count) := ⟨List.mem_of_getElem? (i := 412) (by decide +kernel), by decide +kernel⟩
theorem wc_X7_count : zW (.code yX7_count cX7_count 2 (some Jvm.ClassFile.FieldType.int)) := ⟨List.mem_of_getElem? (i := 413) (by decide +kernel), by decide +kernel⟩
theorem wm_X7_81 : zW (.methodLinkNest RX7 81 yX1_isPending "ModalKeys") := ⟨List.mem_of_getElem? (i := 414) (by decide +kernel), by decide +kernel⟩
theorem wi_X1_isPending : zW (.instanceMethod yX1_isPending) := ⟨List.mem_of_getElem? (i := 416) (by decide +kernel), by decide +kernel⟩
theorem wc_X1_isPending : zW (.code yX1_isPending cX1_isPending 1 (some Jvm.ClassFile.FieldType.boolean)) := ⟨List.mem_of_getElem? (i := 417) (by decide +kernel), by decide +kernel⟩
theorem wm_X7_85 : zW (.methodLinkNest RX7 85 yX1_markSet "ModalKeys") := ⟨List.mem_of_getElem? (i := 418) (by decide +kernel), by decide +kernel⟩
theorem wi_X1_markSet : zW (.instanceMethod yX1_markSet) := ⟨List.mem_of_getElem? (i := 420) (by decide +kernel), by decide +kernel⟩
theorem wc_X1_markSet : zW (.code yX1_markSet cX1_markSet 3 (some Jvm.ClassFile.FieldType.int)) := ⟨List.mem_of_getElem? (i := 421) (by decide +kernel), by decide +kernel⟩
theorem wm_X7_98 : zW (.methodLinkNest RX7 98 yX5_words "ModalKeys") := ⟨List.mem_of_getElem? (i := 422) (by decide +kernel), by decide +kernel⟩
theorem wi_X5_words : zW (.instanceMethod yX5_words) := ⟨List.mem_of_getElem? (i := 424) (by decide +kernel), by decide +kernel⟩
theorem wc_X5_words : zW (.code yX5_words cX5_words 3 (some Jvm.ClassFile.FieldType.int)) := ⟨List.mem_of_getElem? (i := 425) (by decide +kernel), by decide +kernel⟩
theorem wm_X5_42 : zW (.methodLink RX5 42 yX5_kindAt) := ⟨List.mem_of_getElem? (i := 426) (by decide +kernel), by decide +kernel⟩
theorem wi_X5_kindAt : zW (.instanceMethod yX5_kindAt) := ⟨List.mem_of_getElem? (i := 428) (by decide +kernel), by decide +kernel⟩
theorem wc_X5_kindAt : zW (.code yX5_kindAt cX5_kindAt 6 (some Jvm.ClassFile.FieldType.int)) := ⟨List.mem_of_getElem? (i := 429) (by decide +kernel), by decide +kernel⟩
theorem wm_L_39 : zW (.methodLink RL 39 yX7_key) := ⟨List.mem_of_getElem? (i := 430) (by decide +kernel), by decide +kernel⟩
theorem wi_X7_key : zW (.instanceMethod yX7_key) := ⟨List.mem_of_getElem? (i := 431) (by decide +kernel), by decide +kernel⟩
theorem ws_X7_key : zW (.selects RX7 yX7_key yX7_key) := ⟨List.mem_of_getElem? (i := 432) (by decide +kernel), by decide +kernel⟩
theorem wc_X7_key : zW (.code yX7_key cX7_key 2 (some Jvm.ClassFile.FieldType.int)) := ⟨List.mem_of_getElem? (i := 433) (by decide +kernel), by decide +kernel⟩
theorem wm_X7_108 : zW (.methodLinkNest RX7 108 yX1_press "ModalKeys") := ⟨List.mem_of_getElem? (i := 434) (by decide +kernel), by decide +kernel⟩
theorem wi_X1_press : zW (.instanceMethod yX1_press) := ⟨List.mem_of_getElem? (i := 436) (by decide +kernel), by decide +kernel⟩
theorem wc_X1_press : zW (.code yX1_press cX1_press 5 (some Jvm.ClassFile.FieldType.int)) := ⟨List.mem_of_getElem? (i := 437) (by decide +kernel), by decide +kernel⟩
theorem wm_X1_107 : zW (.methodLink RX1 107 yX1_strike) := ⟨List.mem_of_getElem? (i := 438) (by decide +kernel), by decide +kernel⟩
theorem wi_X1_strike : zW (.instanceMethod yX1_strike) := ⟨List.mem_of_getElem? (i := 440) (by decide +kernel), by decide +kernel⟩
theorem wc_X1_strike : zW (.code yX1_strike cX1_strike 5 (some Jvm.ClassFile.FieldType.int)) := ⟨List.mem_of_getElem? (i := 441) (by decide +kernel), by decide +kernel⟩
theorem wm_X1_117 : zW (.methodLink RX1 117 yX1_typeIn) := ⟨List.mem_of_getElem? (i := 442) (by decide +kernel), by decide +kernel⟩
theorem wi_X1_typeIn : zW (.instanceMethod yX1_typeIn) := ⟨List.mem_of_getElem? (i := 444) (by decide +kernel), by decide +kernel⟩
theorem wc_X1_typeIn : zW (.code yX1_typeIn cX1_typeIn 3 (some Jvm.ClassFile.FieldType.int)) := ⟨List.mem_of_getElem? (i := 445) (by decide +kernel), by decide +kernel⟩
theorem wm_X1_138 : zW (.methodLinkNest RX1 138 yX2_add "ModalKeys") := ⟨List.mem_of_getElem? (i := 446) (by decide +kernel), by decide +kernel⟩
theorem wi_X2_add : zW (.instanceMethod yX2_add) := ⟨List.mem_of_getElem? (i := 448) (by decide +kernel), by decide +kernel⟩
theorem wc_X2_add : zW (.code yX2_add cX2_add 2 none) := ⟨List.mem_of_getElem? (i := 449) (by decide +kernel), by decide +kernel⟩
theorem wm_X2_23 : zW (.methodLink RX2 23 Lib.Math.min.name) := ⟨List.mem_of_getElem? (i := 450) (by decide +kernel), by decide +kernel⟩
theorem wt_Math_min : zW (.static Lib.Math.min.name) := ⟨List.mem_of_getElem? (i := 451) (by decide +kernel), by decide +kernel⟩
theorem wc_Math_min : zW (.code Lib.Math.min.name Lib.Math.min.code 2 (some Jvm.ClassFile.FieldType.int)) := ⟨List.mem_of_getElem? (i := 452) (by decide +kernel), by decide +kernel⟩
theorem wm_X1_142 : zW (.methodLink RX1 142 Lib.Math.max.name) := ⟨List.mem_of_getElem? (i := 453) (by decide +kernel), by decide +kernel⟩
theorem wt_Math_max : zW (.static Lib.Math.max.name) := ⟨List.mem_of_getElem? (i := 454) (by decide +kernel), by decide +kernel⟩
theorem wc_Math_max : zW (.code Lib.Math.max.name Lib.Math.max.code 2 (some Jvm.ClassFile.FieldType.int)) := ⟨List.mem_of_getElem? (i := 455) (by decide +kernel), by decide +kernel⟩
theorem wm_X1_134 : zW (.methodLink RX1 134 yX1_remember) := ⟨List.mem_of_getElem? (i := 456) (by decide +kernel), by decide +kernel⟩
theorem wi_X1_remember : zW (.instanceMethod yX1_remember) := ⟨List.mem_of_getElem? (i := 458) (by decide +kernel), by decide +kernel⟩
theorem wc_X1_remember : zW (.code yX1_remember cX1_remember 2 none) := ⟨List.mem_of_getElem? (i := 459) (by decide +kernel), by decide +kernel⟩
theorem wm_X1_152 : zW (.methodLinkNest RX1 152 yX3_keep "ModalKeys") := ⟨List.mem_of_getElem? (i := 460) (by decide +kernel), by decide +kernel⟩
theorem wi_X3_keep : zW (.instanceMethod yX3_keep) := ⟨List.mem_of_getElem? (i := 462) (by decide +kernel), by decide +kernel⟩
theorem wc_X3_keep : zW (.code yX3_keep cX3_keep 2 none) := ⟨List.mem_of_getElem? (i := 463) (by decide +kernel), by decide +kernel⟩
theorem wm_X3_21 : zW (.methodLink RX3 21 arraycopyName) := ⟨List.mem_of_getElem? (i := 464) (by decide +kernel), by decide +kernel⟩
theorem wm_X3_43 : zW (.methodLink RX3 43 Lib.Math.min.name) := ⟨List.mem_of_getElem? (i := 465) (by decide +kernel), by decide +kernel⟩
theorem wm_X1_62 : zW (.methodLinkNest RX1 62 yX2_become "ModalKeys") := ⟨List.mem_of_getElem? (i := 466) (by decide +kernel), by decide +kernel⟩
theorem wi_X2_become : zW (.instanceMethod yX2_become) := ⟨List.mem_of_getElem? (i := 468) (by decide +kernel), by decide +kernel⟩
theorem wc_X2_become : zW (.code yX2_become cX2_become 2 none) := ⟨List.mem_of_getElem? (i := 469) (by decide +kernel), by decide +kernel⟩
theorem wm_X2_13 : zW (.methodLink RX2 13 arraycopyName) := ⟨List.mem_of_getElem? (i := 470) (by decide +kernel), by decide +kernel⟩
theorem wm_X1_148 : zW (.methodLinkNest RX1 148 yX5_makeRoom "ModalKeys") := ⟨List.mem_of_getElem? (i := 471) (by decide +kernel), by decide +kernel⟩
theorem wi_X5_makeRoom : zW (.instanceMethod yX5_makeRoom) := ⟨List.mem_of_getElem? (i := 473) (by decide +kernel), by decide +kernel⟩
theorem wc_X5_makeRoom : zW (.code yX5_makeRoom cX5_makeRoom 3 none) := ⟨List.mem_of_getElem? (i := 474) (by decide +kernel), by decide +kernel⟩
theorem wm_X5_15 : zW (.methodLink RX5 15 arraycopyName) := ⟨List.mem_of_getElem? (i := 475) (by decide +kernel), by decide +kernel⟩
theorem wm_X1_120 : zW (.methodLinkNest RX1 120 yX0_take "ModalKeys") := ⟨List.mem_of_getElem? (i := 476) (by decide +kernel), by decide +kernel⟩
theorem wi_X0_take : zW (.instanceMethod yX0_take) := ⟨List.mem_of_getElem? (i := 478) (by decide +kernel), by decide +kernel⟩
theorem wc_X0_take : zW (.code yX0_take cX0_take 2 (some Jvm.ClassFile.FieldType.int)) := ⟨List.mem_of_getElem? (i := 479) (by decide +kernel), by decide +kernel⟩
theorem wm_X0_60 : zW (.methodLinkNest RX0 60 yX2_add "ModalKeys") := ⟨List.mem_of_getElem? (i := 480) (by decide +kernel), by decide +kernel⟩
theorem wm_X0_64 : zW (.methodLink RX0 64 yX0_takeVerb) := ⟨List.mem_of_getElem? (i := 481) (by decide +kernel), by decide +kernel⟩
theorem wi_X0_takeVerb : zW (.instanceMethod yX0_takeVerb) := ⟨List.mem_of_getElem? (i := 483) (by decide +kernel), by decide +kernel⟩
theorem wc_X0_takeVerb : zW (.code yX0_takeVerb cX0_takeVerb 2 (some Jvm.ClassFile.FieldType.int)) := ⟨List.mem_of_getElem? (i := 484) (by decide +kernel), by decide +kernel⟩
theorem wm_X0_74 : zW (.methodLink RX0 74 yX0_isFigure) := ⟨List.mem_of_getElem? (i := 485) (by decide +kernel), by decide +kernel⟩
theorem wt_X0_isFigure : zW (.static yX0_isFigure) := ⟨List.mem_of_getElem? (i := 486) (by decide +kernel), by decide +kernel⟩
theorem wc_X0_isFigure : zW (.code yX0_isFigure cX0_isFigure 2 (some Jvm.ClassFile.FieldType.boolean)) := ⟨List.mem_of_getElem? (i := 487) (by decide +kernel), by decide +kernel⟩
theorem wm_X0_78 : zW (.methodLink RX0 78 yX0_withFigure) := ⟨List.mem_of_getElem? (i := 488) (by decide +kernel), by decide +kernel⟩
theorem wt_X0_withFigure : zW (.static yX0_withFigure) := ⟨List.mem_of_getElem? (i := 489) (by decide +kernel), by decide +kernel⟩
theorem wc_X0_withFigure : zW (.code yX0_withFigure cX0_withFigure 2 (some Jvm.ClassFile.FieldType.int)) := ⟨List.mem_of_getElem? (i := 490) (by decide +kernel), by decide +kernel⟩
theorem wm_X0_57 : zW (.methodLink RX0 57 Lib.Math.min.name) := ⟨List.mem_of_getElem? (i := 491) (by decide +kernel), by decide +kernel⟩
theorem wm_X0_81 : zW (.methodLink RX0 81 yX0_waitWith) := ⟨List.mem_of_getElem? (i := 492) (by decide +kernel), by decide +kernel⟩
theorem wi_X0_waitWith : zW (.instanceMethod yX0_waitWith) := ⟨List.mem_of_getElem? (i := 494) (by decide +kernel), by decide +kernel⟩
theorem wc_X0_waitWith : zW (.code yX0_waitWith cX0_waitWith 3 (some Jvm.ClassFile.FieldType.int)) := ⟨List.mem_of_getElem? (i := 495) (by decide +kernel), by decide +kernel⟩
theorem wm_X0_84 : zW (.methodLink RX0 84 yX0_takeMotion) := ⟨List.mem_of_getElem? (i := 496) (by decide +kernel), by decide +kernel⟩
theorem wi_X0_takeMotion : zW (.instanceMethod yX0_takeMotion) := ⟨List.mem_of_getElem? (i := 498) (by decide +kernel), by decide +kernel⟩
theorem wc_X0_takeMotion : zW (.code yX0_takeMotion cX0_takeMotion 2 (some Jvm.ClassFile.FieldType.int)) := ⟨List.mem_of_getElem? (i := 499) (by decide +kernel), by decide +kernel⟩
theorem wm_X0_87 : zW (.methodLink RX0 87 yX0_motionOf) := ⟨List.mem_of_getElem? (i := 500) (by decide +kernel), by decide +kernel⟩
theorem wt_X0_motionOf : zW (.static yX0_motionOf) := ⟨List.mem_of_getElem? (i := 501) (by decide +kernel), by decide +kernel⟩
theorem wc_X0_motionOf : zW (.code yX0_motionOf cX0_motionOf 1 (some Jvm.ClassFile.FieldType.int)) := ⟨List.mem_of_getElem? (i := 502) (by decide +kernel), by decide +kernel⟩
theorem wm_X0_68 : zW (.methodLink RX0 68 yX0_takeReach) := ⟨List.mem_of_getElem? (i := 503) (by decide +kernel), by decide +kernel⟩
theorem wi_X0_takeReach : zW (.instanceMethod yX0_takeReach) := ⟨List.mem_of_getElem? (i := 505) (by decide +kernel), by decide +kernel⟩
theorem wc_X0_takeReach : zW (.code yX0_takeReach cX0_takeReach 2 (some Jvm.ClassFile.FieldType.int)) := ⟨List.mem_of_getElem? (i := 506) (by decide +kernel), by decide +kernel⟩
theorem wm_X0_71 : zW (.methodLink RX0 71 yX0_takeObject) := ⟨List.mem_of_getElem? (i := 507) (by decide +kernel), by decide +kernel⟩
theorem wi_X0_takeObject : zW (.instanceMethod yX0_takeObject) := ⟨List.mem_of_getElem? (i := 509) (by decide +kernel), by decide +kernel⟩
theorem wc_X0_takeObject : zW (.code yX0_takeObject cX0_takeObject 2 (some Jvm.ClassFile.FieldType.int)) := ⟨List.mem_of_getElem? (i := 510) (by decide +kernel), by decide +kernel⟩
theorem wm_X1_52 : zW (.methodLinkNest RX1 52 yX5_become "ModalKeys") := ⟨List.mem_of_getElem? (i := 511) (by decide +kernel), by decide +kernel⟩
theorem wi_X5_become : zW (.instanceMethod yX5_become) := ⟨List.mem_of_getElem? (i := 513) (by decide +kernel), by decide +kernel⟩
theorem wc_X5_become : zW (.code yX5_become cX5_become 2 none) := ⟨List.mem_of_getElem? (i := 514) (by decide +kernel), by decide +kernel⟩
theorem wm_X1_124 : zW (.methodLink RX1 124 yX1_aim) := ⟨List.mem_of_getElem? (i := 515) (by decide +kernel), by decide +kernel⟩
theorem wi_X1_aim : zW (.instanceMethod yX1_aim) := ⟨List.mem_of_getElem? (i := 517) (by decide +kernel), by decide +kernel⟩
theorem wc_X1_aim : zW (.code yX1_aim cX1_aim 1 (some Jvm.ClassFile.FieldType.boolean)) := ⟨List.mem_of_getElem? (i := 518) (by decide +kernel), by decide +kernel⟩
theorem wm_X1_127 : zW (.methodLinkNest RX1 127 yX0_times "ModalKeys") := ⟨List.mem_of_getElem? (i := 519) (by decide +kernel), by decide +kernel⟩
theorem wi_X0_times : zW (.instanceMethod yX0_times) := ⟨List.mem_of_getElem? (i := 521) (by decide +kernel), by decide +kernel⟩
theorem wc_X0_times : zW (.code yX0_times cX0_times 1 (some Jvm.ClassFile.FieldType.int)) := ⟨List.mem_of_getElem? (i := 522) (by decide +kernel), by decide +kernel⟩
theorem wm_X0_51 : zW (.methodLink RX0 51 Lib.Math.max.name) := ⟨List.mem_of_getElem? (i := 523) (by decide +kernel), by decide +kernel⟩
theorem wm_X1_164 : zW (.methodLink RX1 164 yX1_aimByMotion) := ⟨List.mem_of_getElem? (i := 524) (by decide +kernel), by decide +kernel⟩
theorem wi_X1_aimByMotion : zW (.instanceMethod yX1_aimByMotion) := ⟨List.mem_of_getElem? (i := 526) (by decide +kernel), by decide +kernel⟩
theorem wc_X1_aimByMotion : zW (.code yX1_aimByMotion cX1_aimByMotion 6 (some Jvm.ClassFile.FieldType.boolean)) := ⟨List.mem_of_getElem? (i := 527) (by decide +kernel), by decide +kernel⟩
theorem wm_X1_184 : zW (.methodLinkNest RX1 184 yX5_standing "ModalKeys") := ⟨List.mem_of_getElem? (i := 528) (by decide +kernel), by decide +kernel⟩
theorem wi_X5_standing : zW (.instanceMethod yX5_standing) := ⟨List.mem_of_getElem? (i := 530) (by decide +kernel), by decide +kernel⟩
theorem wc_X5_standing : zW (.code yX5_standing cX5_standing 1 (some Jvm.ClassFile.FieldType.int)) := ⟨List.mem_of_getElem? (i := 531) (by decide +kernel), by decide +kernel⟩
theorem wm_X5_32 : zW (.methodLink RX5 32 yX5_last) := ⟨List.mem_of_getElem? (i := 532) (by decide +kernel), by decide +kernel⟩
theorem wi_X5_last : zW (.instanceMethod yX5_last) := ⟨List.mem_of_getElem? (i := 534) (by decide +kernel), by decide +kernel⟩
theorem wc_X5_last : zW (.code yX5_last cX5_last 1 (some Jvm.ClassFile.FieldType.int)) := ⟨List.mem_of_getElem? (i := 535) (by decide +kernel), by decide +kernel⟩
theorem wm_X5_36 : zW (.methodLink RX5 36 Lib.Math.min.name) := ⟨List.mem_of_getElem? (i := 536) (by decide +kernel), by decide +kernel⟩
theorem wm_X1_190 : zW (.methodLink RX1 190 yX1_placeOfMark) := ⟨List.mem_of_getElem? (i := 537) (by decide +kernel), by decide +kernel⟩
theorem wi_X1_placeOfMark : zW (.instanceMethod yX1_placeOfMark) := ⟨List.mem_of_getElem? (i := 539) (by decide +kernel), by decide +kernel⟩
theorem wc_X1_placeOfMark : zW (.code yX1_placeOfMark cX1_placeOfMark 3 (some Jvm.ClassFile.FieldType.int)) := ⟨List.mem_of_getElem? (i := 540) (by decide +kernel), by decide +kernel⟩
theorem wm_X1_200 : zW (.methodLink RX1 200 Lib.Math.min.name) := ⟨List.mem_of_getElem? (i := 541) (by decide +kernel), by decide +kernel⟩
theorem wm_X1_193 : zW (.methodLinkNest RX1 193 yX5_findBehind "ModalKeys") := ⟨List.mem_of_getElem? (i := 542) (by decide +kernel), by decide +kernel⟩
theorem wi_X5_findBehind : zW (.instanceMethod yX5_findBehind) := ⟨List.mem_of_getElem? (i := 544) (by decide +kernel), by decide +kernel⟩
theorem wc_X5_findBehind : zW (.code yX5_findBehind cX5_findBehind 6 (some Jvm.ClassFile.FieldType.int)) := ⟨List.mem_of_getElem? (i := 545) (by decide +kernel), by decide +kernel⟩
theorem wm_X1_197 : zW (.methodLinkNest RX1 197 yX5_lead "ModalKeys") := ⟨List.mem_of_getElem? (i := 546) (by decide +kernel), by decide +kernel⟩
theorem wi_X5_lead : zW (.instanceMethod yX5_lead) := ⟨List.mem_of_getElem? (i := 548) (by decide +kernel), by decide +kernel⟩
theorem wc_X5_lead : zW (.code yX5_lead cX5_lead 4 (some Jvm.ClassFile.FieldType.int)) := ⟨List.mem_of_getElem? (i := 549) (by decide +kernel), by decide +kernel⟩
theorem wm_X5_46 : zW (.methodLink RX5 46 Lib.Math.max.name) := ⟨List.mem_of_getElem? (i := 550) (by decide +kernel), by decide +kernel⟩
theorem wm_X5_49 : zW (.methodLink RX5 49 yX5_behindKind) := ⟨List.mem_of_getElem? (i := 551) (by decide +kernel), by decide +kernel⟩
theorem wi_X5_behindKind : zW (.instanceMethod yX5_behindKind) := ⟨List.mem_of_getElem? (i := 553) (by decide +kernel), by decide +kernel⟩
theorem wc_X5_behindKind : zW (.code yX5_behindKind cX5_behindKind 4 (some Jvm.ClassFile.FieldType.int)) := ⟨List.mem_of_getElem? (i := 554) (by decide +kernel), by decide +kernel⟩
theorem wm_X5_52 : zW (.methodLink RX5 52 yX5_beginOfKind) := ⟨List.mem_of_getElem? (i := 555) (by decide +kernel), by decide +kernel⟩
theorem wi_X5_beginOfKind : zW (.instanceMethod yX5_beginOfKind) := ⟨List.mem_of_getElem? (i := 557) (by decide +kernel), by decide +kernel⟩
theorem wc_X5_beginOfKind : zW (.code yX5_beginOfKind cX5_beginOfKind 4 (some Jvm.ClassFile.FieldType.int)) := ⟨List.mem_of_getElem? (i := 558) (by decide +kernel), by decide +kernel⟩
theorem wm_X1_203 : zW (.methodLink RX1 203 yX1_takesPlace) := ⟨List.mem_of_getElem? (i := 559) (by decide +kernel), by decide +kernel⟩
theorem wt_X1_takesPlace : zW (.static yX1_takesPlace) := ⟨List.mem_of_getElem? (i := 560) (by decide +kernel), by decide +kernel⟩
theorem wc_X1_takesPlace : zW (.code yX1_takesPlace cX1_takesPlace 1 (some Jvm.ClassFile.FieldType.boolean)) := ⟨List.mem_of_getElem? (i := 561) (by decide +kernel), by decide +kernel⟩
theorem wm_X1_168 : zW (.methodLink RX1 168 yX1_aimByWord) := ⟨List.mem_of_getElem? (i := 562) (by decide +kernel), by decide +kernel⟩
theorem wi_X1_aimByWord : zW (.instanceMethod yX1_aimByWord) := ⟨List.mem_of_getElem? (i := 564) (by decide +kernel), by decide +kernel⟩
theorem wc_X1_aimByWord : zW (.code yX1_aimByWord cX1_aimByWord 2 (some Jvm.ClassFile.FieldType.boolean)) := ⟨List.mem_of_getElem? (i := 565) (by decide +kernel), by decide +kernel⟩
theorem wm_X1_206 : zW (.methodLinkNest RX1 206 yX5_kindAt "ModalKeys") := ⟨List.mem_of_getElem? (i := 566) (by decide +kernel), by decide +kernel⟩
theorem wm_X1_209 : zW (.methodLinkNest RX1 209 yX5_beginOfKind "ModalKeys") := ⟨List.mem_of_getElem? (i := 567) (by decide +kernel), by decide +kernel⟩
theorem wm_X1_212 : zW (.methodLinkNest RX1 212 yX5_behindKind "ModalKeys") := ⟨List.mem_of_getElem? (i := 568) (by decide +kernel), by decide +kernel⟩
theorem wm_X1_171 : zW (.methodLink RX1 171 yX1_aimByBrackets) := ⟨List.mem_of_getElem? (i := 569) (by decide +kernel), by decide +kernel⟩
theorem wi_X1_aimByBrackets : zW (.instanceMethod yX1_aimByBrackets) := ⟨List.mem_of_getElem? (i := 571) (by decide +kernel), by decide +kernel⟩
theorem wc_X1_aimByBrackets : zW (.code yX1_aimByBrackets cX1_aimByBrackets 3 (some Jvm.ClassFile.FieldType.boolean)) := ⟨List.mem_of_getElem? (i := 572) (by decide +kernel), by decide +kernel⟩
theorem wm_X1_218 : zW (.methodLinkNest RX1 218 yX5_openingRound "ModalKeys") := ⟨List.mem_of_getElem? (i := 573) (by decide +kernel), by decide +kernel⟩
theorem wi_X5_openingRound : zW (.instanceMethod yX5_openingRound) := ⟨List.mem_of_getElem? (i := 575) (by decide +kernel), by decide +kernel⟩
theorem wc_X5_openingRound : zW (.code yX5_openingRound cX5_openingRound 4 (some Jvm.ClassFile.FieldType.int)) := ⟨List.mem_of_getElem? (i := 576) (by decide +kernel), by decide +kernel⟩
theorem wm_X5_58 : zW (.methodLink RX5 58 yX5_at) := ⟨List.mem_of_getElem? (i := 577) (by decide +kernel), by decide +kernel⟩
theorem wm_X1_221 : zW (.methodLinkNest RX1 221 yX5_closingOf "ModalKeys") := ⟨List.mem_of_getElem? (i := 578) (by decide +kernel), by decide +kernel⟩
theorem wi_X5_closingOf : zW (.instanceMethod yX5_closingOf) := ⟨List.mem_of_getElem? (i := 580) (by decide +kernel), by decide +kernel⟩
theorem wc_X5_closingOf : zW (.code yX5_closingOf cX5_closingOf 4 (some Jvm.ClassFile.FieldType.int)) := ⟨List.mem_of_getElem? (i := 581) (by decide +kernel), by decide +kernel⟩
theorem wm_X1_174 : zW (.methodLink RX1 174 yX1_aimByLetters) := ⟨List.mem_of_getElem? (i := 582) (by decide +kernel), by decide +kernel⟩
theorem wi_X1_aimByLetters : zW (.instanceMethod yX1_aimByLetters) := ⟨List.mem_of_getElem? (i := 584) (by decide +kernel), by decide +kernel⟩
theorem wc_X1_aimByLetters : zW (.code yX1_aimByLetters cX1_aimByLetters 2 (some Jvm.ClassFile.FieldType.boolean)) := ⟨List.mem_of_getElem? (i := 585) (by decide +kernel), by decide +kernel⟩
theorem wm_X1_131 : zW (.methodLink RX1 131 yX1_perform) := ⟨List.mem_of_getElem? (i := 586) (by decide +kernel), by decide +kernel⟩
theorem wi_X1_perform : zW (.instanceMethod yX1_perform) := ⟨List.mem_of_getElem? (i := 588) (by decide +kernel), by decide +kernel⟩
theorem wc_X1_perform : zW (.code yX1_perform cX1_perform 2 (some Jvm.ClassFile.FieldType.int)) := ⟨List.mem_of_getElem? (i := 589) (by decide +kernel), by decide +kernel⟩
theorem wm_X1_227 : zW (.methodLinkNest RX1 227 yX5_goTo "ModalKeys") := ⟨List.mem_of_getElem? (i := 590) (by decide +kernel), by decide +kernel⟩
theorem wi_X5_goTo : zW (.instanceMethod yX5_goTo) := ⟨List.mem_of_getElem? (i := 592) (by decide +kernel), by decide +kernel⟩
theorem wc_X5_goTo : zW (.code yX5_goTo cX5_goTo 2 none) := ⟨List.mem_of_getElem? (i := 593) (by decide +kernel), by decide +kernel⟩
theorem wm_X1_230 : zW (.methodLink RX1 230 yX1_cutRange) := ⟨List.mem_of_getElem? (i := 594) (by decide +kernel), by decide +kernel⟩
theorem wi_X1_cutRange : zW (.instanceMethod yX1_cutRange) := ⟨List.mem_of_getElem? (i := 596) (by decide +kernel), by decide +kernel⟩
theorem wc_X1_cutRange : zW (.code yX1_cutRange cX1_cutRange 2 (some Jvm.ClassFile.FieldType.int)) := ⟨List.mem_of_getElem? (i := 597) (by decide +kernel), by decide +kernel⟩
theorem wm_X1_233 : zW (.methodLink RX1 233 yX1_storeRange) := ⟨List.mem_of_getElem? (i := 598) (by decide +kernel), by decide +kernel⟩
theorem wi_X1_storeRange : zW (.instanceMethod yX1_storeRange) := ⟨List.mem_of_getElem? (i := 600) (by decide +kernel), by decide +kernel⟩
theorem wc_X1_storeRange : zW (.code yX1_storeRange cX1_storeRange 1 none) := ⟨List.mem_of_getElem? (i := 601) (by decide +kernel), by decide +kernel⟩
theorem wm_X1_255 : zW (.methodLinkNest RX1 255 yX5_takeOut "ModalKeys") := ⟨List.mem_of_getElem? (i := 602) (by decide +kernel), by decide +kernel⟩
theorem wi_X5_takeOut : zW (.instanceMethod yX5_takeOut) := ⟨List.mem_of_getElem? (i := 604) (by decide +kernel), by decide +kernel⟩
theorem wc_X5_takeOut : zW (.code yX5_takeOut cX5_takeOut 3 none) := ⟨List.mem_of_getElem? (i := 605) (by decide +kernel), by decide +kernel⟩
theorem wm_X1_236 : zW (.methodLink RX1 236 yX1_typeAt) := ⟨List.mem_of_getElem? (i := 606) (by decide +kernel), by decide +kernel⟩
theorem wi_X1_typeAt : zW (.instanceMethod yX1_typeAt) := ⟨List.mem_of_getElem? (i := 608) (by decide +kernel), by decide +kernel⟩
theorem wc_X1_typeAt : zW (.code yX1_typeAt cX1_typeAt 2 (some Jvm.ClassFile.FieldType.int)) := ⟨List.mem_of_getElem? (i := 609) (by decide +kernel), by decide +kernel⟩
theorem wm_X1_239 : zW (.methodLink RX1 239 yX1_overwrite) := ⟨List.mem_of_getElem? (i := 610) (by decide +kernel), by decide +kernel⟩
theorem wi_X1_overwrite : zW (.instanceMethod yX1_overwrite) := ⟨List.mem_of_getElem? (i := 612) (by decide +kernel), by decide +kernel⟩
theorem wc_X1_overwrite : zW (.code yX1_overwrite cX1_overwrite 4 (some Jvm.ClassFile.FieldType.int)) := ⟨List.mem_of_getElem? (i := 613) (by decide +kernel), by decide +kernel⟩
theorem wm_X1_242 : zW (.methodLink RX1 242 yX1_swapCases) := ⟨List.mem_of_getElem? (i := 614) (by decide +kernel), by decide +kernel⟩
theorem wi_X1_swapCases : zW (.instanceMethod yX1_swapCases) := ⟨List.mem_of_getElem? (i := 616) (by decide +kernel), by decide +kernel⟩
theorem wc_X1_swapCases : zW (.code yX1_swapCases cX1_swapCases 4 (some Jvm.ClassFile.FieldType.int)) := ⟨List.mem_of_getElem? (i := 617) (by decide +kernel), by decide +kernel⟩
theorem wm_X1_258 : zW (.methodLinkNest RX1 258 yX5_swapCase "ModalKeys") := ⟨List.mem_of_getElem? (i := 618) (by decide +kernel), by decide +kernel⟩
theorem wi_X5_swapCase : zW (.instanceMethod yX5_swapCase) := ⟨List.mem_of_getElem? (i := 620) (by decide +kernel), by decide +kernel⟩
theorem wc_X5_swapCase : zW (.code yX5_swapCase cX5_swapCase 3 none) := ⟨List.mem_of_getElem? (i := 621) (by decide +kernel), by decide +kernel⟩
theorem wm_X1_245 : zW (.methodLink RX1 245 yX1_putIn) := ⟨List.mem_of_getElem? (i := 622) (by decide +kernel), by decide +kernel⟩
theorem wi_X1_putIn : zW (.instanceMethod yX1_putIn) := ⟨List.mem_of_getElem? (i := 624) (by decide +kernel), by decide +kernel⟩
theorem wc_X1_putIn : zW (.code yX1_putIn cX1_putIn 5 (some Jvm.ClassFile.FieldType.int)) := ⟨List.mem_of_getElem? (i := 625) (by decide +kernel), by decide +kernel⟩
theorem wm_X1_248 : zW (.methodLinkNest RX1 248 yX3_bringBack "ModalKeys") := ⟨List.mem_of_getElem? (i := 626) (by decide +kernel), by decide +kernel⟩
theorem wi_X3_bringBack : zW (.instanceMethod yX3_bringBack) := ⟨List.mem_of_getElem? (i := 628) (by decide +kernel), by decide +kernel⟩
theorem wc_X3_bringBack : zW (.code yX3_bringBack cX3_bringBack 4 (some Jvm.ClassFile.FieldType.boolean)) := ⟨List.mem_of_getElem? (i := 629) (by decide +kernel), by decide +kernel⟩
theorem wm_X3_49 : zW (.methodLink RX3 49 yJ9_floorMod_7cf53) := ⟨List.mem_of_getElem? (i := 630) (by decide +kernel), by decide +kernel⟩
theorem wt_J9_floorMod_7cf53 : zW (.static yJ9_floorMod_7cf53) := ⟨List.mem_of_getElem? (i := 631) (by decide +kernel), by decide +kernel⟩
theorem wc_J9_floorMod_7cf53 : zW (.code yJ9_floorMod_7cf53 cJ9_floorMod_7cf53 3 (some Jvm.ClassFile.FieldType.int)) := ⟨List.mem_of_getElem? (i := 632) (by decide +kernel), by decide +kernel⟩
theorem wm_X1_252 : zW (.methodLink RX1 252 yX1_setMark) := ⟨List.mem_of_getElem? (i := 633) (by decide +kernel), by decide +kernel⟩
theorem wi_X1_setMark : zW (.instanceMethod yX1_setMark) := ⟨List.mem_of_getElem? (i := 635) (by decide +kernel), by decide +kernel⟩
theorem wc_X1_setMark : zW (.code yX1_setMark cX1_setMark 2 (some Jvm.ClassFile.FieldType.int)) := ⟨List.mem_of_getElem? (i := 636) (by decide +kernel), by decide +kernel⟩
theorem wm_X1_111 : zW (.methodLinkNest RX1 111 yX2_canBeRepeated "ModalKeys") := ⟨List.mem_of_getElem? (i := 637) (by decide +kernel), by decide +kernel⟩
theorem wi_X2_canBeRepeated : zW (.instanceMethod yX2_canBeRepeated) := ⟨List.mem_of_getElem? (i := 639) (by decide +kernel), by decide +kernel⟩
theorem wc_X2_canBeRepeated : zW (.code yX2_canBeRepeated cX2_canBeRepeated 1 (some Jvm.ClassFile.FieldType.boolean)) := ⟨List.mem_of_getElem? (i := 640) (by decide +kernel), by decide +kernel⟩
theorem wm_L_43 : zW (.methodLink RL 43 yX7_price) := ⟨List.mem_of_getElem? (i := 641) (by decide +kernel), by decide +kernel⟩
theorem wi_X7_price : zW (.instanceMethod yX7_price) := ⟨List.mem_of_getElem? (i := 642) (by decide +kernel), by decide +kernel⟩
theorem ws_X7_price : zW (.selects RX7 yX7_price yX7_price) := ⟨List.mem_of_getElem? (i := 643) (by decide +kernel), by decide +kernel⟩
theorem wc_X7_price : zW (.code yX7_price cX7_price 4 (some Jvm.ClassFile.FieldType.int)) := ⟨List.mem_of_getElem? (i := 644) (by decide +kernel), by decide +kernel⟩
theorem wm_X7_111 : zW (.methodLink RX7 111 yX7_isMotion) := ⟨List.mem_of_getElem? (i := 645) (by decide +kernel), by decide +kernel⟩
theorem wt_X7_isMotion : zW (.static yX7_isMotion) := ⟨List.mem_of_getElem? (i := 646) (by decide +kernel), by decide +kernel⟩
theorem wc_X7_isMotion : zW (.code yX7_isMotion cX7_isMotion 1 (some Jvm.ClassFile.FieldType.boolean)) := ⟨List.mem_of_getElem? (i := 647) (by decide +kernel), by decide +kernel⟩
theorem wm_L_48 : zW (.methodLink RL 48 yX7_leads) := ⟨List.mem_of_getElem? (i := 648) (by decide +kernel), by decide +kernel⟩
theorem wi_X7_leads : zW (.instanceMethod yX7_leads) := ⟨List.mem_of_getElem? (i := 649) (by decide +kernel), by decide +kernel⟩
theorem ws_X7_leads : zW (.selects RX7 yX7_leads yX7_leads) := ⟨List.mem_of_getElem? (i := 650) (by decide +kernel), by decide +kernel⟩
theorem wc_X7_leads : zW (.code yX7_leads cX7_leads 3 (some Jvm.ClassFile.FieldType.int)) := ⟨List.mem_of_getElem? (i := 651) (by decide +kernel), by decide +kernel⟩
theorem wm_X7_117 : zW (.methodLinkNest RX7 117 yX5_lead "ModalKeys") := ⟨List.mem_of_getElem? (i := 652) (by decide +kernel), by decide +kernel⟩
theorem wm_L_52 : zW (.methodLink RL 52 yX7_steps) := ⟨List.mem_of_getElem? (i := 653) (by decide +kernel), by decide +kernel⟩
theorem wi_X7_steps : zW (.instanceMethod yX7_steps) := ⟨List.mem_of_getElem? (i := 654) (by decide +kernel), by decide +kernel⟩
theorem ws_X7_steps : zW (.selects RX7 yX7_steps yX7_steps) := ⟨List.mem_of_getElem? (i := 655) (by decide +kernel), by decide +kernel⟩
theorem wc_X7_steps : zW (.code yX7_steps cX7_steps 3 (some Jvm.ClassFile.FieldType.int)) := ⟨List.mem_of_getElem? (i := 656) (by decide +kernel), by decide +kernel⟩
theorem wm_X7_121 : zW (.methodLinkNest RX7 121 yX5_canStand "ModalKeys") := ⟨List.mem_of_getElem? (i := 657) (by decide +kernel), by decide +kernel⟩
theorem wi_X5_canStand : zW (.instanceMethod yX5_canStand) := ⟨List.mem_of_getElem? (i := 659) (by decide +kernel), by decide +kernel⟩
theorem wc_X5_canStand : zW (.code yX5_canStand cX5_canStand 2 (some Jvm.ClassFile.FieldType.boolean)) := ⟨List.mem_of_getElem? (i := 660) (by decide +kernel), by decide +kernel⟩
theorem wm_X7_124 : zW (.methodLinkNest RX7 124 yX6_survey "ModalKeys") := ⟨List.mem_of_getElem? (i := 661) (by decide +kernel), by decide +kernel⟩
theorem wi_X6_survey : zW (.instanceMethod yX6_survey) := ⟨List.mem_of_getElem? (i := 663) (by decide +kernel), by decide +kernel⟩
theorem wc_X6_survey : zW (.code yX6_survey cX6_survey 4 none) := ⟨List.mem_of_getElem? (i := 664) (by decide +kernel), by decide +kernel⟩
theorem wm_X6_26 : zW (.methodLinkNest RX6 26 yX5_last "ModalKeys") := ⟨List.mem_of_getElem? (i := 665) (by decide +kernel), by decide +kernel⟩
theorem wm_X6_36 : zW (.methodLinkNest RX6 36 yX5_deed "ModalKeys") := ⟨List.mem_of_getElem? (i := 666) (by decide +kernel), by decide +kernel⟩
theorem wi_X5_deed : zW (.instanceMethod yX5_deed) := ⟨List.mem_of_getElem? (i := 668) (by decide +kernel), by decide +kernel⟩
theorem wc_X5_deed : zW (.code yX5_deed cX5_deed 3 (some Jvm.ClassFile.FieldType.int)) := ⟨List.mem_of_getElem? (i := 669) (by decide +kernel), by decide +kernel⟩
theorem wm_X5_55 : zW (.methodLink RX5 55 yX5_lead) := ⟨List.mem_of_getElem? (i := 670) (by decide +kernel), by decide +kernel⟩
theorem wm_X7_128 : zW (.methodLinkNest RX7 128 yX6_reckon "ModalKeys") := ⟨List.mem_of_getElem? (i := 671) (by decide +kernel), by decide +kernel⟩
theorem wi_X6_reckon : zW (.instanceMethod yX6_reckon) := ⟨List.mem_of_getElem? (i := 673) (by decide +kernel), by decide +kernel⟩
theorem wc_X6_reckon : zW (.code yX6_reckon cX6_reckon 11 none) := ⟨List.mem_of_getElem? (i := 674) (by decide +kernel), by decide +kernel⟩
theorem wk_X6_40 : zW (.constant RX6 40 (iI 1000000)) := ⟨List.mem_of_getElem? (i := 675) (by decide +kernel), by decide +kernel⟩
theorem wm_X6_41 : zW (.methodLink RX6 41 yJ7_fill_53178) := ⟨List.mem_of_getElem? (i := 676) (by decide +kernel), by decide +kernel⟩
theorem wm_X7_135 : zW (.methodLinkNest RX7 135 yX5_standing "ModalKeys") := ⟨List.mem_of_getElem? (i := 677) (by decide +kernel), by decide +kernel⟩
theorem wm_X7_138 : zW (.methodLinkNest RX7 138 yX6_stepOf "ModalKeys") := ⟨List.mem_of_getElem? (i := 678) (by decide +kernel), by decide +kernel⟩
theorem wi_X6_stepOf : zW (.instanceMethod yX6_stepOf) := ⟨List.mem_of_getElem? (i := 680) (by decide +kernel), by decide +kernel⟩
theorem wc_X6_stepOf : zW (.code yX6_stepOf cX6_stepOf 8 (some Jvm.ClassFile.FieldType.int)) := ⟨List.mem_of_getElem? (i := 681) (by decide +kernel), by decide +kernel⟩
theorem wm_X6_47 : zW (.methodLink RX6 47 yX6_firstOnWay) := ⟨List.mem_of_getElem? (i := 682) (by decide +kernel), by decide +kernel⟩
theorem wi_X6_firstOnWay : zW (.instanceMethod yX6_firstOnWay) := ⟨List.mem_of_getElem? (i := 684) (by decide +kernel), by decide +kernel⟩
theorem wc_X6_firstOnWay : zW (.code yX6_firstOnWay cX6_firstOnWay 4 (some Jvm.ClassFile.FieldType.int)) := ⟨List.mem_of_getElem? (i := 685) (by decide +kernel), by decide +kernel⟩
theorem wm_L_56 : zW (.methodLink RL 56 yX7_farthest) := ⟨List.mem_of_getElem? (i := 686) (by decide +kernel), by decide +kernel⟩
theorem wi_X7_farthest : zW (.instanceMethod yX7_farthest) := ⟨List.mem_of_getElem? (i := 687) (by decide +kernel), by decide +kernel⟩
theorem ws_X7_farthest : zW (.selects RX7 yX7_farthest yX7_farthest) := ⟨List.mem_of_getElem? (i := 688) (by decide +kernel), by decide +kernel⟩
theorem wc_X7_farthest : zW (.code yX7_farthest cX7_farthest 3 (some Jvm.ClassFile.FieldType.int)) := ⟨List.mem_of_getElem? (i := 689) (by decide +kernel), by decide +kernel⟩
theorem wm_X7_142 : zW (.methodLinkNest RX7 142 yX6_dearest "ModalKeys") := ⟨List.mem_of_getElem? (i := 690) (by decide +kernel), by decide +kernel⟩
theorem wi_X6_dearest : zW (.instanceMethod yX6_dearest) := ⟨List.mem_of_getElem? (i := 692) (by decide +kernel), by decide +kernel⟩
theorem wc_X6_dearest : zW (.code yX6_dearest cX6_dearest 3 (some Jvm.ClassFile.FieldType.int)) := ⟨List.mem_of_getElem? (i := 693) (by decide +kernel), by decide +kernel⟩
theorem wm_L_60 : zW (.methodLink RL 60 yX7_once) := ⟨List.mem_of_getElem? (i := 694) (by decide +kernel), by decide +kernel⟩
theorem wi_X7_once : zW (.instanceMethod yX7_once) := ⟨List.mem_of_getElem? (i := 695) (by decide +kernel), by decide +kernel⟩
theorem ws_X7_once : zW (.selects RX7 yX7_once yX7_once) := ⟨List.mem_of_getElem? (i := 696) (by decide +kernel), by decide +kernel⟩
theorem wc_X7_once : zW (.code yX7_once cX7_once 4 (some Jvm.ClassFile.FieldType.int)) := ⟨List.mem_of_getElem? (i := 697) (by decide +kernel), by decide +kernel⟩
theorem wm_X7_145 : zW (.methodLinkNest RX7 145 yX5_deed "ModalKeys") := ⟨List.mem_of_getElem? (i := 698) (by decide +kernel), by decide +kernel⟩
theorem wm_L_64 : zW (.methodLink RL 64 yX7_goes) := ⟨List.mem_of_getElem? (i := 699) (by decide +kernel), by decide +kernel⟩
theorem wi_X7_goes : zW (.instanceMethod yX7_goes) := ⟨List.mem_of_getElem? (i := 700) (by decide +kernel), by decide +kernel⟩
theorem ws_X7_goes : zW (.selects RX7 yX7_goes yX7_goes) := ⟨List.mem_of_getElem? (i := 701) (by decide +kernel), by decide +kernel⟩
theorem wc_X7_goes : zW (.code yX7_goes cX7_goes 3 (some Jvm.ClassFile.FieldType.int)) := ⟨List.mem_of_getElem? (i := 702) (by decide +kernel), by decide +kernel⟩
theorem wm_X7_148 : zW (.methodLinkNest RX7 148 yX1_aimByMotion "ModalKeys") := ⟨List.mem_of_getElem? (i := 703) (by decide +kernel), by decide +kernel⟩
theorem wm_L_68 : zW (.methodLink RL 68 yX7_struck) := ⟨List.mem_of_getElem? (i := 704) (by decide +kernel), by decide +kernel⟩
theorem wi_X7_struck : zW (.instanceMethod yX7_struck) := ⟨List.mem_of_getElem? (i := 705) (by decide +kernel), by decide +kernel⟩
theorem ws_X7_struck : zW (.selects RX7 yX7_struck yX7_struck) := ⟨List.mem_of_getElem? (i := 706) (by decide +kernel), by decide +kernel⟩
theorem wc_X7_struck : zW (.code yX7_struck cX7_struck 8 (some Jvm.ClassFile.FieldType.int)) := ⟨List.mem_of_getElem? (i := 707) (by decide +kernel), by decide +kernel⟩
theorem wm_X7_158 : zW (.methodLinkNest RX7 158 yX6_rowsTo "ModalKeys") := ⟨List.mem_of_getElem? (i := 708) (by decide +kernel), by decide +kernel⟩
theorem wi_X6_rowsTo : zW (.instanceMethod yX6_rowsTo) := ⟨List.mem_of_getElem? (i := 710) (by decide +kernel), by decide +kernel⟩
theorem wc_X6_rowsTo : zW (.code yX6_rowsTo cX6_rowsTo 7 (some Jvm.ClassFile.FieldType.int)) := ⟨List.mem_of_getElem? (i := 711) (by decide +kernel), by decide +kernel⟩
theorem wm_X6_51 : zW (.methodLink RX6 51 arraycopyName) := ⟨List.mem_of_getElem? (i := 712) (by decide +kernel), by decide +kernel⟩
theorem wm_L_73 : zW (.methodLink RL 73 yX7_image) := ⟨List.mem_of_getElem? (i := 713) (by decide +kernel), by decide +kernel⟩
theorem wi_X7_image : zW (.instanceMethod yX7_image) := ⟨List.mem_of_getElem? (i := 714) (by decide +kernel), by decide +kernel⟩
theorem ws_X7_image : zW (.selects RX7 yX7_image yX7_image) := ⟨List.mem_of_getElem? (i := 715) (by decide +kernel), by decide +kernel⟩
theorem wc_X7_image : zW (.code yX7_image cX7_image 1 (some Jvm.ClassFile.FieldType.int)) := ⟨List.mem_of_getElem? (i := 716) (by decide +kernel), by decide +kernel⟩
theorem wm_X7_162 : zW (.methodLinkNest RX7 162 yX1_become "ModalKeys") := ⟨List.mem_of_getElem? (i := 717) (by decide +kernel), by decide +kernel⟩
theorem wi_X1_become : zW (.instanceMethod yX1_become) := ⟨List.mem_of_getElem? (i := 719) (by decide +kernel), by decide +kernel⟩
theorem wc_X1_become : zW (.code yX1_become cX1_become 2 none) := ⟨List.mem_of_getElem? (i := 720) (by decide +kernel), by decide +kernel⟩
theorem wm_X1_56 : zW (.methodLinkNest RX1 56 yX3_become "ModalKeys") := ⟨List.mem_of_getElem? (i := 721) (by decide +kernel), by decide +kernel⟩
theorem wi_X3_become : zW (.instanceMethod yX3_become) := ⟨List.mem_of_getElem? (i := 723) (by decide +kernel), by decide +kernel⟩
theorem wc_X3_become : zW (.code yX3_become cX3_become 2 none) := ⟨List.mem_of_getElem? (i := 724) (by decide +kernel), by decide +kernel⟩
theorem wm_X1_59 : zW (.methodLinkNest RX1 59 yX0_become "ModalKeys") := ⟨List.mem_of_getElem? (i := 725) (by decide +kernel), by decide +kernel⟩
theorem wi_X0_become : zW (.instanceMethod yX0_become) := ⟨List.mem_of_getElem? (i := 727) (by decide +kernel), by decide +kernel⟩
theorem wc_X0_become : zW (.code yX0_become cX0_become 2 none) := ⟨List.mem_of_getElem? (i := 728) (by decide +kernel), by decide +kernel⟩
theorem wm_X0_47 : zW (.methodLinkNest RX0 47 yX2_become "ModalKeys") := ⟨List.mem_of_getElem? (i := 729) (by decide +kernel), by decide +kernel⟩
theorem wm_L_77 : zW (.methodLink RL 77 yX7_restore) := ⟨List.mem_of_getElem? (i := 730) (by decide +kernel), by decide +kernel⟩
theorem wi_X7_restore : zW (.instanceMethod yX7_restore) := ⟨List.mem_of_getElem? (i := 731) (by decide +kernel), by decide +kernel⟩
theorem ws_X7_restore : zW (.selects RX7 yX7_restore yX7_restore) := ⟨List.mem_of_getElem? (i := 732) (by decide +kernel), by decide +kernel⟩
theorem wc_X7_restore : zW (.code yX7_restore cX7_restore 1 (some Jvm.ClassFile.FieldType.int)) := ⟨List.mem_of_getElem? (i := 733) (by decide +kernel), by decide +kernel⟩
theorem wm_L_81 : zW (.methodLink RL 81 yX7_play) := ⟨List.mem_of_getElem? (i := 734) (by decide +kernel), by decide +kernel⟩
theorem wi_X7_play : zW (.instanceMethod yX7_play) := ⟨List.mem_of_getElem? (i := 735) (by decide +kernel), by decide +kernel⟩
theorem ws_X7_play : zW (.selects RX7 yX7_play yX7_play) := ⟨List.mem_of_getElem? (i := 736) (by decide +kernel), by decide +kernel⟩
theorem wc_X7_play : zW (.code yX7_play cX7_play 9 (some Jvm.ClassFile.FieldType.int)) := ⟨List.mem_of_getElem? (i := 737) (by decide +kernel), by decide +kernel⟩
theorem wm_X7_169 : zW (.methodLink RX7 169 yX7_sheetAt) := ⟨List.mem_of_getElem? (i := 738) (by decide +kernel), by decide +kernel⟩
theorem wi_X7_sheetAt : zW (.instanceMethod yX7_sheetAt) := ⟨List.mem_of_getElem? (i := 740) (by decide +kernel), by decide +kernel⟩
theorem wc_X7_sheetAt : zW (.code yX7_sheetAt cX7_sheetAt 2 (some (Jvm.ClassFile.FieldType.object "ModalKeys$Sheet"))) := ⟨List.mem_of_getElem? (i := 741) (by decide +kernel), by decide +kernel⟩
theorem wm_X7_173 : zW (.methodLink RX7 173 yX7_isLane) := ⟨List.mem_of_getElem? (i := 742) (by decide +kernel), by decide +kernel⟩
theorem wt_X7_isLane : zW (.static yX7_isLane) := ⟨List.mem_of_getElem? (i := 743) (by decide +kernel), by decide +kernel⟩
theorem wc_X7_isLane : zW (.code yX7_isLane cX7_isLane 1 (some Jvm.ClassFile.FieldType.boolean)) := ⟨List.mem_of_getElem? (i := 744) (by decide +kernel), by decide +kernel⟩
theorem wm_X7_176 : zW (.methodLink RX7 176 yX7_isPortion) := ⟨List.mem_of_getElem? (i := 745) (by decide +kernel), by decide +kernel⟩
theorem wt_X7_isPortion : zW (.static yX7_isPortion) := ⟨List.mem_of_getElem? (i := 746) (by decide +kernel), by decide +kernel⟩
theorem wc_X7_isPortion : zW (.code yX7_isPortion cX7_isPortion 1 (some Jvm.ClassFile.FieldType.boolean)) := ⟨List.mem_of_getElem? (i := 747) (by decide +kernel), by decide +kernel⟩
theorem wm_X7_179 : zW (.methodLinkNest RX7 179 yX4_faultAs "ModalKeys") := ⟨List.mem_of_getElem? (i := 748) (by decide +kernel), by decide +kernel⟩
theorem wi_X4_faultAs : zW (.instanceMethod yX4_faultAs) := ⟨List.mem_of_getElem? (i := 750) (by decide +kernel), by decide +kernel⟩
theorem wc_X4_faultAs : zW (.code yX4_faultAs cX4_faultAs 4 (some Jvm.ClassFile.FieldType.int)) := ⟨List.mem_of_getElem? (i := 751) (by decide +kernel), by decide +kernel⟩
theorem wm_X4_28 : zW (.methodLink RX4 28 yX4_isNothing) := ⟨List.mem_of_getElem? (i := 752) (by decide +kernel), by decide +kernel⟩
theorem wi_X4_isNothing : zW (.instanceMethod yX4_isNothing) := ⟨List.mem_of_getElem? (i := 754) (by decide +kernel), by decide +kernel⟩
theorem wc_X4_isNothing : zW (.code yX4_isNothing cX4_isNothing 1 (some Jvm.ClassFile.FieldType.boolean)) := ⟨List.mem_of_getElem? (i := 755) (by decide +kernel), by decide +kernel⟩
theorem wm_X4_32 : zW (.methodLink RX4 32 yX4_reaches) := ⟨List.mem_of_getElem? (i := 756) (by decide +kernel), by decide +kernel⟩
theorem wi_X4_reaches : zW (.instanceMethod yX4_reaches) := ⟨List.mem_of_getElem? (i := 758) (by decide +kernel), by decide +kernel⟩
theorem wc_X4_reaches : zW (.code yX4_reaches cX4_reaches 3 (some Jvm.ClassFile.FieldType.boolean)) := ⟨List.mem_of_getElem? (i := 759) (by decide +kernel), by decide +kernel⟩
theorem wk_X7_186 : zW (.constantLong RX7 186 (32)) := ⟨List.mem_of_getElem? (i := 760) (by decide +kernel), by decide +kernel⟩
theorem wk_X7_188 : zW (.constantLong RX7 188 (126)) := ⟨List.mem_of_getElem? (i := 761) (by decide +kernel), by decide +kernel⟩
theorem wm_L_86 : zW (.methodLink RL 86 yX7_film) := ⟨List.mem_of_getElem? (i := 762) (by decide +kernel), by decide +kernel⟩
theorem wi_X7_film : zW (.instanceMethod yX7_film) := ⟨List.mem_of_getElem? (i := 763) (by decide +kernel), by decide +kernel⟩
theorem ws_X7_film : zW (.selects RX7 yX7_film yX7_film) := ⟨List.mem_of_getElem? (i := 764) (by decide +kernel), by decide +kernel⟩
theorem wc_X7_film : zW (.code yX7_film cX7_film 9 (some Jvm.ClassFile.FieldType.int)) := ⟨List.mem_of_getElem? (i := 765) (by decide +kernel), by decide +kernel⟩
theorem wm_X7_190 : zW (.methodLinkNest RX7 190 yX4_put "ModalKeys") := ⟨List.mem_of_getElem? (i := 766) (by decide +kernel), by decide +kernel⟩
theorem wi_X4_put : zW (.instanceMethod yX4_put) := ⟨List.mem_of_getElem? (i := 768) (by decide +kernel), by decide +kernel⟩
theorem wc_X4_put : zW (.code yX4_put cX4_put 4 none) := ⟨List.mem_of_getElem? (i := 769) (by decide +kernel), by decide +kernel⟩
theorem wm_L_91 : zW (.methodLink RL 91 yX7_sheet) := ⟨List.mem_of_getElem? (i := 770) (by decide +kernel), by decide +kernel⟩
theorem wi_X7_sheet : zW (.instanceMethod yX7_sheet) := ⟨List.mem_of_getElem? (i := 771) (by decide +kernel), by decide +kernel⟩
theorem ws_X7_sheet : zW (.selects RX7 yX7_sheet yX7_sheet) := ⟨List.mem_of_getElem? (i := 772) (by decide +kernel), by decide +kernel⟩
theorem wc_X7_sheet : zW (.code yX7_sheet cX7_sheet 5 (some Jvm.ClassFile.FieldType.int)) := ⟨List.mem_of_getElem? (i := 773) (by decide +kernel), by decide +kernel⟩
theorem wm_X7_194 : zW (.methodLinkNest RX7 194 yX4_hold "ModalKeys") := ⟨List.mem_of_getElem? (i := 774) (by decide +kernel), by decide +kernel⟩
theorem wi_X4_hold : zW (.instanceMethod yX4_hold) := ⟨List.mem_of_getElem? (i := 776) (by decide +kernel), by decide +kernel⟩
theorem wc_X4_hold : zW (.code yX4_hold cX4_hold 3 none) := ⟨List.mem_of_getElem? (i := 777) (by decide +kernel), by decide +kernel⟩
theorem wm_X4_22 : zW (.methodLink RX4 22 yJ7_fill_d0a16) := ⟨List.mem_of_getElem? (i := 778) (by decide +kernel), by decide +kernel⟩
theorem wt_J7_fill_d0a16 : zW (.static yJ7_fill_d0a16) := ⟨List.mem_of_getElem? (i := 779) (by decide +kernel), by decide +kernel⟩
theorem wc_J7_fill_d0a16 : zW (.code yJ7_fill_d0a16 cJ7_fill_d0a16 5 none) := ⟨List.mem_of_getElem? (i := 780) (by decide +kernel), by decide +kernel⟩
theorem wm_L_95 : zW (.methodLink RL 95 yX7_drop) := ⟨List.mem_of_getElem? (i := 781) (by decide +kernel), by decide +kernel⟩
theorem wi_X7_drop : zW (.instanceMethod yX7_drop) := ⟨List.mem_of_getElem? (i := 782) (by decide +kernel), by decide +kernel⟩
theorem ws_X7_drop : zW (.selects RX7 yX7_drop yX7_drop) := ⟨List.mem_of_getElem? (i := 783) (by decide +kernel), by decide +kernel⟩
theorem wc_X7_drop : zW (.code yX7_drop cX7_drop 4 (some Jvm.ClassFile.FieldType.int)) := ⟨List.mem_of_getElem? (i := 784) (by decide +kernel), by decide +kernel⟩
theorem wm_X7_198 : zW (.methodLinkNest RX7 198 yX4_isNothing "ModalKeys") := ⟨List.mem_of_getElem? (i := 785) (by decide +kernel), by decide +kernel⟩
theorem wm_L_101 : zW (.methodLink RL 101 yX7_item) := ⟨List.mem_of_getElem? (i := 786) (by decide +kernel), by decide +kernel⟩
theorem wi_X7_item : zW (.instanceMethod yX7_item) := ⟨List.mem_of_getElem? (i := 787) (by decide +kernel), by decide +kernel⟩
theorem ws_X7_item : zW (.selects RX7 yX7_item yX7_item) := ⟨List.mem_of_getElem? (i := 788) (by decide +kernel), by decide +kernel⟩
theorem wc_X7_item : zW (.code yX7_item cX7_item 8 (some Jvm.ClassFile.FieldType.int)) := ⟨List.mem_of_getElem? (i := 789) (by decide +kernel), by decide +kernel⟩
theorem wm_L_106 : zW (.methodLink RL 106 yX7_copy) := ⟨List.mem_of_getElem? (i := 790) (by decide +kernel), by decide +kernel⟩
theorem wi_X7_copy : zW (.instanceMethod yX7_copy) := ⟨List.mem_of_getElem? (i := 791) (by decide +kernel), by decide +kernel⟩
theorem ws_X7_copy : zW (.selects RX7 yX7_copy yX7_copy) := ⟨List.mem_of_getElem? (i := 792) (by decide +kernel), by decide +kernel⟩
theorem wc_X7_copy : zW (.code yX7_copy cX7_copy 8 (some Jvm.ClassFile.FieldType.int)) := ⟨List.mem_of_getElem? (i := 793) (by decide +kernel), by decide +kernel⟩
theorem wm_X7_205 : zW (.methodLinkNest RX7 205 yX4_reaches "ModalKeys") := ⟨List.mem_of_getElem? (i := 794) (by decide +kernel), by decide +kernel⟩
theorem wm_X7_209 : zW (.methodLink RX7 209 arraycopyName) := ⟨List.mem_of_getElem? (i := 795) (by decide +kernel), by decide +kernel⟩
theorem wl_L_10 : zW (.classLink RL 10 RX8) := ⟨List.mem_of_getElem? (i := 796) (by decide +kernel), by decide +kernel⟩
theorem wx_X8 : zW (.instantiable RX8 16) := ⟨List.mem_of_getElem? (i := 797) (by decide +kernel), by decide +kernel⟩
theorem wm_L_12 : zW (.methodLink RL 12 yX8_init) := ⟨List.mem_of_getElem? (i := 798) (by decide +kernel), by decide +kernel⟩
theorem wi_X8_init : zW (.instanceMethod yX8_init) := ⟨List.mem_of_getElem? (i := 799) (by decide +kernel), by decide +kernel⟩
theorem wc_X8_init : zW (.code yX8_init cX8_init 2 none) := ⟨List.mem_of_getElem? (i := 800) (by decide +kernel), by decide +kernel⟩
theorem wf_X8_7 : zW (.fieldLink RX8 7 (TX8 0).1 (TX8 0).2.1 (TX8 0).2.2.1) := ⟨List.mem_of_getElem? (i := 802) (by decide +kernel), by decide +kernel⟩
theorem wf_X8_13 : zW (.fieldLink RX8 13 (TX8 1).1 (TX8 1).2.1 (TX8 1).2.2.1) := ⟨List.mem_of_getElem? (i := 803) (by decide +kernel), by decide +kernel⟩
theorem wf_X8_97 : zW (.fieldLink RX8 97 (TX8 2).1 (TX8 2).2.1 (TX8 2).2.2.1) := ⟨List.mem_of_getElem? (i := 804) (by decide +kernel), by decide +kernel⟩
theorem wf_X8_16 : zW (.fieldLink RX8 16 (TX8 3).1 (TX8 3).2.1 (TX8 3).2.2.1) := ⟨List.mem_of_getElem? (i := 805) (by decide +kernel), by decide +kernel⟩
theorem wf_X8_19 : zW (.fieldLink RX8 19 (TX8 4).1 (TX8 4).2.1 (TX8 4).2.2.1) := ⟨List.mem_of_getElem? (i := 806) (by decide +kernel), by decide +kernel⟩
theorem wf_X8_203 : zW (.fieldLink RX8 203 (TX8 5).1 (TX8 5).2.1 (TX8 5).2.2.1) := ⟨List.mem_of_getElem? (i := 807) (by decide +kernel), by decide +kernel⟩
theorem wf_X8_22 : zW (.fieldLink RX8 22 (TX8 6).1 (TX8 6).2.1 (TX8 6).2.2.1) := ⟨List.mem_of_getElem? (i := 808) (by decide +kernel), by decide +kernel⟩
theorem wf_X8_25 : zW (.fieldLink RX8 25 (TX8 7).1 (TX8 7).2.1 (TX8 7).2.2.1) := ⟨List.mem_of_getElem? (i := 809) (by decide +kernel), by decide +kernel⟩
theorem wf_X8_28 : zW (.fieldLink RX8 28 (TX8 8).1 (TX8 8).2.1 (TX8 8).2.2.1) := ⟨List.mem_of_getElem? (i := 810) (by decide +kernel), by decide +kernel⟩
theorem wf_X8_31 : zW (.fieldLink RX8 31 (TX8 9).1 (TX8 9).2.1 (TX8 9).2.2.1) := ⟨List.mem_of_getElem? (i := 811) (by decide +kernel), by decide +kernel⟩
theorem wf_X8_34 : zW (.fieldLink RX8 34 (TX8 10).1 (TX8 10).2.1 (TX8 10).2.2.1) := ⟨List.mem_of_getElem? (i := 812) (by decide +kernel), by decide +kernel⟩
theorem wf_X8_37 : zW (.fieldLink RX8 37 (TX8 11).1 (TX8 11).2.1 (TX8 11).2.2.1) := ⟨List.mem_of_getElem? (i := 813) (by decide +kernel), by decide +kernel⟩
theorem wf_X8_41 : zW (.fieldLink RX8 41 (TX8 12).1 (TX8 12).2.1 (TX8 12).2.2.1) := ⟨List.mem_of_getElem? (i := 814) (by decide +kernel), by decide +kernel⟩
theorem wf_X8_44 : zW (.fieldLink RX8 44 (TX8 13).1 (TX8 13).2.1 (TX8 13).2.2.1) := ⟨List.mem_of_getElem? (i := 815) (by decide +kernel), by decide +kernel⟩
theorem wf_X8_47 : zW (.fieldLink RX8 47 (TX8 14).1 (TX8 14).2.1 (TX8 14).2.2.1) := ⟨List.mem_of_getElem? (i := 816) (by decide +kernel), by decide +kernel⟩
theorem wf_X8_51 : zW (.fieldLink RX8 51 (TX8 15).1 (TX8 15).2.1 (TX8 15).2.2.1) := ⟨List.mem_of_getElem? (i := 817) (by decide +kernel), by decide +kernel⟩
theorem wm_L_42 : zW (.methodLink RL 42 yX8_key) := ⟨List.mem_of_getElem? (i := 851) (by decide +kernel), by decide +kernel⟩
theorem wi_X8_key : zW (.instanceMethod yX8_key) := ⟨List.mem_of_getElem? (i := 852) (by decide +kernel), by decide +kernel⟩
theorem ws_X8_key : zW (.selects RX8 yX8_key yX8_key) := ⟨List.mem_of_getElem? (i := 853) (by decide +kernel), by decide +kernel⟩
theorem wc_X8_key : zW (.code yX8_key cX8_key 2 (some Jvm.ClassFile.FieldType.int)) := ⟨List.mem_of_getElem? (i := 854) (by decide +kernel), by decide +kernel⟩
theorem wk_X8_196 : zW (.constantLong RX8 196 (32)) := ⟨List.mem_of_getElem? (i := 855) (by decide +kernel), by decide +kernel⟩
theorem wk_X8_198 : zW (.constantLong RX8 198 (126)) := ⟨List.mem_of_getElem? (i := 856) (by decide +kernel), by decide +kernel⟩
theorem wm_X8_58 : zW (.methodLink RX8 58 yX8_in) := ⟨List.mem_of_getElem? (i := 857) (by decide +kernel), by decide +kernel⟩
theorem wt_X8_in : zW (.static yX8_in) := ⟨List.mem_of_getElem? (i := 858) (by decide +kernel), by decide +kernel⟩
theorem wc_X8_in : zW (.code yX8_in cX8_in 6 (some Jvm.ClassFile.FieldType.boolean)) := ⟨List.mem_of_getElem? (i := 859) (by decide +kernel), by decide +kernel⟩
theorem wm_X8_200 : zW (.methodLink RX8 200 yX8_keyed) := ⟨List.mem_of_getElem? (i := 860) (by decide +kernel), by decide +kernel⟩
theorem wi_X8_keyed : zW (.instanceMethod yX8_keyed) := ⟨List.mem_of_getElem? (i := 862) (by decide +kernel), by decide +kernel⟩
theorem wc_X8_keyed : zW (.code yX8_keyed cX8_keyed 5 (some Jvm.ClassFile.FieldType.int)) := ⟨List.mem_of_getElem? (i := 863) (by decide +kernel), by decide +kernel⟩
theorem wm_X8_193 : zW (.methodLink RX8 193 yX8_strikes) := ⟨List.mem_of_getElem? (i := 864) (by decide +kernel), by decide +kernel⟩
theorem wi_X8_strikes : zW (.instanceMethod yX8_strikes) := ⟨List.mem_of_getElem? (i := 866) (by decide +kernel), by decide +kernel⟩
theorem wc_X8_strikes : zW (.code yX8_strikes cX8_strikes 3 (some Jvm.ClassFile.FieldType.int)) := ⟨List.mem_of_getElem? (i := 867) (by decide +kernel), by decide +kernel⟩
theorem wm_X8_187 : zW (.methodLink RX8 187 yX8_inserted) := ⟨List.mem_of_getElem? (i := 868) (by decide +kernel), by decide +kernel⟩
theorem wi_X8_inserted : zW (.instanceMethod yX8_inserted) := ⟨List.mem_of_getElem? (i := 870) (by decide +kernel), by decide +kernel⟩
theorem wc_X8_inserted : zW (.code yX8_inserted cX8_inserted 3 (some Jvm.ClassFile.FieldType.int)) := ⟨List.mem_of_getElem? (i := 871) (by decide +kernel), by decide +kernel⟩
theorem wm_X8_180 : zW (.methodLink RX8 180 yX8_records) := ⟨List.mem_of_getElem? (i := 872) (by decide +kernel), by decide +kernel⟩
theorem wi_X8_records : zW (.instanceMethod yX8_records) := ⟨List.mem_of_getElem? (i := 874) (by decide +kernel), by decide +kernel⟩
theorem wc_X8_records : zW (.code yX8_records cX8_records 2 none) := ⟨List.mem_of_getElem? (i := 875) (by decide +kernel), by decide +kernel⟩
theorem wm_X8_94 : zW (.methodLink RX8 94 yX8_lesser) := ⟨List.mem_of_getElem? (i := 876) (by decide +kernel), by decide +kernel⟩
theorem wt_X8_lesser : zW (.static yX8_lesser) := ⟨List.mem_of_getElem? (i := 877) (by decide +kernel), by decide +kernel⟩
theorem wc_X8_lesser : zW (.code yX8_lesser cX8_lesser 2 (some Jvm.ClassFile.FieldType.int)) := ⟨List.mem_of_getElem? (i := 878) (by decide +kernel), by decide +kernel⟩
theorem wm_X8_110 : zW (.methodLink RX8 110 yX8_changes) := ⟨List.mem_of_getElem? (i := 879) (by decide +kernel), by decide +kernel⟩
theorem wi_X8_changes : zW (.instanceMethod yX8_changes) := ⟨List.mem_of_getElem? (i := 881) (by decide +kernel), by decide +kernel⟩
theorem wc_X8_changes : zW (.code yX8_changes cX8_changes 2 none) := ⟨List.mem_of_getElem? (i := 882) (by decide +kernel), by decide +kernel⟩
theorem wm_X8_184 : zW (.methodLink RX8 184 yX8_ends) := ⟨List.mem_of_getElem? (i := 883) (by decide +kernel), by decide +kernel⟩
theorem wi_X8_ends : zW (.instanceMethod yX8_ends) := ⟨List.mem_of_getElem? (i := 885) (by decide +kernel), by decide +kernel⟩
theorem wc_X8_ends : zW (.code yX8_ends cX8_ends 1 none) := ⟨List.mem_of_getElem? (i := 886) (by decide +kernel), by decide +kernel⟩
theorem wm_X8_190 : zW (.methodLink RX8 190 yX8_commands) := ⟨List.mem_of_getElem? (i := 887) (by decide +kernel), by decide +kernel⟩
theorem wi_X8_commands : zW (.instanceMethod yX8_commands) := ⟨List.mem_of_getElem? (i := 889) (by decide +kernel), by decide +kernel⟩
theorem wc_X8_commands : zW (.code yX8_commands cX8_commands 4 (some Jvm.ClassFile.FieldType.int)) := ⟨List.mem_of_getElem? (i := 890) (by decide +kernel), by decide +kernel⟩
theorem wm_X8_166 : zW (.methodLink RX8 166 yX8_waited) := ⟨List.mem_of_getElem? (i := 891) (by decide +kernel), by decide +kernel⟩
theorem wi_X8_waited : zW (.instanceMethod yX8_waited) := ⟨List.mem_of_getElem? (i := 893) (by decide +kernel), by decide +kernel⟩
theorem wc_X8_waited : zW (.code yX8_waited cX8_waited 4 (some Jvm.ClassFile.FieldType.int)) := ⟨List.mem_of_getElem? (i := 894) (by decide +kernel), by decide +kernel⟩
theorem wm_X8_116 : zW (.methodLink RX8 116 yX8_often) := ⟨List.mem_of_getElem? (i := 895) (by decide +kernel), by decide +kernel⟩
theorem wi_X8_often : zW (.instanceMethod yX8_often) := ⟨List.mem_of_getElem? (i := 897) (by decide +kernel), by decide +kernel⟩
theorem wc_X8_often : zW (.code yX8_often cX8_often 3 (some Jvm.ClassFile.FieldType.int)) := ⟨List.mem_of_getElem? (i := 898) (by decide +kernel), by decide +kernel⟩
theorem wm_X8_137 : zW (.methodLink RX8 137 yX8_findsTo) := ⟨List.mem_of_getElem? (i := 899) (by decide +kernel), by decide +kernel⟩
theorem wi_X8_findsTo : zW (.instanceMethod yX8_findsTo) := ⟨List.mem_of_getElem? (i := 901) (by decide +kernel), by decide +kernel⟩
theorem wc_X8_findsTo : zW (.code yX8_findsTo cX8_findsTo 5 (some Jvm.ClassFile.FieldType.int)) := ⟨List.mem_of_getElem? (i := 902) (by decide +kernel), by decide +kernel⟩
theorem wm_X8_90 : zW (.methodLink RX8 90 yX8_nextOf) := ⟨List.mem_of_getElem? (i := 903) (by decide +kernel), by decide +kernel⟩
theorem wi_X8_nextOf : zW (.instanceMethod yX8_nextOf) := ⟨List.mem_of_getElem? (i := 905) (by decide +kernel), by decide +kernel⟩
theorem wc_X8_nextOf : zW (.code yX8_nextOf cX8_nextOf 5 (some Jvm.ClassFile.FieldType.int)) := ⟨List.mem_of_getElem? (i := 906) (by decide +kernel), by decide +kernel⟩
theorem wm_X8_122 : zW (.methodLink RX8 122 yX8_goesTo) := ⟨List.mem_of_getElem? (i := 907) (by decide +kernel), by decide +kernel⟩
theorem wi_X8_goesTo : zW (.instanceMethod yX8_goesTo) := ⟨List.mem_of_getElem? (i := 909) (by decide +kernel), by decide +kernel⟩
theorem wc_X8_goesTo : zW (.code yX8_goesTo cX8_goesTo 6 (some Jvm.ClassFile.FieldType.int)) := ⟨List.mem_of_getElem? (i := 910) (by decide +kernel), by decide +kernel⟩
theorem wm_X8_77 : zW (.methodLink RX8 77 yX8_last) := ⟨List.mem_of_getElem? (i := 911) (by decide +kernel), by decide +kernel⟩
theorem wi_X8_last : zW (.instanceMethod yX8_last) := ⟨List.mem_of_getElem? (i := 913) (by decide +kernel), by decide +kernel⟩
theorem wc_X8_last : zW (.code yX8_last cX8_last 1 (some Jvm.ClassFile.FieldType.int)) := ⟨List.mem_of_getElem? (i := 914) (by decide +kernel), by decide +kernel⟩
theorem wm_X8_113 : zW (.methodLink RX8 113 yX8_ranged) := ⟨List.mem_of_getElem? (i := 915) (by decide +kernel), by decide +kernel⟩
theorem wi_X8_ranged : zW (.instanceMethod yX8_ranged) := ⟨List.mem_of_getElem? (i := 917) (by decide +kernel), by decide +kernel⟩
theorem wc_X8_ranged : zW (.code yX8_ranged cX8_ranged 4 (some Jvm.ClassFile.FieldType.int)) := ⟨List.mem_of_getElem? (i := 918) (by decide +kernel), by decide +kernel⟩
theorem wm_X8_100 : zW (.methodLink RX8 100 yX8_keeps) := ⟨List.mem_of_getElem? (i := 919) (by decide +kernel), by decide +kernel⟩
theorem wi_X8_keeps : zW (.instanceMethod yX8_keeps) := ⟨List.mem_of_getElem? (i := 921) (by decide +kernel), by decide +kernel⟩
theorem wc_X8_keeps : zW (.code yX8_keeps cX8_keeps 4 none) := ⟨List.mem_of_getElem? (i := 922) (by decide +kernel), by decide +kernel⟩
theorem wm_X8_104 : zW (.methodLink RX8 104 yX8_cuts) := ⟨List.mem_of_getElem? (i := 923) (by decide +kernel), by decide +kernel⟩
theorem wi_X8_cuts : zW (.instanceMethod yX8_cuts) := ⟨List.mem_of_getElem? (i := 925) (by decide +kernel), by decide +kernel⟩
theorem wc_X8_cuts : zW (.code yX8_cuts cX8_cuts 4 none) := ⟨List.mem_of_getElem? (i := 926) (by decide +kernel), by decide +kernel⟩
theorem wm_X8_107 : zW (.methodLink RX8 107 yX8_inserts) := ⟨List.mem_of_getElem? (i := 927) (by decide +kernel), by decide +kernel⟩
theorem wi_X8_inserts : zW (.instanceMethod yX8_inserts) := ⟨List.mem_of_getElem? (i := 929) (by decide +kernel), by decide +kernel⟩
theorem wc_X8_inserts : zW (.code yX8_inserts cX8_inserts 2 (some Jvm.ClassFile.FieldType.int)) := ⟨List.mem_of_getElem? (i := 930) (by decide +kernel), by decide +kernel⟩
theorem wk_X8_54 : zW (.constantLong RX8 54 (97)) := ⟨List.mem_of_getElem? (i := 931) (by decide +kernel), by decide +kernel⟩
theorem wk_X8_140 : zW (.constantLong RX8 140 (100)) := ⟨List.mem_of_getElem? (i := 932) (by decide +kernel), by decide +kernel⟩
theorem wm_X8_142 : zW (.methodLink RX8 142 yX8_replaces) := ⟨List.mem_of_getElem? (i := 933) (by decide +kernel), by decide +kernel⟩
theorem wi_X8_replaces : zW (.instanceMethod yX8_replaces) := ⟨List.mem_of_getElem? (i := 935) (by decide +kernel), by decide +kernel⟩
theorem wc_X8_replaces : zW (.code yX8_replaces cX8_replaces 5 (some Jvm.ClassFile.FieldType.int)) := ⟨List.mem_of_getElem? (i := 936) (by decide +kernel), by decide +kernel⟩
theorem wm_X8_145 : zW (.methodLink RX8 145 yX8_objects) := ⟨List.mem_of_getElem? (i := 937) (by decide +kernel), by decide +kernel⟩
theorem wi_X8_objects : zW (.instanceMethod yX8_objects) := ⟨List.mem_of_getElem? (i := 939) (by decide +kernel), by decide +kernel⟩
theorem wc_X8_objects : zW (.code yX8_objects cX8_objects 3 (some Jvm.ClassFile.FieldType.int)) := ⟨List.mem_of_getElem? (i := 940) (by decide +kernel), by decide +kernel⟩
theorem wm_X8_126 : zW (.methodLink RX8 126 yX8_words) := ⟨List.mem_of_getElem? (i := 941) (by decide +kernel), by decide +kernel⟩
theorem wi_X8_words : zW (.instanceMethod yX8_words) := ⟨List.mem_of_getElem? (i := 943) (by decide +kernel), by decide +kernel⟩
theorem wc_X8_words : zW (.code yX8_words cX8_words 5 (some Jvm.ClassFile.FieldType.int)) := ⟨List.mem_of_getElem? (i := 944) (by decide +kernel), by decide +kernel⟩
theorem wm_X8_74 : zW (.methodLink RX8 74 yX8_classAt) := ⟨List.mem_of_getElem? (i := 945) (by decide +kernel), by decide +kernel⟩
theorem wi_X8_classAt : zW (.instanceMethod yX8_classAt) := ⟨List.mem_of_getElem? (i := 947) (by decide +kernel), by decide +kernel⟩
theorem wc_X8_classAt : zW (.code yX8_classAt cX8_classAt 2 (some Jvm.ClassFile.FieldType.int)) := ⟨List.mem_of_getElem? (i := 948) (by decide +kernel), by decide +kernel⟩
theorem wm_X8_70 : zW (.methodLink RX8 70 yX8_classOf) := ⟨List.mem_of_getElem? (i := 949) (by decide +kernel), by decide +kernel⟩
theorem wt_X8_classOf : zW (.static yX8_classOf) := ⟨List.mem_of_getElem? (i := 950) (by decide +kernel), by decide +kernel⟩
theorem wc_X8_classOf : zW (.code yX8_classOf cX8_classOf 2 (some Jvm.ClassFile.FieldType.int)) := ⟨List.mem_of_getElem? (i := 951) (by decide +kernel), by decide +kernel⟩
theorem wk_X8_56 : zW (.constantLong RX8 56 (122)) := ⟨List.mem_of_getElem? (i := 952) (by decide +kernel), by decide +kernel⟩
theorem wk_X8_62 : zW (.constantLong RX8 62 (65)) := ⟨List.mem_of_getElem? (i := 953) (by decide +kernel), by decide +kernel⟩
theorem wk_X8_64 : zW (.constantLong RX8 64 (90)) := ⟨List.mem_of_getElem? (i := 954) (by decide +kernel), by decide +kernel⟩
theorem wk_X8_66 : zW (.constantLong RX8 66 (48)) := ⟨List.mem_of_getElem? (i := 955) (by decide +kernel), by decide +kernel⟩
theorem wk_X8_68 : zW (.constantLong RX8 68 (57)) := ⟨List.mem_of_getElem? (i := 956) (by decide +kernel), by decide +kernel⟩
theorem wm_X8_130 : zW (.methodLink RX8 130 yX8_brackets) := ⟨List.mem_of_getElem? (i := 957) (by decide +kernel), by decide +kernel⟩
theorem wi_X8_brackets : zW (.instanceMethod yX8_brackets) := ⟨List.mem_of_getElem? (i := 959) (by decide +kernel), by decide +kernel⟩
theorem wc_X8_brackets : zW (.code yX8_brackets cX8_brackets 6 (some Jvm.ClassFile.FieldType.int)) := ⟨List.mem_of_getElem? (i := 960) (by decide +kernel), by decide +kernel⟩
theorem wm_X8_133 : zW (.methodLink RX8 133 yX8_bracket) := ⟨List.mem_of_getElem? (i := 961) (by decide +kernel), by decide +kernel⟩
theorem wi_X8_bracket : zW (.instanceMethod yX8_bracket) := ⟨List.mem_of_getElem? (i := 963) (by decide +kernel), by decide +kernel⟩
theorem wc_X8_bracket : zW (.code yX8_bracket cX8_bracket 8 (some Jvm.ClassFile.FieldType.int)) := ⟨List.mem_of_getElem? (i := 964) (by decide +kernel), by decide +kernel⟩
theorem wk_X8_169 : zW (.constantLong RX8 169 (49)) := ⟨List.mem_of_getElem? (i := 965) (by decide +kernel), by decide +kernel⟩
theorem wm_X8_171 : zW (.methodLink RX8 171 yX8_motionOf) := ⟨List.mem_of_getElem? (i := 966) (by decide +kernel), by decide +kernel⟩
theorem wi_X8_motionOf : zW (.instanceMethod yX8_motionOf) := ⟨List.mem_of_getElem? (i := 968) (by decide +kernel), by decide +kernel⟩
theorem wc_X8_motionOf : zW (.code yX8_motionOf cX8_motionOf 2 (some Jvm.ClassFile.FieldType.int)) := ⟨List.mem_of_getElem? (i := 969) (by decide +kernel), by decide +kernel⟩
theorem wm_X8_174 : zW (.methodLink RX8 174 yX8_moves) := ⟨List.mem_of_getElem? (i := 970) (by decide +kernel), by decide +kernel⟩
theorem wi_X8_moves : zW (.instanceMethod yX8_moves) := ⟨List.mem_of_getElem? (i := 972) (by decide +kernel), by decide +kernel⟩
theorem wc_X8_moves : zW (.code yX8_moves cX8_moves 5 (some Jvm.ClassFile.FieldType.int)) := ⟨List.mem_of_getElem? (i := 973) (by decide +kernel), by decide +kernel⟩
theorem wm_X8_119 : zW (.methodLink RX8 119 yX8_leadsTo) := ⟨List.mem_of_getElem? (i := 974) (by decide +kernel), by decide +kernel⟩
theorem wi_X8_leadsTo : zW (.instanceMethod yX8_leadsTo) := ⟨List.mem_of_getElem? (i := 976) (by decide +kernel), by decide +kernel⟩
theorem wc_X8_leadsTo : zW (.code yX8_leadsTo cX8_leadsTo 3 (some Jvm.ClassFile.FieldType.int)) := ⟨List.mem_of_getElem? (i := 977) (by decide +kernel), by decide +kernel⟩
theorem wm_X8_81 : zW (.methodLink RX8 81 yX8_wordOn) := ⟨List.mem_of_getElem? (i := 978) (by decide +kernel), by decide +kernel⟩
theorem wi_X8_wordOn : zW (.instanceMethod yX8_wordOn) := ⟨List.mem_of_getElem? (i := 980) (by decide +kernel), by decide +kernel⟩
theorem wc_X8_wordOn : zW (.code yX8_wordOn cX8_wordOn 4 (some Jvm.ClassFile.FieldType.int)) := ⟨List.mem_of_getElem? (i := 981) (by decide +kernel), by decide +kernel⟩
theorem wm_X8_84 : zW (.methodLink RX8 84 yX8_wordBack) := ⟨List.mem_of_getElem? (i := 982) (by decide +kernel), by decide +kernel⟩
theorem wi_X8_wordBack : zW (.instanceMethod yX8_wordBack) := ⟨List.mem_of_getElem? (i := 984) (by decide +kernel), by decide +kernel⟩
theorem wc_X8_wordBack : zW (.code yX8_wordBack cX8_wordBack 4 (some Jvm.ClassFile.FieldType.int)) := ⟨List.mem_of_getElem? (i := 985) (by decide +kernel), by decide +kernel⟩
theorem wm_X8_87 : zW (.methodLink RX8 87 yX8_wordEnd) := ⟨List.mem_of_getElem? (i := 986) (by decide +kernel), by decide +kernel⟩
theorem wi_X8_wordEnd : zW (.instanceMethod yX8_wordEnd) := ⟨List.mem_of_getElem? (i := 988) (by decide +kernel), by decide +kernel⟩
theorem wc_X8_wordEnd : zW (.code yX8_wordEnd cX8_wordEnd 4 (some Jvm.ClassFile.FieldType.int)) := ⟨List.mem_of_getElem? (i := 989) (by decide +kernel), by decide +kernel⟩
theorem wm_X8_163 : zW (.methodLink RX8 163 yX8_waits) := ⟨List.mem_of_getElem? (i := 990) (by decide +kernel), by decide +kernel⟩
theorem wi_X8_waits : zW (.instanceMethod yX8_waits) := ⟨List.mem_of_getElem? (i := 992) (by decide +kernel), by decide +kernel⟩
theorem wc_X8_waits : zW (.code yX8_waits cX8_waits 2 (some Jvm.ClassFile.FieldType.int)) := ⟨List.mem_of_getElem? (i := 993) (by decide +kernel), by decide +kernel⟩
theorem wm_X8_177 : zW (.methodLink RX8 177 yX8_deed) := ⟨List.mem_of_getElem? (i := 994) (by decide +kernel), by decide +kernel⟩
theorem wi_X8_deed : zW (.instanceMethod yX8_deed) := ⟨List.mem_of_getElem? (i := 996) (by decide +kernel), by decide +kernel⟩
theorem wc_X8_deed : zW (.code yX8_deed cX8_deed 3 (some Jvm.ClassFile.FieldType.int)) := ⟨List.mem_of_getElem? (i := 997) (by decide +kernel), by decide +kernel⟩
theorem wm_X8_149 : zW (.methodLink RX8 149 yX8_crosses) := ⟨List.mem_of_getElem? (i := 998) (by decide +kernel), by decide +kernel⟩
theorem wi_X8_crosses : zW (.instanceMethod yX8_crosses) := ⟨List.mem_of_getElem? (i := 1000) (by decide +kernel), by decide +kernel⟩
theorem wc_X8_crosses : zW (.code yX8_crosses cX8_crosses 4 (some Jvm.ClassFile.FieldType.int)) := ⟨List.mem_of_getElem? (i := 1001) (by decide +kernel), by decide +kernel⟩
theorem wm_X8_152 : zW (.methodLink RX8 152 yX8_turns) := ⟨List.mem_of_getElem? (i := 1002) (by decide +kernel), by decide +kernel⟩
theorem wi_X8_turns : zW (.instanceMethod yX8_turns) := ⟨List.mem_of_getElem? (i := 1004) (by decide +kernel), by decide +kernel⟩
theorem wc_X8_turns : zW (.code yX8_turns cX8_turns 6 (some Jvm.ClassFile.FieldType.int)) := ⟨List.mem_of_getElem? (i := 1005) (by decide +kernel), by decide +kernel⟩
theorem wm_X8_155 : zW (.methodLink RX8 155 yX8_puts) := ⟨List.mem_of_getElem? (i := 1006) (by decide +kernel), by decide +kernel⟩
theorem wi_X8_puts : zW (.instanceMethod yX8_puts) := ⟨List.mem_of_getElem? (i := 1008) (by decide +kernel), by decide +kernel⟩
theorem wc_X8_puts : zW (.code yX8_puts cX8_puts 6 (some Jvm.ClassFile.FieldType.int)) := ⟨List.mem_of_getElem? (i := 1009) (by decide +kernel), by decide +kernel⟩
theorem wm_X8_158 : zW (.methodLink RX8 158 yX8_undoes) := ⟨List.mem_of_getElem? (i := 1010) (by decide +kernel), by decide +kernel⟩
theorem wi_X8_undoes : zW (.instanceMethod yX8_undoes) := ⟨List.mem_of_getElem? (i := 1012) (by decide +kernel), by decide +kernel⟩
theorem wc_X8_undoes : zW (.code yX8_undoes cX8_undoes 4 (some Jvm.ClassFile.FieldType.int)) := ⟨List.mem_of_getElem? (i := 1013) (by decide +kernel), by decide +kernel⟩
theorem wk_X8_161 : zW (.constantLong RX8 161 (30)) := ⟨List.mem_of_getElem? (i := 1014) (by decide +kernel), by decide +kernel⟩
theorem wm_L_17 : zW (.methodLink RL 17 yX8_type) := ⟨List.mem_of_getElem? (i := 1015) (by decide +kernel), by decide +kernel⟩
theorem wi_X8_type : zW (.instanceMethod yX8_type) := ⟨List.mem_of_getElem? (i := 1016) (by decide +kernel), by decide +kernel⟩
theorem ws_X8_type : zW (.selects RX8 yX8_type yX8_type) := ⟨List.mem_of_getElem? (i := 1017) (by decide +kernel), by decide +kernel⟩
theorem wc_X8_type : zW (.code yX8_type cX8_type 2 (some Jvm.ClassFile.FieldType.int)) := ⟨List.mem_of_getElem? (i := 1018) (by decide +kernel), by decide +kernel⟩
theorem wm_L_22 : zW (.methodLink RL 22 yX8_line) := ⟨List.mem_of_getElem? (i := 1019) (by decide +kernel), by decide +kernel⟩
theorem wi_X8_line : zW (.instanceMethod yX8_line) := ⟨List.mem_of_getElem? (i := 1020) (by decide +kernel), by decide +kernel⟩
theorem ws_X8_line : zW (.selects RX8 yX8_line yX8_line) := ⟨List.mem_of_getElem? (i := 1021) (by decide +kernel), by decide +kernel⟩
theorem wc_X8_line : zW (.code yX8_line cX8_line 2 (some Jvm.ClassFile.FieldType.int)) := ⟨List.mem_of_getElem? (i := 1022) (by decide +kernel), by decide +kernel⟩
theorem wm_L_26 : zW (.methodLink RL 26 yX8_letter) := ⟨List.mem_of_getElem? (i := 1023) (by decide +kernel), by decide +kernel⟩
theorem wi_X8_letter : zW (.instanceMethod yX8_letter) := ⟨List.mem_of_getElem? (i := 1024) (by decide +kernel), by decide +kernel⟩
theorem ws_X8_letter : zW (.selects RX8 yX8_letter yX8_letter) := ⟨List.mem_of_getElem? (i := 1025) (by decide +kernel), by decide +kernel⟩
theorem wc_X8_letter : zW (.code yX8_letter cX8_letter 2 (some Jvm.ClassFile.FieldType.int)) := ⟨List.mem_of_getElem? (i := 1026) (by decide +kernel), by decide +kernel⟩
theorem wm_L_30 : zW (.methodLink RL 30 yX8_store) := ⟨List.mem_of_getElem? (i := 1027) (by decide +kernel), by decide +kernel⟩
theorem wi_X8_store : zW (.instanceMethod yX8_store) := ⟨List.mem_of_getElem? (i := 1028) (by decide +kernel), by decide +kernel⟩
theorem ws_X8_store : zW (.selects RX8 yX8_store yX8_store) := ⟨List.mem_of_getElem? (i := 1029) (by decide +kernel), by decide +kernel⟩
theorem wc_X8_store : zW (.code yX8_store cX8_store 2 (some Jvm.ClassFile.FieldType.int)) := ⟨List.mem_of_getElem? (i := 1030) (by decide +kernel), by decide +kernel⟩
theorem wm_L_34 : zW (.methodLink RL 34 yX8_mark) := ⟨List.mem_of_getElem? (i := 1031) (by decide +kernel), by decide +kernel⟩
theorem wi_X8_mark : zW (.instanceMethod yX8_mark) := ⟨List.mem_of_getElem? (i := 1032) (by decide +kernel), by decide +kernel⟩
theorem ws_X8_mark : zW (.selects RX8 yX8_mark yX8_mark) := ⟨List.mem_of_getElem? (i := 1033) (by decide +kernel), by decide +kernel⟩
theorem wc_X8_mark : zW (.code yX8_mark cX8_mark 2 (some Jvm.ClassFile.FieldType.int)) := ⟨List.mem_of_getElem? (i := 1034) (by decide +kernel), by decide +kernel⟩
theorem wk_X8_206 : zW (.constantLong RX8 206 (3)) := ⟨List.mem_of_getElem? (i := 1035) (by decide +kernel), by decide +kernel⟩
theorem wm_L_38 : zW (.methodLink RL 38 yX8_count) := ⟨List.mem_of_getElem? (i := 1036) (by decide +kernel), by decide +kernel⟩
theorem wi_X8_count : zW (.instanceMethod yX8_count) := ⟨List.mem_of_getElem? (i := 1037) (by decide +kernel), by decide +kernel⟩
theorem ws_X8_count : zW (.selects RX8 yX8_count yX8_count) := ⟨List.mem_of_getElem? (i := 1038) (by decide +kernel), by decide +kernel⟩
theorem wc_X8_count : zW (.code yX8_count cX8_count 2 (some Jvm.ClassFile.FieldType.int)) := ⟨List.mem_of_getElem? (i := 1039) (by decide +kernel), by decide +kernel⟩
theorem wm_X8_208 : zW (.methodLink RX8 208 yX8_marks) := ⟨List.mem_of_getElem? (i := 1040) (by decide +kernel), by decide +kernel⟩
theorem wi_X8_marks : zW (.instanceMethod yX8_marks) := ⟨List.mem_of_getElem? (i := 1042) (by decide +kernel), by decide +kernel⟩
theorem wc_X8_marks : zW (.code yX8_marks cX8_marks 3 (some Jvm.ClassFile.FieldType.int)) := ⟨List.mem_of_getElem? (i := 1043) (by decide +kernel), by decide +kernel⟩
theorem wm_X8_211 : zW (.methodLink RX8 211 yX8_wordsOf) := ⟨List.mem_of_getElem? (i := 1044) (by decide +kernel), by decide +kernel⟩
theorem wi_X8_wordsOf : zW (.instanceMethod yX8_wordsOf) := ⟨List.mem_of_getElem? (i := 1046) (by decide +kernel), by decide +kernel⟩
theorem wc_X8_wordsOf : zW (.code yX8_wordsOf cX8_wordsOf 3 (some Jvm.ClassFile.FieldType.int)) := ⟨List.mem_of_getElem? (i := 1047) (by decide +kernel), by decide +kernel⟩
theorem wm_L_47 : zW (.methodLink RL 47 yX8_price) := ⟨List.mem_of_getElem? (i := 1048) (by decide +kernel), by decide +kernel⟩
theorem wi_X8_price : zW (.instanceMethod yX8_price) := ⟨List.mem_of_getElem? (i := 1049) (by decide +kernel), by decide +kernel⟩
theorem ws_X8_price : zW (.selects RX8 yX8_price yX8_price) := ⟨List.mem_of_getElem? (i := 1050) (by decide +kernel), by decide +kernel⟩
theorem wc_X8_price : zW (.code yX8_price cX8_price 4 (some Jvm.ClassFile.FieldType.int)) := ⟨List.mem_of_getElem? (i := 1051) (by decide +kernel), by decide +kernel⟩
theorem wm_X8_216 : zW (.methodLink RX8 216 yX8_isMotion) := ⟨List.mem_of_getElem? (i := 1052) (by decide +kernel), by decide +kernel⟩
theorem wt_X8_isMotion : zW (.static yX8_isMotion) := ⟨List.mem_of_getElem? (i := 1053) (by decide +kernel), by decide +kernel⟩
theorem wc_X8_isMotion : zW (.code yX8_isMotion cX8_isMotion 1 (some Jvm.ClassFile.FieldType.boolean)) := ⟨List.mem_of_getElem? (i := 1054) (by decide +kernel), by decide +kernel⟩
theorem wk_X8_214 : zW (.constantLong RX8 214 (6)) := ⟨List.mem_of_getElem? (i := 1055) (by decide +kernel), by decide +kernel⟩
theorem wk_X8_220 : zW (.constantLong RX8 220 (9)) := ⟨List.mem_of_getElem? (i := 1056) (by decide +kernel), by decide +kernel⟩
theorem wm_L_51 : zW (.methodLink RL 51 yX8_leads) := ⟨List.mem_of_getElem? (i := 1057) (by decide +kernel), by decide +kernel⟩
theorem wi_X8_leads : zW (.instanceMethod yX8_leads) := ⟨List.mem_of_getElem? (i := 1058) (by decide +kernel), by decide +kernel⟩
theorem ws_X8_leads : zW (.selects RX8 yX8_leads yX8_leads) := ⟨List.mem_of_getElem? (i := 1059) (by decide +kernel), by decide +kernel⟩
theorem wc_X8_leads : zW (.code yX8_leads cX8_leads 3 (some Jvm.ClassFile.FieldType.int)) := ⟨List.mem_of_getElem? (i := 1060) (by decide +kernel), by decide +kernel⟩
theorem wm_L_55 : zW (.methodLink RL 55 yX8_steps) := ⟨List.mem_of_getElem? (i := 1061) (by decide +kernel), by decide +kernel⟩
theorem wi_X8_steps : zW (.instanceMethod yX8_steps) := ⟨List.mem_of_getElem? (i := 1062) (by decide +kernel), by decide +kernel⟩
theorem ws_X8_steps : zW (.selects RX8 yX8_steps yX8_steps) := ⟨List.mem_of_getElem? (i := 1063) (by decide +kernel), by decide +kernel⟩
theorem wc_X8_steps : zW (.code yX8_steps cX8_steps 6 (some Jvm.ClassFile.FieldType.int)) := ⟨List.mem_of_getElem? (i := 1064) (by decide +kernel), by decide +kernel⟩
theorem wm_X8_226 : zW (.methodLink RX8 226 yX8_isPlace) := ⟨List.mem_of_getElem? (i := 1065) (by decide +kernel), by decide +kernel⟩
theorem wi_X8_isPlace : zW (.instanceMethod yX8_isPlace) := ⟨List.mem_of_getElem? (i := 1067) (by decide +kernel), by decide +kernel⟩
theorem wc_X8_isPlace : zW (.code yX8_isPlace cX8_isPlace 2 (some Jvm.ClassFile.FieldType.boolean)) := ⟨List.mem_of_getElem? (i := 1068) (by decide +kernel), by decide +kernel⟩
theorem wm_X8_229 : zW (.methodLink RX8 229 yX8_costsTo) := ⟨List.mem_of_getElem? (i := 1069) (by decide +kernel), by decide +kernel⟩
theorem wi_X8_costsTo : zW (.instanceMethod yX8_costsTo) := ⟨List.mem_of_getElem? (i := 1071) (by decide +kernel), by decide +kernel⟩
theorem wc_X8_costsTo : zW (.code yX8_costsTo cX8_costsTo 6 none) := ⟨List.mem_of_getElem? (i := 1072) (by decide +kernel), by decide +kernel⟩
theorem wk_X8_222 : zW (.constant RX8 222 (iI 99999)) := ⟨List.mem_of_getElem? (i := 1073) (by decide +kernel), by decide +kernel⟩
theorem wm_X8_223 : zW (.methodLink RX8 223 yX8_lands) := ⟨List.mem_of_getElem? (i := 1074) (by decide +kernel), by decide +kernel⟩
theorem wi_X8_lands : zW (.instanceMethod yX8_lands) := ⟨List.mem_of_getElem? (i := 1076) (by decide +kernel), by decide +kernel⟩
theorem wc_X8_lands : zW (.code yX8_lands cX8_lands 3 (some Jvm.ClassFile.FieldType.int)) := ⟨List.mem_of_getElem? (i := 1077) (by decide +kernel), by decide +kernel⟩
theorem wm_X8_232 : zW (.methodLink RX8 232 yX8_start) := ⟨List.mem_of_getElem? (i := 1078) (by decide +kernel), by decide +kernel⟩
theorem wi_X8_start : zW (.instanceMethod yX8_start) := ⟨List.mem_of_getElem? (i := 1080) (by decide +kernel), by decide +kernel⟩
theorem wc_X8_start : zW (.code yX8_start cX8_start 1 (some Jvm.ClassFile.FieldType.int)) := ⟨List.mem_of_getElem? (i := 1081) (by decide +kernel), by decide +kernel⟩
theorem wm_L_59 : zW (.methodLink RL 59 yX8_farthest) := ⟨List.mem_of_getElem? (i := 1082) (by decide +kernel), by decide +kernel⟩
theorem wi_X8_farthest : zW (.instanceMethod yX8_farthest) := ⟨List.mem_of_getElem? (i := 1083) (by decide +kernel), by decide +kernel⟩
theorem ws_X8_farthest : zW (.selects RX8 yX8_farthest yX8_farthest) := ⟨List.mem_of_getElem? (i := 1084) (by decide +kernel), by decide +kernel⟩
theorem wc_X8_farthest : zW (.code yX8_farthest cX8_farthest 6 (some Jvm.ClassFile.FieldType.int)) := ⟨List.mem_of_getElem? (i := 1085) (by decide +kernel), by decide +kernel⟩
theorem wm_L_63 : zW (.methodLink RL 63 yX8_once) := ⟨List.mem_of_getElem? (i := 1086) (by decide +kernel), by decide +kernel⟩
theorem wi_X8_once : zW (.instanceMethod yX8_once) := ⟨List.mem_of_getElem? (i := 1087) (by decide +kernel), by decide +kernel⟩
theorem ws_X8_once : zW (.selects RX8 yX8_once yX8_once) := ⟨List.mem_of_getElem? (i := 1088) (by decide +kernel), by decide +kernel⟩
theorem wc_X8_once : zW (.code yX8_once cX8_once 4 (some Jvm.ClassFile.FieldType.int)) := ⟨List.mem_of_getElem? (i := 1089) (by decide +kernel), by decide +kernel⟩
theorem wm_L_67 : zW (.methodLink RL 67 yX8_goes) := ⟨List.mem_of_getElem? (i := 1090) (by decide +kernel), by decide +kernel⟩
theorem wi_X8_goes : zW (.instanceMethod yX8_goes) := ⟨List.mem_of_getElem? (i := 1091) (by decide +kernel), by decide +kernel⟩
theorem ws_X8_goes : zW (.selects RX8 yX8_goes yX8_goes) := ⟨List.mem_of_getElem? (i := 1092) (by decide +kernel), by decide +kernel⟩
theorem wc_X8_goes : zW (.code yX8_goes cX8_goes 8 (some Jvm.ClassFile.FieldType.int)) := ⟨List.mem_of_getElem? (i := 1093) (by decide +kernel), by decide +kernel⟩
theorem wk_X8_235 : zW (.constantLong RX8 235 (99)) := ⟨List.mem_of_getElem? (i := 1094) (by decide +kernel), by decide +kernel⟩
theorem wm_L_72 : zW (.methodLink RL 72 yX8_struck) := ⟨List.mem_of_getElem? (i := 1095) (by decide +kernel), by decide +kernel⟩
theorem wi_X8_struck : zW (.instanceMethod yX8_struck) := ⟨List.mem_of_getElem? (i := 1096) (by decide +kernel), by decide +kernel⟩
theorem ws_X8_struck : zW (.selects RX8 yX8_struck yX8_struck) := ⟨List.mem_of_getElem? (i := 1097) (by decide +kernel), by decide +kernel⟩
theorem wc_X8_struck : zW (.code yX8_struck cX8_struck 8 (some Jvm.ClassFile.FieldType.int)) := ⟨List.mem_of_getElem? (i := 1098) (by decide +kernel), by decide +kernel⟩
theorem wk_X8_237 : zW (.constantLong RX8 237 (4)) := ⟨List.mem_of_getElem? (i := 1099) (by decide +kernel), by decide +kernel⟩
theorem wm_L_76 : zW (.methodLink RL 76 yX8_image) := ⟨List.mem_of_getElem? (i := 1100) (by decide +kernel), by decide +kernel⟩
theorem wi_X8_image : zW (.instanceMethod yX8_image) := ⟨List.mem_of_getElem? (i := 1101) (by decide +kernel), by decide +kernel⟩
theorem ws_X8_image : zW (.selects RX8 yX8_image yX8_image) := ⟨List.mem_of_getElem? (i := 1102) (by decide +kernel), by decide +kernel⟩
theorem wc_X8_image : zW (.code yX8_image cX8_image 2 (some Jvm.ClassFile.FieldType.int)) := ⟨List.mem_of_getElem? (i := 1103) (by decide +kernel), by decide +kernel⟩
theorem wm_L_80 : zW (.methodLink RL 80 yX8_restore) := ⟨List.mem_of_getElem? (i := 1104) (by decide +kernel), by decide +kernel⟩
theorem wi_X8_restore : zW (.instanceMethod yX8_restore) := ⟨List.mem_of_getElem? (i := 1105) (by decide +kernel), by decide +kernel⟩
theorem ws_X8_restore : zW (.selects RX8 yX8_restore yX8_restore) := ⟨List.mem_of_getElem? (i := 1106) (by decide +kernel), by decide +kernel⟩
theorem wc_X8_restore : zW (.code yX8_restore cX8_restore 2 (some Jvm.ClassFile.FieldType.int)) := ⟨List.mem_of_getElem? (i := 1107) (by decide +kernel), by decide +kernel⟩
theorem wm_L_94 : zW (.methodLink RL 94 yX8_sheet) := ⟨List.mem_of_getElem? (i := 1108) (by decide +kernel), by decide +kernel⟩
theorem wi_X8_sheet : zW (.instanceMethod yX8_sheet) := ⟨List.mem_of_getElem? (i := 1109) (by decide +kernel), by decide +kernel⟩
theorem ws_X8_sheet : zW (.selects RX8 yX8_sheet yX8_sheet) := ⟨List.mem_of_getElem? (i := 1110) (by decide +kernel), by decide +kernel⟩
theorem wc_X8_sheet : zW (.code yX8_sheet cX8_sheet 5 (some Jvm.ClassFile.FieldType.int)) := ⟨List.mem_of_getElem? (i := 1111) (by decide +kernel), by decide +kernel⟩
theorem wm_X8_239 : zW (.methodLink RX8 239 yX8_isSheet) := ⟨List.mem_of_getElem? (i := 1112) (by decide +kernel), by decide +kernel⟩
theorem wt_X8_isSheet : zW (.static yX8_isSheet) := ⟨List.mem_of_getElem? (i := 1113) (by decide +kernel), by decide +kernel⟩
theorem wc_X8_isSheet : zW (.code yX8_isSheet cX8_isSheet 1 (some Jvm.ClassFile.FieldType.boolean)) := ⟨List.mem_of_getElem? (i := 1114) (by decide +kernel), by decide +kernel⟩
theorem wm_L_98 : zW (.methodLink RL 98 yX8_drop) := ⟨List.mem_of_getElem? (i := 1115) (by decide +kernel), by decide +kernel⟩
theorem wi_X8_drop : zW (.instanceMethod yX8_drop) := ⟨List.mem_of_getElem? (i := 1116) (by decide +kernel), by decide +kernel⟩
theorem ws_X8_drop : zW (.selects RX8 yX8_drop yX8_drop) := ⟨List.mem_of_getElem? (i := 1117) (by decide +kernel), by decide +kernel⟩
theorem wc_X8_drop : zW (.code yX8_drop cX8_drop 2 (some Jvm.ClassFile.FieldType.int)) := ⟨List.mem_of_getElem? (i := 1118) (by decide +kernel), by decide +kernel⟩
theorem wm_L_105 : zW (.methodLink RL 105 yX8_item) := ⟨List.mem_of_getElem? (i := 1119) (by decide +kernel), by decide +kernel⟩
theorem wi_X8_item : zW (.instanceMethod yX8_item) := ⟨List.mem_of_getElem? (i := 1120) (by decide +kernel), by decide +kernel⟩
theorem ws_X8_item : zW (.selects RX8 yX8_item yX8_item) := ⟨List.mem_of_getElem? (i := 1121) (by decide +kernel), by decide +kernel⟩
theorem wc_X8_item : zW (.code yX8_item cX8_item 7 (some Jvm.ClassFile.FieldType.int)) := ⟨List.mem_of_getElem? (i := 1122) (by decide +kernel), by decide +kernel⟩
theorem wm_X8_242 : zW (.methodLink RX8 242 yX8_why) := ⟨List.mem_of_getElem? (i := 1123) (by decide +kernel), by decide +kernel⟩
theorem wi_X8_why : zW (.instanceMethod yX8_why) := ⟨List.mem_of_getElem? (i := 1125) (by decide +kernel), by decide +kernel⟩
theorem wc_X8_why : zW (.code yX8_why cX8_why 5 (some Jvm.ClassFile.FieldType.int)) := ⟨List.mem_of_getElem? (i := 1126) (by decide +kernel), by decide +kernel⟩
theorem wm_X8_245 : zW (.methodLink RX8 245 yX8_cut) := ⟨List.mem_of_getElem? (i := 1127) (by decide +kernel), by decide +kernel⟩
theorem wt_X8_cut : zW (.static yX8_cut) := ⟨List.mem_of_getElem? (i := 1128) (by decide +kernel), by decide +kernel⟩
theorem wc_X8_cut : zW (.code yX8_cut cX8_cut 3 (some Jvm.ClassFile.FieldType.long)) := ⟨List.mem_of_getElem? (i := 1129) (by decide +kernel), by decide +kernel⟩
theorem wm_L_109 : zW (.methodLink RL 109 yX8_copy) := ⟨List.mem_of_getElem? (i := 1130) (by decide +kernel), by decide +kernel⟩
theorem wi_X8_copy : zW (.instanceMethod yX8_copy) := ⟨List.mem_of_getElem? (i := 1131) (by decide +kernel), by decide +kernel⟩
theorem ws_X8_copy : zW (.selects RX8 yX8_copy yX8_copy) := ⟨List.mem_of_getElem? (i := 1132) (by decide +kernel), by decide +kernel⟩
theorem wc_X8_copy : zW (.code yX8_copy cX8_copy 7 (some Jvm.ClassFile.FieldType.int)) := ⟨List.mem_of_getElem? (i := 1133) (by decide +kernel), by decide +kernel⟩
theorem wm_L_85 : zW (.methodLink RL 85 yX8_play) := ⟨List.mem_of_getElem? (i := 1134) (by decide +kernel), by decide +kernel⟩
theorem wi_X8_play : zW (.instanceMethod yX8_play) := ⟨List.mem_of_getElem? (i := 1135) (by decide +kernel), by decide +kernel⟩
theorem ws_X8_play : zW (.selects RX8 yX8_play yX8_play) := ⟨List.mem_of_getElem? (i := 1136) (by decide +kernel), by decide +kernel⟩
theorem wc_X8_play : zW (.code yX8_play cX8_play 9 (some Jvm.ClassFile.FieldType.int)) := ⟨List.mem_of_getElem? (i := 1137) (by decide +kernel), by decide +kernel⟩
theorem wk_X8_249 : zW (.constantLong RX8 249 (24)) := ⟨List.mem_of_getElem? (i := 1138) (by decide +kernel), by decide +kernel⟩
theorem wm_L_90 : zW (.methodLink RL 90 yX8_film) := ⟨List.mem_of_getElem? (i := 1139) (by decide +kernel), by decide +kernel⟩
theorem wi_X8_film : zW (.instanceMethod yX8_film) := ⟨List.mem_of_getElem? (i := 1140) (by decide +kernel), by decide +kernel⟩
theorem ws_X8_film : zW (.selects RX8 yX8_film yX8_film) := ⟨List.mem_of_getElem? (i := 1141) (by decide +kernel), by decide +kernel⟩
theorem wc_X8_film : zW (.code yX8_film cX8_film 8 (some Jvm.ClassFile.FieldType.int)) := ⟨List.mem_of_getElem? (i := 1142) (by decide +kernel), by decide +kernel⟩
theorem wk_L_99 : zW (.constantLong RL 99 (4294967295)) := ⟨List.mem_of_getElem? (i := 1143) (by decide +kernel), by decide +kernel⟩
