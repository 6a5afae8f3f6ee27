/-! ===== words, methods, call sites: by program ===== -/
def M_J9_abs_0f7a4 : am_M := (yJ9_abs_0f7a4, prog_18_method_59_code, 1, (some .int), 0, 0, [])
def M_J9_floorDiv_7cf53 : am_M := (yJ9_floorDiv_7cf53, prog_18_method_47_code, 3, (some .int), 0, 0, [])
def M_J9_min_7cf53 : am_M := (yJ9_min_7cf53, prog_18_method_69_code, 2, (some .int), 0, 0, [])
def M_Jxe99ae_isNaN_b9ae7 : am_M := (yJxe99ae_isNaN_b9ae7, prog_13_method_6_code, 2, (some .boolean), 0, 0, [])
def M_X0_shownBefore : am_M := (yX0_shownBefore, prog_2_method_3_code, 3, (some .int), 0, 0, [])
def M_X10_adds : am_M := (yX10_adds, prog_12_method_38_code, 2, (some .int), 0, 0, [])
def M_X10_asks : am_M := (yX10_asks, prog_12_method_12_code, 2, (some .boolean), 0, 0, [])
def M_X10_asksThen : am_M := (yX10_asksThen, prog_12_method_13_code, 3, (some .boolean), 0, 0, [])
def M_X10_begins : am_M := (yX10_begins, prog_12_method_21_code, 3, none, 0, 0, [])
def M_X10_blocksOf : am_M := (yX10_blocksOf, prog_12_method_9_code, 1, (some .int), 0, 0, [])
def M_X10_canTurn : am_M := (yX10_canTurn, prog_12_method_48_code, 2, (some .boolean), 0, 0, [])
def M_X10_cut : am_M := (yX10_cut, prog_12_method_5_code, 1, (some .int), 0, 0, [])
def M_X10_fold : am_M := (yX10_fold, prog_12_method_27_code, 1, (some .int), 0, 0, [])
def M_X10_in : am_M := (yX10_in, prog_12_method_3_code, 3, (some .boolean), 0, 0, [])
def M_X10_isAllowed : am_M := (yX10_isAllowed, prog_12_method_32_code, 2, (some .boolean), 0, 0, [])
def M_X10_needs : am_M := (yX10_needs, prog_12_method_109_code, 2, none, 0, 0, [])
def M_X10_on : am_M := (yX10_on, prog_12_method_119_code, 4, (some .long), 0, 0, [])
def M_X10_record : am_M := (yX10_record, prog_12_method_15_code, 2, none, 0, 0, [])
def M_X10_sample : am_M := (yX10_sample, prog_12_method_19_code, 2, (some .int), 0, 0, [])
def M_X10_says : am_M := (yX10_says, prog_12_method_14_code, 2, (some .int), 0, 0, [])
def M_X10_sign : am_M := (yX10_sign, prog_12_method_108_code, 1, (some .int), 0, 0, [])
def M_X10_size : am_M := (yX10_size, prog_12_method_4_code, 1, (some .int), 0, 0, [])
def M_X10_thrown : am_M := (yX10_thrown, prog_12_method_2_code, 1, (some .int), 0, 0, [])
def M_X1_forgetOldest : am_M := (yX1_forgetOldest, prog_3_method_3_code, 3, none, 0, 0, [])
def M_X3_isOne : am_M := (yX3_isOne, prog_5_method_6_code, 2, (some .boolean), 0, 0, [])
def M_X3_writeBit : am_M := (yX3_writeBit, prog_5_method_5_code, 2, none, 0, 0, [])
def M_X4_heardAt : am_M := (yX4_heardAt, prog_6_method_4_code, 2, (some .int), 0, 0, [])
def M_X5_has : am_M := (yX5_has, prog_7_method_2_code, 2, (some .boolean), 0, 0, [])
def M_X6_allows : am_M := (yX6_allows, prog_8_method_6_code, 2, (some .boolean), 0, 0, [])
def M_X6_canTurn : am_M := (yX6_canTurn, prog_8_method_7_code, 2, (some .boolean), 0, 0, [])
def M_X6_hasRoomFor : am_M := (yX6_hasRoomFor, prog_8_method_4_code, 2, (some .boolean), 0, 0, [])
def M_X6_soundAt : am_M := (yX6_soundAt, prog_8_method_3_code, 2, (some .int), 0, 0, [])
def M_X6_turn : am_M := (yX6_turn, prog_8_method_8_code, 2, none, 0, 0, [])
def M_X7_leftBy : am_M := (yX7_leftBy, prog_9_method_3_code, 3, (some .int), 0, 0, [])
def M_X8_codeHere : am_M := (yX8_codeHere, prog_10_method_11_code, 1, (some .int), 0, 0, [])
def M_X8_put : am_M := (yX8_put, prog_10_method_2_code, 2, none, 0, 0, [])
def M_X9_allowed : am_M := (yX9_allowed, prog_1_method_18_code, 1, (some .int), 0, 0, [])
def M_X9_bitsOfDouble : am_M := (yX9_bitsOfDouble, prog_1_method_84_code, 6, (some .long), 0, 0, [])
def M_X9_bitsOfFolded : am_M := (yX9_bitsOfFolded, prog_1_method_70_code, 2, (some .int), 0, 0, [])
def M_X9_blocksOf : am_M := (yX9_blocksOf, prog_1_method_66_code, 1, (some .int), 0, 0, [])
def M_X9_clearText : am_M := (yX9_clearText, prog_1_method_54_code, 2, (some .int), 0, 0, [])
def M_X9_delay : am_M := (yX9_delay, prog_1_method_16_code, 1, (some .int), 0, 0, [])
def M_X9_fold : am_M := (yX9_fold, prog_1_method_68_code, 1, (some .int), 0, 0, [])
def M_X9_haveSameSign : am_M := (yX9_haveSameSign, prog_1_method_71_code, 2, (some .boolean), 0, 0, [])
def M_X9_isWithin : am_M := (yX9_isWithin, prog_1_method_62_code, 3, (some .boolean), 0, 0, [])
def M_X9_limit : am_M := (yX9_limit, prog_1_method_67_code, 1, (some .int), 0, 0, [])
def M_X9_mix : am_M := (yX9_mix, prog_1_method_78_code, 4, (some .long), 0, 0, [])
def M_X9_samples : am_M := (yX9_samples, prog_1_method_13_code, 1, (some .int), 0, 0, [])
def M_X9_sent : am_M := (yX9_sent, prog_1_method_50_code, 1, (some .int), 0, 0, [])
def M_X9_speed : am_M := (yX9_speed, prog_1_method_17_code, 1, (some .int), 0, 0, [])
def M_X9_told : am_M := (yX9_told, prog_1_method_38_code, 1, (some .int), 0, 0, [])
def M_X9_unfold : am_M := (yX9_unfold, prog_1_method_69_code, 1, (some .int), 0, 0, [])
def M_Jxe99ae_doubleToLongBits_ccdee : am_M := (yJxe99ae_doubleToLongBits_ccdee, prog_13_method_23_code, 2, (some .long), 1, 60, [])
def M_X0_adapt : am_M := (yX0_adapt, prog_2_method_7_code, 4, none, 1, 22, [])
def M_X0_foretell : am_M := (yX0_foretell, prog_2_method_4_code, 2, (some .int), 1, 22, [])
def M_X0_init : am_M := (yX0_init, prog_2_method_1_code, 1, none, 1, 21, [])
def M_X0_weigh : am_M := (yX0_weigh, prog_2_method_6_code, 3, none, 1, 22, [])
def M_X10_add : am_M := (yX10_add, prog_12_method_39_code, 2, (some .int), 1, 22, [])
def M_X10_allowed : am_M := (yX10_allowed, prog_12_method_70_code, 1, (some .int), 1, 21, [])
def M_X10_append : am_M := (yX10_append, prog_12_method_106_code, 2, (some .int), 1, 22, [])
def M_X10_bitOf : am_M := (yX10_bitOf, prog_12_method_103_code, 4, (some .int), 1, 20, [])
def M_X10_bitsOf : am_M := (yX10_bitsOf, prog_12_method_28_code, 2, (some .int), 1, 20, [])
def M_X10_blocks : am_M := (yX10_blocks, prog_12_method_67_code, 1, (some .int), 1, 21, [])
def M_X10_clearText : am_M := (yX10_clearText, prog_12_method_107_code, 2, (some .int), 1, 21, [])
def M_X10_delay : am_M := (yX10_delay, prog_12_method_68_code, 1, (some .int), 1, 21, [])
def M_X10_digit : am_M := (yX10_digit, prog_12_method_110_code, 4, (some .int), 1, 22, [])
def M_X10_drop : am_M := (yX10_drop, prog_12_method_42_code, 1, (some .int), 1, 21, [])
def M_X10_echo : am_M := (yX10_echo, prog_12_method_40_code, 6, (some .int), 1, 22, [])
def M_X10_empty : am_M := (yX10_empty, prog_12_method_43_code, 2, (some .int), 1, 21, [])
def M_X10_foretell : am_M := (yX10_foretell, prog_12_method_20_code, 7, (some .int), 1, 21, [])
def M_X10_goBack : am_M := (yX10_goBack, prog_12_method_18_code, 3, (some .int), 1, 22, [])
def M_X10_init : am_M := (yX10_init, prog_12_method_1_code, 1, none, 1, 21, [])
def M_X10_isBlock : am_M := (yX10_isBlock, prog_12_method_10_code, 2, (some .boolean), 1, 22, [])
def M_X10_isKind : am_M := (yX10_isKind, prog_12_method_6_code, 1, (some .boolean), 1, 22, [])
def M_X10_isLetterBlock : am_M := (yX10_isLetterBlock, prog_12_method_98_code, 2, (some .boolean), 1, 22, [])
def M_X10_isSample : am_M := (yX10_isSample, prog_12_method_8_code, 2, (some .boolean), 1, 22, [])
def M_X10_isTold : am_M := (yX10_isTold, prog_12_method_11_code, 2, (some .boolean), 1, 22, [])
def M_X10_isWeight : am_M := (yX10_isWeight, prog_12_method_7_code, 1, (some .boolean), 1, 22, [])
def M_X10_keep : am_M := (yX10_keep, prog_12_method_17_code, 3, (some .int), 1, 22, [])
def M_X10_mean : am_M := (yX10_mean, prog_12_method_72_code, 3, (some .double), 1, 20, [])
def M_X10_samples : am_M := (yX10_samples, prog_12_method_65_code, 1, (some .int), 1, 21, [])
def M_X10_sent : am_M := (yX10_sent, prog_12_method_64_code, 1, (some .int), 1, 21, [])
def M_X10_sets : am_M := (yX10_sets, prog_12_method_44_code, 4, (some .int), 1, 21, [])
def M_X10_speed : am_M := (yX10_speed, prog_12_method_69_code, 1, (some .int), 1, 21, [])
def M_X10_told : am_M := (yX10_told, prog_12_method_97_code, 1, (some .int), 1, 21, [])
def M_X10_undo : am_M := (yX10_undo, prog_12_method_16_code, 2, (some .int), 1, 21, [])
def M_X2_copyFrom : am_M := (yX2_copyFrom, prog_4_method_2_code, 2, none, 1, 60, [])
def M_X2_countBits : am_M := (yX2_countBits, prog_4_method_3_code, 3, (some .int), 1, 21, [])
def M_X2_init : am_M := (yX2_init, prog_4_method_1_code, 1, none, 1, 21, [])
def M_X3_init : am_M := (yX3_init, prog_5_method_1_code, 1, none, 1, 21, [])
def M_X3_readBit : am_M := (yX3_readBit, prog_5_method_7_code, 2, (some .boolean), 1, 21, [])
def M_X3_writeNumber : am_M := (yX3_writeNumber, prog_5_method_4_code, 4, none, 1, 21, [])
def M_X4_countUnlike : am_M := (yX4_countUnlike, prog_6_method_5_code, 4, (some .int), 1, 21, [])
def M_X4_findUnlike : am_M := (yX4_findUnlike, prog_6_method_6_code, 3, (some .int), 1, 21, [])
def M_X6_put : am_M := (yX6_put, prog_8_method_5_code, 2, none, 1, 21, [])
def M_X7_countBits : am_M := (yX7_countBits, prog_9_method_13_code, 7, (some .int), 1, 22, [])
def M_X7_countRises : am_M := (yX7_countRises, prog_9_method_4_code, 7, (some .int), 1, 22, [])
def M_X7_kindFor : am_M := (yX7_kindFor, prog_9_method_14_code, 5, (some .int), 1, 21, [])
def M_X7_sumIfOnly : am_M := (yX7_sumIfOnly, prog_9_method_19_code, 4, (some .int), 1, 20, [])
def M_X8_digitHere : am_M := (yX8_digitHere, prog_10_method_10_code, 2, (some .int), 1, 20, [])
def M_X8_init : am_M := (yX8_init, prog_10_method_1_code, 1, none, 1, 21, [])
def M_X8_take : am_M := (yX8_take, prog_10_method_9_code, 3, (some .boolean), 1, 20, [])
def M_X9_blocks : am_M := (yX9_blocks, prog_1_method_15_code, 1, (some .int), 1, 20, [])
def M_X9_hashOfSamples : am_M := (yX9_hashOfSamples, prog_1_method_81_code, 7, (some .long), 1, 23, [])
def M_X9_isBlock : am_M := (yX9_isBlock, prog_1_method_64_code, 2, (some .boolean), 1, 22, [])
def M_X9_isKind : am_M := (yX9_isKind, prog_1_method_63_code, 1, (some .boolean), 1, 22, [])
def M_X9_isTold : am_M := (yX9_isTold, prog_1_method_65_code, 2, (some .boolean), 1, 22, [])
def M_X9_loudness : am_M := (yX9_loudness, prog_1_method_20_code, 3, (some .double), 1, 21, [])
def M_X9_setFirst : am_M := (yX9_setFirst, prog_1_method_77_code, 4, (some .boolean), 1, 22, [])
def M_X9_turnIfPossible : am_M := (yX9_turnIfPossible, prog_1_method_75_code, 3, (some .boolean), 1, 21, [])
def M_X0_begin : am_M := (yX0_begin, prog_2_method_2_code, 4, none, 2, 60, [])
def M_X0_show : am_M := (yX0_show, prog_2_method_5_code, 2, none, 2, 45, [])
def M_X10_adapts : am_M := (yX10_adapts, prog_12_method_22_code, 7, none, 2, 47, [])
def M_X10_bitAt : am_M := (yX10_bitAt, prog_12_method_104_code, 6, (some .int), 2, 43, [])
def M_X10_blockBits : am_M := (yX10_blockBits, prog_12_method_29_code, 5, (some .int), 2, 41, [])
def M_X10_change : am_M := (yX10_change, prog_12_method_41_code, 4, (some .int), 2, 43, [])
def M_X10_firstWeight : am_M := (yX10_firstWeight, prog_12_method_71_code, 2, (some .int), 2, 42, [])
def M_X10_isPossible : am_M := (yX10_isPossible, prog_12_method_116_code, 3, (some .boolean), 2, 43, [])
def M_X10_letterKind : am_M := (yX10_letterKind, prog_12_method_99_code, 2, (some .int), 2, 43, [])
def M_X10_letterLeft : am_M := (yX10_letterLeft, prog_12_method_101_code, 2, (some .int), 2, 43, [])
def M_X10_letterLength : am_M := (yX10_letterLength, prog_12_method_50_code, 3, (some .int), 2, 41, [])
def M_X10_letterParameter : am_M := (yX10_letterParameter, prog_12_method_100_code, 2, (some .int), 2, 43, [])
def M_X10_loudness : am_M := (yX10_loudness, prog_12_method_73_code, 1, (some .double), 2, 42, [])
def M_X10_number : am_M := (yX10_number, prog_12_method_111_code, 5, (some .int), 2, 45, [])
def M_X10_sampleAt : am_M := (yX10_sampleAt, prog_12_method_66_code, 2, (some .int), 2, 43, [])
def M_X10_setDelay : am_M := (yX10_setDelay, prog_12_method_45_code, 2, (some .int), 2, 44, [])
def M_X10_setSpeed : am_M := (yX10_setSpeed, prog_12_method_46_code, 2, (some .int), 2, 44, [])
def M_X10_setWeight : am_M := (yX10_setWeight, prog_12_method_47_code, 3, (some .int), 2, 44, [])
def M_X10_tamper : am_M := (yX10_tamper, prog_12_method_53_code, 3, (some .int), 2, 44, [])
def M_X10_turnKind : am_M := (yX10_turnKind, prog_12_method_49_code, 2, (some .boolean), 2, 42, [])
def M_X3_readNumber : am_M := (yX3_readNumber, prog_5_method_8_code, 4, (some .int), 2, 42, [])
def M_X3_writeFolded : am_M := (yX3_writeFolded, prog_5_method_3_code, 4, none, 2, 44, [])
def M_X4_init : am_M := (yX4_init, prog_6_method_1_code, 1, none, 2, 41, [])
def M_X6_copyFrom : am_M := (yX6_copyFrom, prog_8_method_2_code, 2, none, 2, 81, [])
def M_X6_init : am_M := (yX6_init, prog_8_method_1_code, 1, none, 2, 41, [])
def M_X7_countBlocksWith : am_M := (yX7_countBlocksWith, prog_9_method_18_code, 4, (some .int), 2, 45, [])
def M_X7_findParameter : am_M := (yX7_findParameter, prog_9_method_12_code, 5, none, 2, 48, [])
def M_X7_reasonFor : am_M := (yX7_reasonFor, prog_9_method_15_code, 6, (some .int), 2, 45, [])
def M_X7_sumOfBlocks : am_M := (yX7_sumOfBlocks, prog_9_method_16_code, 3, (some .int), 2, 45, [])
def M_X7_sumOfBlocksWith : am_M := (yX7_sumOfBlocksWith, prog_9_method_17_code, 4, (some .int), 2, 45, [])
def M_X8_readNumber : am_M := (yX8_readNumber, prog_10_method_8_code, 4, (some .int), 2, 41, [])
def M_X9_addIfPossible : am_M := (yX9_addIfPossible, prog_1_method_74_code, 3, (some .boolean), 2, 42, [])
def M_X9_letterBits : am_M := (yX9_letterBits, prog_1_method_42_code, 1, (some .int), 2, 43, [])
def M_X9_tamperIfPossible : am_M := (yX9_tamperIfPossible, prog_1_method_76_code, 4, (some .boolean), 2, 43, [])
def M_X10_hears : am_M := (yX10_hears, prog_12_method_54_code, 5, (some .int), 3, 73, [])
def M_X10_leaves : am_M := (yX10_leaves, prog_12_method_23_code, 6, (some .int), 3, 73, [])
def M_X10_letterBit : am_M := (yX10_letterBit, prog_12_method_105_code, 2, (some .boolean), 3, 68, [])
def M_X10_letterBits : am_M := (yX10_letterBits, prog_12_method_102_code, 1, (some .int), 3, 63, [])
def M_X10_parameterFor : am_M := (yX10_parameterFor, prog_12_method_30_code, 4, (some .int), 3, 65, [])
def M_X10_signed : am_M := (yX10_signed, prog_12_method_112_code, 4, (some .int), 3, 69, [])
def M_X10_weightsAhead : am_M := (yX10_weightsAhead, prog_12_method_25_code, 3, none, 3, 73, [])
def M_X1_init : am_M := (yX1_init, prog_3_method_1_code, 2, none, 3, 61, [])
def M_X1_restore : am_M := (yX1_restore, prog_3_method_4_code, 2, none, 3, 102, [])
def M_X1_save : am_M := (yX1_save, prog_3_method_2_code, 2, none, 3, 102, [])
def M_X3_readFolded : am_M := (yX3_readFolded, prog_5_method_9_code, 3, (some .int), 3, 65, [])
def M_X3_write : am_M := (yX3_write, prog_5_method_2_code, 4, none, 3, 67, [])
def M_X4_read : am_M := (yX4_read, prog_6_method_2_code, 5, none, 3, 83, [])
def M_X5_init : am_M := (yX5_init, prog_7_method_1_code, 1, none, 3, 61, [])
def M_X5_put : am_M := (yX5_put, prog_7_method_3_code, 3, none, 3, 102, [])
def M_X5_restore : am_M := (yX5_restore, prog_7_method_4_code, 3, none, 3, 102, [])
def M_X7_findParameters : am_M := (yX7_findParameters, prog_9_method_11_code, 3, none, 3, 72, [])
def M_X7_follow : am_M := (yX7_follow, prog_9_method_2_code, 3, none, 3, 83, [])
def M_X7_init : am_M := (yX7_init, prog_9_method_1_code, 1, none, 3, 61, [])
def M_X7_sumIf : am_M := (yX7_sumIf, prog_9_method_6_code, 8, (some .int), 3, 83, [])
def M_X8_readPlace : am_M := (yX8_readPlace, prog_10_method_6_code, 3, (some .boolean), 3, 64, [])
def M_X8_readSigned : am_M := (yX8_readSigned, prog_10_method_7_code, 4, (some .boolean), 3, 64, [])
def M_X8_readValue : am_M := (yX8_readValue, prog_10_method_5_code, 3, (some .boolean), 3, 64, [])
def M_X9_hashOfBlocks : am_M := (yX9_hashOfBlocks, prog_1_method_82_code, 7, (some .long), 3, 70, [])
def M_X10_firstFor : am_M := (yX10_firstFor, prog_12_method_86_code, 7, (some .int), 4, 98, [])
def M_X10_firstOther : am_M := (yX10_firstOther, prog_12_method_59_code, 3, (some .int), 4, 97, [])
def M_X10_foretoldOf : am_M := (yX10_foretoldOf, prog_12_method_26_code, 3, (some .int), 4, 95, [])
def M_X10_harm : am_M := (yX10_harm, prog_12_method_61_code, 2, (some .int), 4, 97, [])
def M_X10_heardOf : am_M := (yX10_heardOf, prog_12_method_55_code, 2, (some .int), 4, 97, [])
def M_X10_leavesBy : am_M := (yX10_leavesBy, prog_12_method_24_code, 2, (some .int), 4, 98, [])
def M_X10_letterOn : am_M := (yX10_letterOn, prog_12_method_121_code, 9, (some .long), 4, 97, [])
def M_X10_mostHarm : am_M := (yX10_mostHarm, prog_12_method_62_code, 6, (some .int), 4, 97, [])
def M_X10_readWork : am_M := (yX10_readWork, prog_12_method_113_code, 4, none, 4, 92, [])
def M_X10_speedFor : am_M := (yX10_speedFor, prog_12_method_84_code, 6, (some .int), 4, 98, [])
def M_X10_sumBehind : am_M := (yX10_sumBehind, prog_12_method_80_code, 2, (some .int), 4, 98, [])
def M_X10_unlike : am_M := (yX10_unlike, prog_12_method_58_code, 1, (some .int), 4, 97, [])
def M_X10_weightAsked : am_M := (yX10_weightAsked, prog_12_method_74_code, 3, (some .int), 4, 95, [])
def M_X4_readBits : am_M := (yX4_readBits, prog_6_method_3_code, 7, none, 4, 87, [])
def M_X7_findDelay : am_M := (yX7_findDelay, prog_9_method_7_code, 5, (some .int), 4, 110, [])
def M_X7_findFirst : am_M := (yX7_findFirst, prog_9_method_9_code, 6, (some .int), 4, 110, [])
def M_X7_findSpeed : am_M := (yX7_findSpeed, prog_9_method_8_code, 5, (some .int), 4, 110, [])
def M_X7_sumBy : am_M := (yX7_sumBy, prog_9_method_5_code, 2, (some .int), 4, 110, [])
def M_X7_weighBlocks : am_M := (yX7_weighBlocks, prog_9_method_10_code, 1, none, 4, 105, [])
def M_X8_readWork : am_M := (yX8_readWork, prog_10_method_4_code, 1, (some .boolean), 4, 87, [])
def M_X9_empty : am_M := (yX9_empty, prog_1_method_6_code, 2, (some .int), 4, 123, [])
def M_X9_firstUnlike : am_M := (yX9_firstUnlike, prog_1_method_47_code, 1, (some .int), 4, 107, [])
def M_X9_hashOfLetter : am_M := (yX9_hashOfLetter, prog_1_method_83_code, 7, (some .long), 4, 107, [])
def M_X9_init : am_M := (yX9_init, prog_1_method_1_code, 1, none, 4, 82, [])
def M_X9_unlike : am_M := (yX9_unlike, prog_1_method_46_code, 1, (some .int), 4, 107, [])
def M_X9_worst : am_M := (yX9_worst, prog_1_method_49_code, 5, (some .int), 4, 107, [])
def M_X9_writeLetter : am_M := (yX9_writeLetter, prog_1_method_72_code, 4, (some .boolean), 4, 105, [])
def M_X10_bestFirst : am_M := (yX10_bestFirst, prog_12_method_87_code, 2, (some .int), 5, 124, [])
def M_X10_bestSpeed : am_M := (yX10_bestSpeed, prog_12_method_85_code, 1, (some .int), 5, 123, [])
def M_X10_bitsWith : am_M := (yX10_bitsWith, prog_12_method_88_code, 4, (some .int), 5, 119, [])
def M_X10_delayFor : am_M := (yX10_delayFor, prog_12_method_82_code, 3, (some .int), 5, 119, [])
def M_X10_fewest : am_M := (yX10_fewest, prog_12_method_31_code, 3, (some .int), 5, 119, [])
def M_X10_firstUnlike : am_M := (yX10_firstUnlike, prog_12_method_60_code, 1, (some .int), 5, 119, [])
def M_X10_foretold : am_M := (yX10_foretold, prog_12_method_77_code, 3, (some .int), 5, 117, [])
def M_X10_heard : am_M := (yX10_heard, prog_12_method_56_code, 2, (some .int), 5, 118, [])
def M_X10_heardByBits : am_M := (yX10_heardByBits, prog_12_method_57_code, 2, (some .int), 5, 118, [])
def M_X10_leftOver : am_M := (yX10_leftOver, prog_12_method_78_code, 3, (some .int), 5, 117, [])
def M_X10_parameterBy : am_M := (yX10_parameterBy, prog_12_method_89_code, 3, (some .int), 5, 119, [])
def M_X10_sumOf : am_M := (yX10_sumOf, prog_12_method_79_code, 2, (some .int), 5, 119, [])
def M_X10_sumWithDelay : am_M := (yX10_sumWithDelay, prog_12_method_81_code, 2, (some .int), 5, 119, [])
def M_X10_tells : am_M := (yX10_tells, prog_12_method_114_code, 2, (some .int), 5, 115, [])
def M_X10_weightAt : am_M := (yX10_weightAt, prog_12_method_75_code, 3, (some .int), 5, 117, [])
def M_X10_weightByCounting : am_M := (yX10_weightByCounting, prog_12_method_76_code, 3, (some .int), 5, 117, [])
def M_X10_worst : am_M := (yX10_worst, prog_12_method_63_code, 1, (some .int), 5, 122, [])
def M_X8_findFault : am_M := (yX8_findFault, prog_10_method_3_code, 2, (some .int), 5, 107, [])
def M_X9_bestDelay : am_M := (yX9_bestDelay, prog_1_method_27_code, 1, (some .int), 5, 134, [])
def M_X9_bestSpeed : am_M := (yX9_bestSpeed, prog_1_method_28_code, 1, (some .int), 5, 134, [])
def M_X9_bits : am_M := (yX9_bits, prog_1_method_34_code, 1, (some .int), 5, 125, [])
def M_X9_bitsByKinds : am_M := (yX9_bitsByKinds, prog_1_method_35_code, 3, (some .int), 5, 125, [])
def M_X9_doWork : am_M := (yX9_doWork, prog_1_method_73_code, 1, (some .boolean), 5, 128, [])
def M_X9_hashOfAll : am_M := (yX9_hashOfAll, prog_1_method_79_code, 6, (some .long), 5, 135, [])
def M_X9_hashOfKinds : am_M := (yX9_hashOfKinds, prog_1_method_80_code, 6, (some .long), 5, 131, [])
def M_X10_bestDelay : am_M := (yX10_bestDelay, prog_12_method_83_code, 1, (some .int), 6, 141, [])
def M_X10_bestParameter : am_M := (yX10_bestParameter, prog_12_method_90_code, 3, (some .int), 6, 141, [])
def M_X10_bitsOnly : am_M := (yX10_bitsOnly, prog_12_method_36_code, 4, (some .int), 6, 141, [])
def M_X10_firstError : am_M := (yX10_firstError, prog_12_method_115_code, 1, (some .int), 6, 136, [])
def M_X10_kindFor : am_M := (yX10_kindFor, prog_12_method_33_code, 7, (some .int), 6, 141, [])
def M_X9_digest : am_M := (yX9_digest, prog_1_method_58_code, 3, (some .long), 6, 160, [])
def M_X9_firstError : am_M := (yX9_firstError, prog_1_method_55_code, 1, (some .int), 6, 128, [])
def M_X9_needArgument : am_M := (yX9_needArgument, prog_1_method_60_code, 1, none, 6, 100, [])
def M_X9_needIndex : am_M := (yX9_needIndex, prog_1_method_59_code, 1, none, 6, 100, [])
def M_X9_needPossible : am_M := (yX9_needPossible, prog_1_method_61_code, 1, none, 6, 100, [])
def M_X10_allBits : am_M := (yX10_allBits, prog_12_method_35_code, 3, (some .int), 7, 167, [])
def M_X10_bestKind : am_M := (yX10_bestKind, prog_12_method_91_code, 2, (some .int), 7, 167, [])
def M_X10_bitsIfOnly : am_M := (yX10_bitsIfOnly, prog_12_method_96_code, 2, (some .int), 7, 164, [])
def M_X10_blocksBy : am_M := (yX10_blocksBy, prog_12_method_37_code, 4, (some .int), 7, 167, [])
def M_X10_sends : am_M := (yX10_sends, prog_12_method_51_code, 4, (some .int), 7, 167, [])
def M_X10_whyFor : am_M := (yX10_whyFor, prog_12_method_34_code, 7, (some .int), 7, 167, [])
def M_X9_add : am_M := (yX9_add, prog_1_method_2_code, 2, (some .int), 7, 123, [])
def M_X9_append : am_M := (yX9_append, prog_1_method_53_code, 2, (some .int), 7, 120, [])
def M_X9_bestFirst : am_M := (yX9_bestFirst, prog_1_method_29_code, 2, (some .int), 7, 135, [])
def M_X9_bestKind : am_M := (yX9_bestKind, prog_1_method_32_code, 2, (some .int), 7, 125, [])
def M_X9_bestParameter : am_M := (yX9_bestParameter, prog_1_method_31_code, 3, (some .int), 7, 125, [])
def M_X9_bitsIfOnly : am_M := (yX9_bitsIfOnly, prog_1_method_37_code, 2, (some .int), 7, 125, [])
def M_X9_bitsWith : am_M := (yX9_bitsWith, prog_1_method_30_code, 4, (some .int), 7, 120, [])
def M_X9_blocksWith : am_M := (yX9_blocksWith, prog_1_method_36_code, 2, (some .int), 7, 125, [])
def M_X9_change : am_M := (yX9_change, prog_1_method_4_code, 4, (some .int), 7, 123, [])
def M_X9_doWorks : am_M := (yX9_doWorks, prog_1_method_56_code, 2, (some .int), 7, 148, [])
def M_X9_drop : am_M := (yX9_drop, prog_1_method_5_code, 1, (some .int), 7, 123, [])
def M_X9_echo : am_M := (yX9_echo, prog_1_method_3_code, 5, (some .int), 7, 123, [])
def M_X9_firstWeight : am_M := (yX9_firstWeight, prog_1_method_19_code, 2, (some .int), 7, 120, [])
def M_X9_foretold : am_M := (yX9_foretold, prog_1_method_23_code, 3, (some .int), 7, 120, [])
def M_X9_goBack : am_M := (yX9_goBack, prog_1_method_52_code, 2, (some .int), 7, 124, [])
def M_X9_harm : am_M := (yX9_harm, prog_1_method_48_code, 2, (some .int), 7, 120, [])
def M_X9_heard : am_M := (yX9_heard, prog_1_method_44_code, 2, (some .int), 7, 120, [])
def M_X9_heardByBits : am_M := (yX9_heardByBits, prog_1_method_45_code, 2, (some .int), 7, 120, [])
def M_X9_keep : am_M := (yX9_keep, prog_1_method_51_code, 2, (some .int), 7, 124, [])
def M_X9_leftOver : am_M := (yX9_leftOver, prog_1_method_24_code, 3, (some .int), 7, 120, [])
def M_X9_letterBit : am_M := (yX9_letterBit, prog_1_method_43_code, 2, (some .boolean), 7, 120, [])
def M_X9_letterKind : am_M := (yX9_letterKind, prog_1_method_39_code, 2, (some .int), 7, 120, [])
def M_X9_letterLeft : am_M := (yX9_letterLeft, prog_1_method_41_code, 2, (some .int), 7, 120, [])
def M_X9_letterParameter : am_M := (yX9_letterParameter, prog_1_method_40_code, 2, (some .int), 7, 120, [])
def M_X9_sampleAt : am_M := (yX9_sampleAt, prog_1_method_14_code, 2, (some .int), 7, 120, [])
def M_X9_send : am_M := (yX9_send, prog_1_method_11_code, 1, (some .int), 7, 128, [])
def M_X9_setDelay : am_M := (yX9_setDelay, prog_1_method_7_code, 3, (some .int), 7, 123, [])
def M_X9_setSpeed : am_M := (yX9_setSpeed, prog_1_method_8_code, 3, (some .int), 7, 123, [])
def M_X9_setWeight : am_M := (yX9_setWeight, prog_1_method_9_code, 4, (some .int), 7, 123, [])
def M_X9_sumOf : am_M := (yX9_sumOf, prog_1_method_25_code, 2, (some .int), 7, 131, [])
def M_X9_sumWithDelay : am_M := (yX9_sumWithDelay, prog_1_method_26_code, 2, (some .int), 7, 120, [])
def M_X9_tamper : am_M := (yX9_tamper, prog_1_method_12_code, 4, (some .int), 7, 123, [])
def M_X9_turnKind : am_M := (yX9_turnKind, prog_1_method_10_code, 2, (some .boolean), 7, 123, [])
def M_X9_undo : am_M := (yX9_undo, prog_1_method_57_code, 1, (some .int), 7, 123, [])
def M_X9_weightAt : am_M := (yX9_weightAt, prog_1_method_21_code, 3, (some .int), 7, 120, [])
def M_X9_weightByCounting : am_M := (yX9_weightByCounting, prog_1_method_22_code, 3, (some .int), 7, 120, [])
def M_X9_whyBest : am_M := (yX9_whyBest, prog_1_method_33_code, 2, (some .int), 7, 125, [])
def M_L_add : am_M := (yL_add, method_3_code, 4, (some .int), 8, 144, [(0, 9, 12, 13), (0, 9, 15, 15)])
def M_L_append : am_M := (yL_append, method_37_code, 4, (some .int), 8, 141, [(0, 9, 12, 13), (0, 9, 15, 15)])
def M_L_bestFirst : am_M := (yL_bestFirst, method_21_code, 4, (some .int), 8, 156, [(0, 9, 12, 13)])
def M_L_bestKind : am_M := (yL_bestKind, method_24_code, 4, (some .int), 8, 146, [(0, 9, 12, 25)])
def M_L_bestParameter : am_M := (yL_bestParameter, method_23_code, 5, (some .int), 8, 147, [(0, 10, 13, 25), (0, 10, 17, 13)])
def M_L_bitsIfOnly : am_M := (yL_bitsIfOnly, method_27_code, 4, (some .int), 8, 146, [(0, 9, 12, 13)])
def M_L_bitsWith : am_M := (yL_bitsWith, method_22_code, 6, (some .int), 8, 143, [(0, 12, 15, 25), (0, 12, 19, 13)])
def M_L_blocksWith : am_M := (yL_blocksWith, method_26_code, 4, (some .int), 8, 146, [(0, 9, 12, 13)])
def M_L_change : am_M := (yL_change, method_5_code, 5, (some .int), 8, 146, [(0, 10, 13, 25), (0, 10, 17, 13)])
def M_L_doWorks : am_M := (yL_doWorks, method_38_code, 3, (some .int), 8, 169, [(0, 8, 11, 15)])
def M_L_drop : am_M := (yL_drop, method_6_code, 3, (some .int), 8, 143, [(0, 8, 11, 15)])
def M_L_echo : am_M := (yL_echo, method_4_code, 6, (some .int), 8, 147, [(0, 12, 15, 13), (0, 12, 19, 15)])
def M_L_firstWeight : am_M := (yL_firstWeight, method_14_code, 4, (some .int), 8, 141, [(0, 9, 12, 13)])
def M_L_foretold : am_M := (yL_foretold, method_17_code, 5, (some .int), 8, 142, [(0, 10, 13, 25), (0, 10, 17, 13)])
def M_L_goBack : am_M := (yL_goBack, method_36_code, 4, (some .int), 8, 145, [(0, 9, 12, 25), (0, 9, 15, 15)])
def M_L_harm : am_M := (yL_harm, method_34_code, 4, (some .int), 8, 141, [(0, 9, 12, 25)])
def M_L_heard : am_M := (yL_heard, method_32_code, 4, (some .int), 8, 141, [(0, 9, 12, 25)])
def M_L_heardByBits : am_M := (yL_heardByBits, method_33_code, 4, (some .int), 8, 141, [(0, 9, 12, 25)])
def M_L_keep : am_M := (yL_keep, method_35_code, 4, (some .int), 8, 145, [(0, 9, 12, 25)])
def M_L_leftOver : am_M := (yL_leftOver, method_18_code, 5, (some .int), 8, 142, [(0, 10, 13, 25), (0, 10, 17, 13)])
def M_L_letterBit : am_M := (yL_letterBit, method_31_code, 4, (some .int), 8, 141, [(0, 16, 19, 25)])
def M_L_letterKind : am_M := (yL_letterKind, method_28_code, 4, (some .int), 8, 141, [(0, 9, 12, 25)])
def M_L_letterLeft : am_M := (yL_letterLeft, method_30_code, 4, (some .int), 8, 141, [(0, 9, 12, 25)])
def M_L_letterParameter : am_M := (yL_letterParameter, method_29_code, 4, (some .int), 8, 141, [(0, 9, 12, 25)])
def M_L_sampleAt : am_M := (yL_sampleAt, method_13_code, 4, (some .int), 8, 141, [(0, 9, 12, 25)])
def M_L_send : am_M := (yL_send, method_11_code, 3, (some .int), 8, 148, [(0, 8, 11, 15)])
def M_L_setDelay : am_M := (yL_setDelay, method_7_code, 4, (some .int), 8, 145, [(0, 9, 12, 13)])
def M_L_setSpeed : am_M := (yL_setSpeed, method_8_code, 4, (some .int), 8, 145, [(0, 9, 12, 13)])
def M_L_setWeight : am_M := (yL_setWeight, method_9_code, 5, (some .int), 8, 146, [(0, 10, 13, 13)])
def M_L_sumOf : am_M := (yL_sumOf, method_19_code, 4, (some .int), 8, 152, [(0, 9, 12, 13)])
def M_L_sumWithDelay : am_M := (yL_sumWithDelay, method_20_code, 4, (some .int), 8, 141, [(0, 9, 12, 13)])
def M_L_tamper : am_M := (yL_tamper, method_12_code, 5, (some .int), 8, 146, [(0, 10, 13, 25), (0, 10, 17, 13)])
def M_L_turnKind : am_M := (yL_turnKind, method_10_code, 4, (some .int), 8, 144, [(0, 16, 19, 13), (0, 16, 22, 15)])
def M_L_undo : am_M := (yL_undo, method_39_code, 3, (some .int), 8, 143, [(0, 8, 11, 15)])
def M_L_weightAt : am_M := (yL_weightAt, method_15_code, 5, (some .int), 8, 142, [(0, 10, 13, 25), (0, 10, 17, 13)])
def M_L_weightByCounting : am_M := (yL_weightByCounting, method_16_code, 5, (some .int), 8, 142, [(0, 10, 13, 25), (0, 10, 17, 13)])
def M_L_whyBest : am_M := (yL_whyBest, method_25_code, 4, (some .int), 8, 146, [(0, 9, 12, 25)])
def M_X10_bits : am_M := (yX10_bits, prog_12_method_93_code, 1, (some .int), 8, 189, [])
def M_X10_bitsByKinds : am_M := (yX10_bitsByKinds, prog_12_method_94_code, 1, (some .int), 8, 189, [])
def M_X10_blocksWith : am_M := (yX10_blocksWith, prog_12_method_95_code, 2, (some .int), 8, 190, [])
def M_X10_does : am_M := (yX10_does, prog_12_method_117_code, 4, none, 8, 190, [])
def M_X10_send : am_M := (yX10_send, prog_12_method_52_code, 1, (some .int), 8, 190, [])
def M_X10_soundOn : am_M := (yX10_soundOn, prog_12_method_120_code, 7, (some .long), 8, 193, [])
def M_X10_whyBest : am_M := (yX10_whyBest, prog_12_method_92_code, 2, (some .int), 8, 193, [])
def M_X10_digest : am_M := (yX10_digest, prog_12_method_122_code, 3, (some .long), 9, 219, [])
def M_X10_doWorks : am_M := (yX10_doWorks, prog_12_method_118_code, 2, (some .int), 9, 213, [])
def M_L_law : am_M := (yL_law, code, 9, (some .boolean), 12, 484, [])
theorem am_sub (ws : List Cond) (n : Nat) (h : (ws.all goodWord && ws.isSublist (lw_tbl.drop n)) = true) : ∀ w ∈ ws, w ∈ am_GT := by
  intro w hw
  simp only [Bool.and_eq_true, List.all_eq_true] at h
  exact List.mem_filter.mpr ⟨List.mem_of_mem_drop ((List.isSublist_iff_sublist.mp h.2).subset hw), h.1 w hw⟩
def wc_0 : List Cond := [Cond.selects "CaveEchoes" yX9_hashOfAll yX9_hashOfAll, Cond.selects "CaveEchoes" yX9_hashOfKinds yX9_hashOfKinds, Cond.selects "CaveEchoes" yX9_hashOfSamples yX9_hashOfSamples, Cond.selects "CaveEchoes" yX9_hashOfBlocks yX9_hashOfBlocks, Cond.selects "CaveEchoes" yX9_hashOfLetter yX9_hashOfLetter, Cond.selects "CaveEchoes" yX9_writeLetter yX9_writeLetter, Cond.selects "CaveEchoes" yX9_isTold yX9_isTold, Cond.selects "CaveEchoes" yX9_isBlock yX9_isBlock, Cond.selects "CaveEchoes" yX9_doWork yX9_doWork, Cond.selects "CaveEchoes" yX9_addIfPossible yX9_addIfPossible, Cond.selects "CaveEchoes" yX9_turnIfPossible yX9_turnIfPossible, Cond.selects "CaveEchoes" yX9_tamperIfPossible yX9_tamperIfPossible, Cond.selects "CaveEchoes" yX9_setFirst yX9_setFirst, Cond.selects "CaveEchoesModel" yX10_asks yX10_asks, Cond.selects "CaveEchoesModel" yX10_asksThen yX10_asksThen, Cond.selects "CaveEchoesModel" yX10_record yX10_record, Cond.selects "CaveEchoesModel" yX10_adds yX10_adds, Cond.selects "CaveEchoesModel" yX10_isSample yX10_isSample, Cond.selects "CaveEchoesModel" yX10_says yX10_says, Cond.selects "CaveEchoesModel" yX10_sets yX10_sets, Cond.selects "CaveEchoesModel" yX10_canTurn yX10_canTurn, Cond.selects "CaveEchoesModel" yX10_isAllowed yX10_isAllowed, Cond.selects "CaveEchoesModel" yX10_sends yX10_sends, Cond.selects "CaveEchoesModel" yX10_kindFor yX10_kindFor, Cond.selects "CaveEchoesModel" yX10_fewest yX10_fewest, Cond.selects "CaveEchoesModel" yX10_leavesBy yX10_leavesBy, Cond.selects "CaveEchoesModel" yX10_begins yX10_begins, Cond.selects "CaveEchoesModel" yX10_leaves yX10_leaves, Cond.selects "CaveEchoesModel" yX10_foretell yX10_foretell, Cond.selects "CaveEchoesModel" yX10_adapts yX10_adapts]
theorem wc_0_ok : ∀ w ∈ wc_0, w ∈ am_GT := am_sub wc_0 0 (by decide +kernel)
theorem w_0 : Cond.selects "CaveEchoes" yX9_hashOfAll yX9_hashOfAll ∈ am_GT := wc_0_ok _ (List.mem_of_getElem? (i := 0) rfl)
theorem w_1 : Cond.selects "CaveEchoes" yX9_hashOfKinds yX9_hashOfKinds ∈ am_GT := wc_0_ok _ (List.mem_of_getElem? (i := 1) rfl)
theorem w_2 : Cond.selects "CaveEchoes" yX9_hashOfSamples yX9_hashOfSamples ∈ am_GT := wc_0_ok _ (List.mem_of_getElem? (i := 2) rfl)
theorem w_3 : Cond.selects "CaveEchoes" yX9_hashOfBlocks yX9_hashOfBlocks ∈ am_GT := wc_0_ok _ (List.mem_of_getElem? (i := 3) rfl)
theorem w_4 : Cond.selects "CaveEchoes" yX9_hashOfLetter yX9_hashOfLetter ∈ am_GT := wc_0_ok _ (List.mem_of_getElem? (i := 4) rfl)
theorem w_6 : Cond.selects "CaveEchoes" yX9_writeLetter yX9_writeLetter ∈ am_GT := wc_0_ok _ (List.mem_of_getElem? (i := 5) rfl)
theorem w_7 : Cond.selects "CaveEchoes" yX9_isTold yX9_isTold ∈ am_GT := wc_0_ok _ (List.mem_of_getElem? (i := 6) rfl)
theorem w_8 : Cond.selects "CaveEchoes" yX9_isBlock yX9_isBlock ∈ am_GT := wc_0_ok _ (List.mem_of_getElem? (i := 7) rfl)
theorem w_9 : Cond.selects "CaveEchoes" yX9_doWork yX9_doWork ∈ am_GT := wc_0_ok _ (List.mem_of_getElem? (i := 8) rfl)
theorem w_10 : Cond.selects "CaveEchoes" yX9_addIfPossible yX9_addIfPossible ∈ am_GT := wc_0_ok _ (List.mem_of_getElem? (i := 9) rfl)
theorem w_11 : Cond.selects "CaveEchoes" yX9_turnIfPossible yX9_turnIfPossible ∈ am_GT := wc_0_ok _ (List.mem_of_getElem? (i := 10) rfl)
theorem w_12 : Cond.selects "CaveEchoes" yX9_tamperIfPossible yX9_tamperIfPossible ∈ am_GT := wc_0_ok _ (List.mem_of_getElem? (i := 11) rfl)
theorem w_13 : Cond.selects "CaveEchoes" yX9_setFirst yX9_setFirst ∈ am_GT := wc_0_ok _ (List.mem_of_getElem? (i := 12) rfl)
theorem w_14 : Cond.selects "CaveEchoesModel" yX10_asks yX10_asks ∈ am_GT := wc_0_ok _ (List.mem_of_getElem? (i := 13) rfl)
theorem w_15 : Cond.selects "CaveEchoesModel" yX10_asksThen yX10_asksThen ∈ am_GT := wc_0_ok _ (List.mem_of_getElem? (i := 14) rfl)
theorem w_16 : Cond.selects "CaveEchoesModel" yX10_record yX10_record ∈ am_GT := wc_0_ok _ (List.mem_of_getElem? (i := 15) rfl)
theorem w_17 : Cond.selects "CaveEchoesModel" yX10_adds yX10_adds ∈ am_GT := wc_0_ok _ (List.mem_of_getElem? (i := 16) rfl)
theorem w_18 : Cond.selects "CaveEchoesModel" yX10_isSample yX10_isSample ∈ am_GT := wc_0_ok _ (List.mem_of_getElem? (i := 17) rfl)
theorem w_19 : Cond.selects "CaveEchoesModel" yX10_says yX10_says ∈ am_GT := wc_0_ok _ (List.mem_of_getElem? (i := 18) rfl)
theorem w_20 : Cond.selects "CaveEchoesModel" yX10_sets yX10_sets ∈ am_GT := wc_0_ok _ (List.mem_of_getElem? (i := 19) rfl)
theorem w_21 : Cond.selects "CaveEchoesModel" yX10_canTurn yX10_canTurn ∈ am_GT := wc_0_ok _ (List.mem_of_getElem? (i := 20) rfl)
theorem w_22 : Cond.selects "CaveEchoesModel" yX10_isAllowed yX10_isAllowed ∈ am_GT := wc_0_ok _ (List.mem_of_getElem? (i := 21) rfl)
theorem w_23 : Cond.selects "CaveEchoesModel" yX10_sends yX10_sends ∈ am_GT := wc_0_ok _ (List.mem_of_getElem? (i := 22) rfl)
theorem w_24 : Cond.selects "CaveEchoesModel" yX10_kindFor yX10_kindFor ∈ am_GT := wc_0_ok _ (List.mem_of_getElem? (i := 23) rfl)
theorem w_25 : Cond.selects "CaveEchoesModel" yX10_fewest yX10_fewest ∈ am_GT := wc_0_ok _ (List.mem_of_getElem? (i := 24) rfl)
theorem w_26 : Cond.selects "CaveEchoesModel" yX10_leavesBy yX10_leavesBy ∈ am_GT := wc_0_ok _ (List.mem_of_getElem? (i := 25) rfl)
theorem w_27 : Cond.selects "CaveEchoesModel" yX10_begins yX10_begins ∈ am_GT := wc_0_ok _ (List.mem_of_getElem? (i := 26) rfl)
theorem w_28 : Cond.selects "CaveEchoesModel" yX10_leaves yX10_leaves ∈ am_GT := wc_0_ok _ (List.mem_of_getElem? (i := 27) rfl)
theorem w_29 : Cond.selects "CaveEchoesModel" yX10_foretell yX10_foretell ∈ am_GT := wc_0_ok _ (List.mem_of_getElem? (i := 28) rfl)
theorem w_30 : Cond.selects "CaveEchoesModel" yX10_adapts yX10_adapts ∈ am_GT := wc_0_ok _ (List.mem_of_getElem? (i := 29) rfl)
def wc_1 : List Cond := [Cond.selects "CaveEchoesModel" yX10_parameterFor yX10_parameterFor, Cond.selects "CaveEchoesModel" yX10_blockBits yX10_blockBits, Cond.selects "CaveEchoesModel" yX10_letterLength yX10_letterLength, Cond.selects "CaveEchoesModel" yX10_isTold yX10_isTold, Cond.selects "CaveEchoesModel" yX10_heardOf yX10_heardOf, Cond.selects "CaveEchoesModel" yX10_hears yX10_hears, Cond.selects "CaveEchoesModel" yX10_firstOther yX10_firstOther, Cond.selects "CaveEchoesModel" yX10_mostHarm yX10_mostHarm, Cond.selects "CaveEchoesModel" yX10_mean yX10_mean, Cond.selects "CaveEchoesModel" yX10_weightAsked yX10_weightAsked, Cond.selects "CaveEchoesModel" yX10_weightsAhead yX10_weightsAhead, Cond.selects "CaveEchoesModel" yX10_foretoldOf yX10_foretoldOf, Cond.selects "CaveEchoesModel" yX10_sumBehind yX10_sumBehind, Cond.selects "CaveEchoesModel" yX10_delayFor yX10_delayFor, Cond.selects "CaveEchoesModel" yX10_speedFor yX10_speedFor, Cond.selects "CaveEchoesModel" yX10_firstFor yX10_firstFor, Cond.selects "CaveEchoesModel" yX10_isBlock yX10_isBlock, Cond.selects "CaveEchoesModel" yX10_parameterBy yX10_parameterBy, Cond.selects "CaveEchoesModel" yX10_whyFor yX10_whyFor, Cond.selects "CaveEchoesModel" yX10_allBits yX10_allBits, Cond.selects "CaveEchoesModel" yX10_blocksBy yX10_blocksBy, Cond.selects "CaveEchoesModel" yX10_bitsOnly yX10_bitsOnly, Cond.selects "CaveEchoesModel" yX10_isLetterBlock yX10_isLetterBlock, Cond.selects "CaveEchoesModel" yX10_bitAt yX10_bitAt, Cond.selects "CaveEchoesModel" yX10_tells yX10_tells, Cond.selects "CaveEchoesModel" yX10_readWork yX10_readWork, Cond.selects "CaveEchoesModel" yX10_sign yX10_sign, Cond.selects "CaveEchoesModel" yX10_needs yX10_needs, Cond.selects "CaveEchoesModel" yX10_number yX10_number, Cond.selects "CaveEchoesModel" yX10_digit yX10_digit]
theorem wc_1_ok : ∀ w ∈ wc_1, w ∈ am_GT := am_sub wc_1 31 (by decide +kernel)
theorem w_31 : Cond.selects "CaveEchoesModel" yX10_parameterFor yX10_parameterFor ∈ am_GT := wc_1_ok _ (List.mem_of_getElem? (i := 0) rfl)
theorem w_32 : Cond.selects "CaveEchoesModel" yX10_blockBits yX10_blockBits ∈ am_GT := wc_1_ok _ (List.mem_of_getElem? (i := 1) rfl)
theorem w_33 : Cond.selects "CaveEchoesModel" yX10_letterLength yX10_letterLength ∈ am_GT := wc_1_ok _ (List.mem_of_getElem? (i := 2) rfl)
theorem w_34 : Cond.selects "CaveEchoesModel" yX10_isTold yX10_isTold ∈ am_GT := wc_1_ok _ (List.mem_of_getElem? (i := 3) rfl)
theorem w_35 : Cond.selects "CaveEchoesModel" yX10_heardOf yX10_heardOf ∈ am_GT := wc_1_ok _ (List.mem_of_getElem? (i := 4) rfl)
theorem w_36 : Cond.selects "CaveEchoesModel" yX10_hears yX10_hears ∈ am_GT := wc_1_ok _ (List.mem_of_getElem? (i := 5) rfl)
theorem w_37 : Cond.selects "CaveEchoesModel" yX10_firstOther yX10_firstOther ∈ am_GT := wc_1_ok _ (List.mem_of_getElem? (i := 6) rfl)
theorem w_38 : Cond.selects "CaveEchoesModel" yX10_mostHarm yX10_mostHarm ∈ am_GT := wc_1_ok _ (List.mem_of_getElem? (i := 7) rfl)
theorem w_39 : Cond.selects "CaveEchoesModel" yX10_mean yX10_mean ∈ am_GT := wc_1_ok _ (List.mem_of_getElem? (i := 8) rfl)
theorem w_40 : Cond.selects "CaveEchoesModel" yX10_weightAsked yX10_weightAsked ∈ am_GT := wc_1_ok _ (List.mem_of_getElem? (i := 9) rfl)
theorem w_41 : Cond.selects "CaveEchoesModel" yX10_weightsAhead yX10_weightsAhead ∈ am_GT := wc_1_ok _ (List.mem_of_getElem? (i := 10) rfl)
theorem w_42 : Cond.selects "CaveEchoesModel" yX10_foretoldOf yX10_foretoldOf ∈ am_GT := wc_1_ok _ (List.mem_of_getElem? (i := 11) rfl)
theorem w_43 : Cond.selects "CaveEchoesModel" yX10_sumBehind yX10_sumBehind ∈ am_GT := wc_1_ok _ (List.mem_of_getElem? (i := 12) rfl)
theorem w_44 : Cond.selects "CaveEchoesModel" yX10_delayFor yX10_delayFor ∈ am_GT := wc_1_ok _ (List.mem_of_getElem? (i := 13) rfl)
theorem w_45 : Cond.selects "CaveEchoesModel" yX10_speedFor yX10_speedFor ∈ am_GT := wc_1_ok _ (List.mem_of_getElem? (i := 14) rfl)
theorem w_46 : Cond.selects "CaveEchoesModel" yX10_firstFor yX10_firstFor ∈ am_GT := wc_1_ok _ (List.mem_of_getElem? (i := 15) rfl)
theorem w_47 : Cond.selects "CaveEchoesModel" yX10_isBlock yX10_isBlock ∈ am_GT := wc_1_ok _ (List.mem_of_getElem? (i := 16) rfl)
theorem w_48 : Cond.selects "CaveEchoesModel" yX10_parameterBy yX10_parameterBy ∈ am_GT := wc_1_ok _ (List.mem_of_getElem? (i := 17) rfl)
theorem w_49 : Cond.selects "CaveEchoesModel" yX10_whyFor yX10_whyFor ∈ am_GT := wc_1_ok _ (List.mem_of_getElem? (i := 18) rfl)
theorem w_50 : Cond.selects "CaveEchoesModel" yX10_allBits yX10_allBits ∈ am_GT := wc_1_ok _ (List.mem_of_getElem? (i := 19) rfl)
theorem w_51 : Cond.selects "CaveEchoesModel" yX10_blocksBy yX10_blocksBy ∈ am_GT := wc_1_ok _ (List.mem_of_getElem? (i := 20) rfl)
theorem w_52 : Cond.selects "CaveEchoesModel" yX10_bitsOnly yX10_bitsOnly ∈ am_GT := wc_1_ok _ (List.mem_of_getElem? (i := 21) rfl)
theorem w_53 : Cond.selects "CaveEchoesModel" yX10_isLetterBlock yX10_isLetterBlock ∈ am_GT := wc_1_ok _ (List.mem_of_getElem? (i := 22) rfl)
theorem w_54 : Cond.selects "CaveEchoesModel" yX10_bitAt yX10_bitAt ∈ am_GT := wc_1_ok _ (List.mem_of_getElem? (i := 23) rfl)
theorem w_55 : Cond.selects "CaveEchoesModel" yX10_tells yX10_tells ∈ am_GT := wc_1_ok _ (List.mem_of_getElem? (i := 24) rfl)
theorem w_56 : Cond.selects "CaveEchoesModel" yX10_readWork yX10_readWork ∈ am_GT := wc_1_ok _ (List.mem_of_getElem? (i := 25) rfl)
theorem w_57 : Cond.selects "CaveEchoesModel" yX10_sign yX10_sign ∈ am_GT := wc_1_ok _ (List.mem_of_getElem? (i := 26) rfl)
theorem w_58 : Cond.selects "CaveEchoesModel" yX10_needs yX10_needs ∈ am_GT := wc_1_ok _ (List.mem_of_getElem? (i := 27) rfl)
theorem w_59 : Cond.selects "CaveEchoesModel" yX10_number yX10_number ∈ am_GT := wc_1_ok _ (List.mem_of_getElem? (i := 28) rfl)
theorem w_60 : Cond.selects "CaveEchoesModel" yX10_digit yX10_digit ∈ am_GT := wc_1_ok _ (List.mem_of_getElem? (i := 29) rfl)
def wc_2 : List Cond := [Cond.selects "CaveEchoesModel" yX10_signed yX10_signed, Cond.selects "CaveEchoesModel" yX10_isPossible yX10_isPossible, Cond.selects "CaveEchoesModel" yX10_does yX10_does, Cond.selects "CaveEchoesModel" yX10_soundOn yX10_soundOn, Cond.selects "CaveEchoesModel" yX10_letterOn yX10_letterOn, Cond.initialized "CaveEchoes", Cond.initialized "CaveEchoes$Study", Cond.initialized "CaveEchoes$State", Cond.initialized "CaveEchoes$Letter", Cond.initialized "CaveEchoes$Foreteller", Cond.initialized "CaveEchoes$History", Cond.initialized "CaveEchoes$Snapshots", Cond.initialized "CaveEchoes$Works", Cond.initialized "CaveEchoes$Reader", Cond.initialized "CaveEchoes$Paper", Cond.initialized "CaveEchoesModel", Cond.initialized "java/lang/Math", Cond.initialized "java/lang/Double", Cond.code yX9_init prog_1_method_1_code 1 none, Cond.code yX7_init prog_9_method_1_code 1 none, Cond.code yX6_init prog_8_method_1_code 1 none, Cond.code yX2_init prog_4_method_1_code 1 none, Cond.fieldLink "CaveEchoes$Letter" 9 "CaveEchoes$Letter" "first" "[I", Cond.fieldLink "CaveEchoes$Reader" 27 "CaveEchoes$Letter" "first" "[I", Cond.fieldLink "CaveEchoes" 321 "CaveEchoes$Letter" "first" "[I", Cond.fieldLink "CaveEchoes$Letter" 15 "CaveEchoes$Letter" "kinds" "[I", Cond.fieldLink "CaveEchoes$Paper" 27 "CaveEchoes$Letter" "kinds" "[I", Cond.fieldLink "CaveEchoes$Reader" 41 "CaveEchoes$Letter" "kinds" "[I", Cond.fieldLink "CaveEchoes" 217 "CaveEchoes$Letter" "kinds" "[I", Cond.fieldLink "CaveEchoes$Letter" 18 "CaveEchoes$Letter" "parameters" "[I"]
theorem wc_2_ok : ∀ w ∈ wc_2, w ∈ am_GT := am_sub wc_2 61 (by decide +kernel)
theorem w_61 : Cond.selects "CaveEchoesModel" yX10_signed yX10_signed ∈ am_GT := wc_2_ok _ (List.mem_of_getElem? (i := 0) rfl)
theorem w_62 : Cond.selects "CaveEchoesModel" yX10_isPossible yX10_isPossible ∈ am_GT := wc_2_ok _ (List.mem_of_getElem? (i := 1) rfl)
theorem w_63 : Cond.selects "CaveEchoesModel" yX10_does yX10_does ∈ am_GT := wc_2_ok _ (List.mem_of_getElem? (i := 2) rfl)
theorem w_64 : Cond.selects "CaveEchoesModel" yX10_soundOn yX10_soundOn ∈ am_GT := wc_2_ok _ (List.mem_of_getElem? (i := 3) rfl)
theorem w_65 : Cond.selects "CaveEchoesModel" yX10_letterOn yX10_letterOn ∈ am_GT := wc_2_ok _ (List.mem_of_getElem? (i := 4) rfl)
theorem w_67 : Cond.initialized "CaveEchoes" ∈ am_GT := wc_2_ok _ (List.mem_of_getElem? (i := 5) rfl)
theorem w_68 : Cond.initialized "CaveEchoes$Study" ∈ am_GT := wc_2_ok _ (List.mem_of_getElem? (i := 6) rfl)
theorem w_69 : Cond.initialized "CaveEchoes$State" ∈ am_GT := wc_2_ok _ (List.mem_of_getElem? (i := 7) rfl)
theorem w_70 : Cond.initialized "CaveEchoes$Letter" ∈ am_GT := wc_2_ok _ (List.mem_of_getElem? (i := 8) rfl)
theorem w_71 : Cond.initialized "CaveEchoes$Foreteller" ∈ am_GT := wc_2_ok _ (List.mem_of_getElem? (i := 9) rfl)
theorem w_72 : Cond.initialized "CaveEchoes$History" ∈ am_GT := wc_2_ok _ (List.mem_of_getElem? (i := 10) rfl)
theorem w_73 : Cond.initialized "CaveEchoes$Snapshots" ∈ am_GT := wc_2_ok _ (List.mem_of_getElem? (i := 11) rfl)
theorem w_74 : Cond.initialized "CaveEchoes$Works" ∈ am_GT := wc_2_ok _ (List.mem_of_getElem? (i := 12) rfl)
theorem w_75 : Cond.initialized "CaveEchoes$Reader" ∈ am_GT := wc_2_ok _ (List.mem_of_getElem? (i := 13) rfl)
theorem w_76 : Cond.initialized "CaveEchoes$Paper" ∈ am_GT := wc_2_ok _ (List.mem_of_getElem? (i := 14) rfl)
theorem w_77 : Cond.initialized "CaveEchoesModel" ∈ am_GT := wc_2_ok _ (List.mem_of_getElem? (i := 15) rfl)
theorem w_84 : Cond.initialized "java/lang/Math" ∈ am_GT := wc_2_ok _ (List.mem_of_getElem? (i := 16) rfl)
theorem w_86 : Cond.initialized "java/lang/Double" ∈ am_GT := wc_2_ok _ (List.mem_of_getElem? (i := 17) rfl)
theorem w_91 : Cond.code yX9_init prog_1_method_1_code 1 none ∈ am_GT := wc_2_ok _ (List.mem_of_getElem? (i := 18) rfl)
theorem w_99 : Cond.code yX7_init prog_9_method_1_code 1 none ∈ am_GT := wc_2_ok _ (List.mem_of_getElem? (i := 19) rfl)
theorem w_105 : Cond.code yX6_init prog_8_method_1_code 1 none ∈ am_GT := wc_2_ok _ (List.mem_of_getElem? (i := 20) rfl)
theorem w_111 : Cond.code yX2_init prog_4_method_1_code 1 none ∈ am_GT := wc_2_ok _ (List.mem_of_getElem? (i := 21) rfl)
theorem w_113 : Cond.fieldLink "CaveEchoes$Letter" 9 "CaveEchoes$Letter" "first" "[I" ∈ am_GT := wc_2_ok _ (List.mem_of_getElem? (i := 22) rfl)
theorem w_114 : Cond.fieldLink "CaveEchoes$Reader" 27 "CaveEchoes$Letter" "first" "[I" ∈ am_GT := wc_2_ok _ (List.mem_of_getElem? (i := 23) rfl)
theorem w_115 : Cond.fieldLink "CaveEchoes" 321 "CaveEchoes$Letter" "first" "[I" ∈ am_GT := wc_2_ok _ (List.mem_of_getElem? (i := 24) rfl)
theorem w_116 : Cond.fieldLink "CaveEchoes$Letter" 15 "CaveEchoes$Letter" "kinds" "[I" ∈ am_GT := wc_2_ok _ (List.mem_of_getElem? (i := 25) rfl)
theorem w_117 : Cond.fieldLink "CaveEchoes$Paper" 27 "CaveEchoes$Letter" "kinds" "[I" ∈ am_GT := wc_2_ok _ (List.mem_of_getElem? (i := 26) rfl)
theorem w_118 : Cond.fieldLink "CaveEchoes$Reader" 41 "CaveEchoes$Letter" "kinds" "[I" ∈ am_GT := wc_2_ok _ (List.mem_of_getElem? (i := 27) rfl)
theorem w_119 : Cond.fieldLink "CaveEchoes" 217 "CaveEchoes$Letter" "kinds" "[I" ∈ am_GT := wc_2_ok _ (List.mem_of_getElem? (i := 28) rfl)
theorem w_120 : Cond.fieldLink "CaveEchoes$Letter" 18 "CaveEchoes$Letter" "parameters" "[I" ∈ am_GT := wc_2_ok _ (List.mem_of_getElem? (i := 29) rfl)
def wc_3 : List Cond := [Cond.fieldLink "CaveEchoes$Paper" 35 "CaveEchoes$Letter" "parameters" "[I", Cond.fieldLink "CaveEchoes" 220 "CaveEchoes$Letter" "parameters" "[I", Cond.fieldLink "CaveEchoes$Letter" 21 "CaveEchoes$Letter" "lefts" "[I", Cond.fieldLink "CaveEchoes$Reader" 38 "CaveEchoes$Letter" "lefts" "[I", Cond.fieldLink "CaveEchoes$Paper" 38 "CaveEchoes$Letter" "lefts" "[I", Cond.fieldLink "CaveEchoes" 142 "CaveEchoes$Letter" "lefts" "[I", Cond.fieldLink "CaveEchoes$Letter" 24 "CaveEchoes$Letter" "sound" "[I", Cond.fieldLink "CaveEchoes$Reader" 76 "CaveEchoes$Letter" "sound" "[I", Cond.fieldLink "CaveEchoes" 328 "CaveEchoes$Letter" "sound" "[I", Cond.fieldLink "CaveEchoes$Letter" 27 "CaveEchoes$Letter" "count" "I", Cond.fieldLink "CaveEchoes$Paper" 22 "CaveEchoes$Letter" "count" "I", Cond.fieldLink "CaveEchoes$Reader" 35 "CaveEchoes$Letter" "count" "I", Cond.fieldLink "CaveEchoes" 216 "CaveEchoes$Letter" "count" "I", Cond.fieldLink "CaveEchoes$Letter" 31 "CaveEchoes$Letter" "delay" "I", Cond.fieldLink "CaveEchoes$Reader" 18 "CaveEchoes$Letter" "delay" "I", Cond.fieldLink "CaveEchoes" 319 "CaveEchoes$Letter" "delay" "I", Cond.fieldLink "CaveEchoes$Letter" 34 "CaveEchoes$Letter" "speed" "I", Cond.fieldLink "CaveEchoes$Reader" 24 "CaveEchoes$Letter" "speed" "I", Cond.fieldLink "CaveEchoes" 320 "CaveEchoes$Letter" "speed" "I", Cond.fieldLink "CaveEchoes$State" 9 "CaveEchoes$State" "sound" "[I", Cond.fieldLink "CaveEchoes$Study" 73 "CaveEchoes$State" "sound" "[I", Cond.fieldLink "CaveEchoes" 100 "CaveEchoes$State" "sound" "[I", Cond.fieldLink "CaveEchoes$State" 15 "CaveEchoes$State" "first" "[I", Cond.fieldLink "CaveEchoes$Study" 50 "CaveEchoes$State" "first" "[I", Cond.fieldLink "CaveEchoes" 110 "CaveEchoes$State" "first" "[I", Cond.fieldLink "CaveEchoes$State" 21 "CaveEchoes$State" "letter" "LCaveEchoes$Letter;", Cond.fieldLink "CaveEchoes" 129 "CaveEchoes$State" "letter" "LCaveEchoes$Letter;", Cond.fieldLink "CaveEchoes$State" 25 "CaveEchoes$State" "count" "I", Cond.fieldLink "CaveEchoes$Study" 57 "CaveEchoes$State" "count" "I", Cond.fieldLink "CaveEchoes" 83 "CaveEchoes$State" "count" "I"]
theorem wc_3_ok : ∀ w ∈ wc_3, w ∈ am_GT := am_sub wc_3 121 (by decide +kernel)
theorem w_121 : Cond.fieldLink "CaveEchoes$Paper" 35 "CaveEchoes$Letter" "parameters" "[I" ∈ am_GT := wc_3_ok _ (List.mem_of_getElem? (i := 0) rfl)
theorem w_122 : Cond.fieldLink "CaveEchoes" 220 "CaveEchoes$Letter" "parameters" "[I" ∈ am_GT := wc_3_ok _ (List.mem_of_getElem? (i := 1) rfl)
theorem w_123 : Cond.fieldLink "CaveEchoes$Letter" 21 "CaveEchoes$Letter" "lefts" "[I" ∈ am_GT := wc_3_ok _ (List.mem_of_getElem? (i := 2) rfl)
theorem w_124 : Cond.fieldLink "CaveEchoes$Reader" 38 "CaveEchoes$Letter" "lefts" "[I" ∈ am_GT := wc_3_ok _ (List.mem_of_getElem? (i := 3) rfl)
theorem w_125 : Cond.fieldLink "CaveEchoes$Paper" 38 "CaveEchoes$Letter" "lefts" "[I" ∈ am_GT := wc_3_ok _ (List.mem_of_getElem? (i := 4) rfl)
theorem w_126 : Cond.fieldLink "CaveEchoes" 142 "CaveEchoes$Letter" "lefts" "[I" ∈ am_GT := wc_3_ok _ (List.mem_of_getElem? (i := 5) rfl)
theorem w_127 : Cond.fieldLink "CaveEchoes$Letter" 24 "CaveEchoes$Letter" "sound" "[I" ∈ am_GT := wc_3_ok _ (List.mem_of_getElem? (i := 6) rfl)
theorem w_128 : Cond.fieldLink "CaveEchoes$Reader" 76 "CaveEchoes$Letter" "sound" "[I" ∈ am_GT := wc_3_ok _ (List.mem_of_getElem? (i := 7) rfl)
theorem w_129 : Cond.fieldLink "CaveEchoes" 328 "CaveEchoes$Letter" "sound" "[I" ∈ am_GT := wc_3_ok _ (List.mem_of_getElem? (i := 8) rfl)
theorem w_130 : Cond.fieldLink "CaveEchoes$Letter" 27 "CaveEchoes$Letter" "count" "I" ∈ am_GT := wc_3_ok _ (List.mem_of_getElem? (i := 9) rfl)
theorem w_131 : Cond.fieldLink "CaveEchoes$Paper" 22 "CaveEchoes$Letter" "count" "I" ∈ am_GT := wc_3_ok _ (List.mem_of_getElem? (i := 10) rfl)
theorem w_132 : Cond.fieldLink "CaveEchoes$Reader" 35 "CaveEchoes$Letter" "count" "I" ∈ am_GT := wc_3_ok _ (List.mem_of_getElem? (i := 11) rfl)
theorem w_133 : Cond.fieldLink "CaveEchoes" 216 "CaveEchoes$Letter" "count" "I" ∈ am_GT := wc_3_ok _ (List.mem_of_getElem? (i := 12) rfl)
theorem w_134 : Cond.fieldLink "CaveEchoes$Letter" 31 "CaveEchoes$Letter" "delay" "I" ∈ am_GT := wc_3_ok _ (List.mem_of_getElem? (i := 13) rfl)
theorem w_135 : Cond.fieldLink "CaveEchoes$Reader" 18 "CaveEchoes$Letter" "delay" "I" ∈ am_GT := wc_3_ok _ (List.mem_of_getElem? (i := 14) rfl)
theorem w_136 : Cond.fieldLink "CaveEchoes" 319 "CaveEchoes$Letter" "delay" "I" ∈ am_GT := wc_3_ok _ (List.mem_of_getElem? (i := 15) rfl)
theorem w_137 : Cond.fieldLink "CaveEchoes$Letter" 34 "CaveEchoes$Letter" "speed" "I" ∈ am_GT := wc_3_ok _ (List.mem_of_getElem? (i := 16) rfl)
theorem w_138 : Cond.fieldLink "CaveEchoes$Reader" 24 "CaveEchoes$Letter" "speed" "I" ∈ am_GT := wc_3_ok _ (List.mem_of_getElem? (i := 17) rfl)
theorem w_139 : Cond.fieldLink "CaveEchoes" 320 "CaveEchoes$Letter" "speed" "I" ∈ am_GT := wc_3_ok _ (List.mem_of_getElem? (i := 18) rfl)
theorem w_158 : Cond.fieldLink "CaveEchoes$State" 9 "CaveEchoes$State" "sound" "[I" ∈ am_GT := wc_3_ok _ (List.mem_of_getElem? (i := 19) rfl)
theorem w_159 : Cond.fieldLink "CaveEchoes$Study" 73 "CaveEchoes$State" "sound" "[I" ∈ am_GT := wc_3_ok _ (List.mem_of_getElem? (i := 20) rfl)
theorem w_160 : Cond.fieldLink "CaveEchoes" 100 "CaveEchoes$State" "sound" "[I" ∈ am_GT := wc_3_ok _ (List.mem_of_getElem? (i := 21) rfl)
theorem w_161 : Cond.fieldLink "CaveEchoes$State" 15 "CaveEchoes$State" "first" "[I" ∈ am_GT := wc_3_ok _ (List.mem_of_getElem? (i := 22) rfl)
theorem w_162 : Cond.fieldLink "CaveEchoes$Study" 50 "CaveEchoes$State" "first" "[I" ∈ am_GT := wc_3_ok _ (List.mem_of_getElem? (i := 23) rfl)
theorem w_163 : Cond.fieldLink "CaveEchoes" 110 "CaveEchoes$State" "first" "[I" ∈ am_GT := wc_3_ok _ (List.mem_of_getElem? (i := 24) rfl)
theorem w_164 : Cond.fieldLink "CaveEchoes$State" 21 "CaveEchoes$State" "letter" "LCaveEchoes$Letter;" ∈ am_GT := wc_3_ok _ (List.mem_of_getElem? (i := 25) rfl)
theorem w_165 : Cond.fieldLink "CaveEchoes" 129 "CaveEchoes$State" "letter" "LCaveEchoes$Letter;" ∈ am_GT := wc_3_ok _ (List.mem_of_getElem? (i := 26) rfl)
theorem w_166 : Cond.fieldLink "CaveEchoes$State" 25 "CaveEchoes$State" "count" "I" ∈ am_GT := wc_3_ok _ (List.mem_of_getElem? (i := 27) rfl)
theorem w_167 : Cond.fieldLink "CaveEchoes$Study" 57 "CaveEchoes$State" "count" "I" ∈ am_GT := wc_3_ok _ (List.mem_of_getElem? (i := 28) rfl)
theorem w_168 : Cond.fieldLink "CaveEchoes" 83 "CaveEchoes$State" "count" "I" ∈ am_GT := wc_3_ok _ (List.mem_of_getElem? (i := 29) rfl)
def wc_4 : List Cond := [Cond.fieldLink "CaveEchoes$State" 29 "CaveEchoes$State" "delay" "I", Cond.fieldLink "CaveEchoes$Study" 43 "CaveEchoes$State" "delay" "I", Cond.fieldLink "CaveEchoes" 104 "CaveEchoes$State" "delay" "I", Cond.fieldLink "CaveEchoes$State" 32 "CaveEchoes$State" "speed" "I", Cond.fieldLink "CaveEchoes$Study" 47 "CaveEchoes$State" "speed" "I", Cond.fieldLink "CaveEchoes" 107 "CaveEchoes$State" "speed" "I", Cond.fieldLink "CaveEchoes$State" 35 "CaveEchoes$State" "allowedKinds" "I", Cond.fieldLink "CaveEchoes" 148 "CaveEchoes$State" "allowedKinds" "I", Cond.fieldLink "CaveEchoes$State" 38 "CaveEchoes$State" "lettersSent" "I", Cond.fieldLink "CaveEchoes" 247 "CaveEchoes$State" "lettersSent" "I", Cond.code yX0_init prog_2_method_1_code 1 none, Cond.fieldLink "CaveEchoes$Foreteller" 9 "CaveEchoes$Foreteller" "shown" "[I", Cond.fieldLink "CaveEchoes$Reader" 70 "CaveEchoes$Foreteller" "shown" "[I", Cond.fieldLink "CaveEchoes$Foreteller" 15 "CaveEchoes$Foreteller" "weights" "[I", Cond.fieldLink "CaveEchoes$Study" 64 "CaveEchoes$Foreteller" "weights" "[I", Cond.fieldLink "CaveEchoes$Foreteller" 18 "CaveEchoes$Foreteller" "count" "I", Cond.fieldLink "CaveEchoes$Reader" 69 "CaveEchoes$Foreteller" "count" "I", Cond.fieldLink "CaveEchoes$Foreteller" 22 "CaveEchoes$Foreteller" "delay" "I", Cond.fieldLink "CaveEchoes$Foreteller" 25 "CaveEchoes$Foreteller" "speed" "I", Cond.fieldLink "CaveEchoes$Foreteller" 28 "CaveEchoes$Foreteller" "weighed" "I", Cond.fieldLink "CaveEchoes$Study" 12 "CaveEchoes$Study" "state" "LCaveEchoes$State;", Cond.fieldLink "CaveEchoes$Study" 21 "CaveEchoes$Study" "foreteller" "LCaveEchoes$Foreteller;", Cond.fieldLink "CaveEchoes$Study" 25 "CaveEchoes$Study" "otherFirst" "[I", Cond.fieldLink "CaveEchoes$Study" 31 "CaveEchoes$Study" "foretellings" "[[I", Cond.fieldLink "CaveEchoes" 164 "CaveEchoes$Study" "foretellings" "[[I", Cond.fieldLink "CaveEchoes$Study" 34 "CaveEchoes$Study" "weights" "[[I", Cond.fieldLink "CaveEchoes" 157 "CaveEchoes$Study" "weights" "[[I", Cond.fieldLink "CaveEchoes$Study" 37 "CaveEchoes$Study" "parameters" "[[I", Cond.fieldLink "CaveEchoes" 195 "CaveEchoes$Study" "parameters" "[[I", Cond.fieldLink "CaveEchoes$Study" 40 "CaveEchoes$Study" "fewestBits" "[[I"]
theorem wc_4_ok : ∀ w ∈ wc_4, w ∈ am_GT := am_sub wc_4 169 (by decide +kernel)
theorem w_169 : Cond.fieldLink "CaveEchoes$State" 29 "CaveEchoes$State" "delay" "I" ∈ am_GT := wc_4_ok _ (List.mem_of_getElem? (i := 0) rfl)
theorem w_170 : Cond.fieldLink "CaveEchoes$Study" 43 "CaveEchoes$State" "delay" "I" ∈ am_GT := wc_4_ok _ (List.mem_of_getElem? (i := 1) rfl)
theorem w_171 : Cond.fieldLink "CaveEchoes" 104 "CaveEchoes$State" "delay" "I" ∈ am_GT := wc_4_ok _ (List.mem_of_getElem? (i := 2) rfl)
theorem w_172 : Cond.fieldLink "CaveEchoes$State" 32 "CaveEchoes$State" "speed" "I" ∈ am_GT := wc_4_ok _ (List.mem_of_getElem? (i := 3) rfl)
theorem w_173 : Cond.fieldLink "CaveEchoes$Study" 47 "CaveEchoes$State" "speed" "I" ∈ am_GT := wc_4_ok _ (List.mem_of_getElem? (i := 4) rfl)
theorem w_174 : Cond.fieldLink "CaveEchoes" 107 "CaveEchoes$State" "speed" "I" ∈ am_GT := wc_4_ok _ (List.mem_of_getElem? (i := 5) rfl)
theorem w_175 : Cond.fieldLink "CaveEchoes$State" 35 "CaveEchoes$State" "allowedKinds" "I" ∈ am_GT := wc_4_ok _ (List.mem_of_getElem? (i := 6) rfl)
theorem w_176 : Cond.fieldLink "CaveEchoes" 148 "CaveEchoes$State" "allowedKinds" "I" ∈ am_GT := wc_4_ok _ (List.mem_of_getElem? (i := 7) rfl)
theorem w_177 : Cond.fieldLink "CaveEchoes$State" 38 "CaveEchoes$State" "lettersSent" "I" ∈ am_GT := wc_4_ok _ (List.mem_of_getElem? (i := 8) rfl)
theorem w_178 : Cond.fieldLink "CaveEchoes" 247 "CaveEchoes$State" "lettersSent" "I" ∈ am_GT := wc_4_ok _ (List.mem_of_getElem? (i := 9) rfl)
theorem w_200 : Cond.code yX0_init prog_2_method_1_code 1 none ∈ am_GT := wc_4_ok _ (List.mem_of_getElem? (i := 10) rfl)
theorem w_202 : Cond.fieldLink "CaveEchoes$Foreteller" 9 "CaveEchoes$Foreteller" "shown" "[I" ∈ am_GT := wc_4_ok _ (List.mem_of_getElem? (i := 11) rfl)
theorem w_203 : Cond.fieldLink "CaveEchoes$Reader" 70 "CaveEchoes$Foreteller" "shown" "[I" ∈ am_GT := wc_4_ok _ (List.mem_of_getElem? (i := 12) rfl)
theorem w_204 : Cond.fieldLink "CaveEchoes$Foreteller" 15 "CaveEchoes$Foreteller" "weights" "[I" ∈ am_GT := wc_4_ok _ (List.mem_of_getElem? (i := 13) rfl)
theorem w_205 : Cond.fieldLink "CaveEchoes$Study" 64 "CaveEchoes$Foreteller" "weights" "[I" ∈ am_GT := wc_4_ok _ (List.mem_of_getElem? (i := 14) rfl)
theorem w_206 : Cond.fieldLink "CaveEchoes$Foreteller" 18 "CaveEchoes$Foreteller" "count" "I" ∈ am_GT := wc_4_ok _ (List.mem_of_getElem? (i := 15) rfl)
theorem w_207 : Cond.fieldLink "CaveEchoes$Reader" 69 "CaveEchoes$Foreteller" "count" "I" ∈ am_GT := wc_4_ok _ (List.mem_of_getElem? (i := 16) rfl)
theorem w_208 : Cond.fieldLink "CaveEchoes$Foreteller" 22 "CaveEchoes$Foreteller" "delay" "I" ∈ am_GT := wc_4_ok _ (List.mem_of_getElem? (i := 17) rfl)
theorem w_209 : Cond.fieldLink "CaveEchoes$Foreteller" 25 "CaveEchoes$Foreteller" "speed" "I" ∈ am_GT := wc_4_ok _ (List.mem_of_getElem? (i := 18) rfl)
theorem w_210 : Cond.fieldLink "CaveEchoes$Foreteller" 28 "CaveEchoes$Foreteller" "weighed" "I" ∈ am_GT := wc_4_ok _ (List.mem_of_getElem? (i := 19) rfl)
theorem w_226 : Cond.fieldLink "CaveEchoes$Study" 12 "CaveEchoes$Study" "state" "LCaveEchoes$State;" ∈ am_GT := wc_4_ok _ (List.mem_of_getElem? (i := 20) rfl)
theorem w_228 : Cond.fieldLink "CaveEchoes$Study" 21 "CaveEchoes$Study" "foreteller" "LCaveEchoes$Foreteller;" ∈ am_GT := wc_4_ok _ (List.mem_of_getElem? (i := 21) rfl)
theorem w_229 : Cond.fieldLink "CaveEchoes$Study" 25 "CaveEchoes$Study" "otherFirst" "[I" ∈ am_GT := wc_4_ok _ (List.mem_of_getElem? (i := 22) rfl)
theorem w_230 : Cond.fieldLink "CaveEchoes$Study" 31 "CaveEchoes$Study" "foretellings" "[[I" ∈ am_GT := wc_4_ok _ (List.mem_of_getElem? (i := 23) rfl)
theorem w_231 : Cond.fieldLink "CaveEchoes" 164 "CaveEchoes$Study" "foretellings" "[[I" ∈ am_GT := wc_4_ok _ (List.mem_of_getElem? (i := 24) rfl)
theorem w_232 : Cond.fieldLink "CaveEchoes$Study" 34 "CaveEchoes$Study" "weights" "[[I" ∈ am_GT := wc_4_ok _ (List.mem_of_getElem? (i := 25) rfl)
theorem w_233 : Cond.fieldLink "CaveEchoes" 157 "CaveEchoes$Study" "weights" "[[I" ∈ am_GT := wc_4_ok _ (List.mem_of_getElem? (i := 26) rfl)
theorem w_234 : Cond.fieldLink "CaveEchoes$Study" 37 "CaveEchoes$Study" "parameters" "[[I" ∈ am_GT := wc_4_ok _ (List.mem_of_getElem? (i := 27) rfl)
theorem w_235 : Cond.fieldLink "CaveEchoes" 195 "CaveEchoes$Study" "parameters" "[[I" ∈ am_GT := wc_4_ok _ (List.mem_of_getElem? (i := 28) rfl)
theorem w_236 : Cond.fieldLink "CaveEchoes$Study" 40 "CaveEchoes$Study" "fewestBits" "[[I" ∈ am_GT := wc_4_ok _ (List.mem_of_getElem? (i := 29) rfl)
def wc_5 : List Cond := [Cond.code yX1_init prog_3_method_1_code 2 none, Cond.fieldLink "CaveEchoes$History" 11 "CaveEchoes$History" "saved" "[LCaveEchoes$State;", Cond.fieldLink "CaveEchoes$History" 17 "CaveEchoes$History" "count" "I", Cond.fieldLink "CaveEchoes" 278 "CaveEchoes$History" "count" "I", Cond.code yX5_init prog_7_method_1_code 1 none, Cond.fieldLink "CaveEchoes$Snapshots" 12 "CaveEchoes$Snapshots" "kept" "[LCaveEchoes$State;", Cond.fieldLink "CaveEchoes$Snapshots" 18 "CaveEchoes$Snapshots" "full" "[Z", Cond.code yX8_init prog_10_method_1_code 1 none, Cond.fieldLink "CaveEchoes$Works" 9 "CaveEchoes$Works" "codes" "[I", Cond.fieldLink "CaveEchoes$Works" 15 "CaveEchoes$Works" "length" "I", Cond.fieldLink "CaveEchoes" 259 "CaveEchoes$Works" "length" "I", Cond.fieldLink "CaveEchoes$Works" 19 "CaveEchoes$Works" "at" "I", Cond.fieldLink "CaveEchoes" 266 "CaveEchoes$Works" "at" "I", Cond.fieldLink "CaveEchoes$Works" 22 "CaveEchoes$Works" "work" "I", Cond.fieldLink "CaveEchoes" 329 "CaveEchoes$Works" "work" "I", Cond.fieldLink "CaveEchoes$Works" 25 "CaveEchoes$Works" "place" "I", Cond.fieldLink "CaveEchoes" 341 "CaveEchoes$Works" "place" "I", Cond.fieldLink "CaveEchoes$Works" 28 "CaveEchoes$Works" "value" "I", Cond.fieldLink "CaveEchoes" 332 "CaveEchoes$Works" "value" "I", Cond.code yX4_init prog_6_method_1_code 1 none, Cond.fieldLink "CaveEchoes$Reader" 12 "CaveEchoes$Reader" "foreteller" "LCaveEchoes$Foreteller;", Cond.code yX3_init prog_5_method_1_code 1 none, Cond.fieldLink "CaveEchoes$Paper" 9 "CaveEchoes$Paper" "ones" "[Z", Cond.fieldLink "CaveEchoes$Paper" 15 "CaveEchoes$Paper" "length" "I", Cond.fieldLink "CaveEchoes" 374 "CaveEchoes$Paper" "length" "I", Cond.fieldLink "CaveEchoes$Paper" 19 "CaveEchoes$Paper" "at" "I", Cond.fieldLink "CaveEchoes$Reader" 55 "CaveEchoes$Paper" "at" "I", Cond.fieldLink "CaveEchoes" 12 "CaveEchoes" "study" "LCaveEchoes$Study;", Cond.fieldLink "CaveEchoes" 20 "CaveEchoes" "now" "LCaveEchoes$State;", Cond.fieldLink "CaveEchoes" 26 "CaveEchoes" "history" "LCaveEchoes$History;"]
theorem wc_5_ok : ∀ w ∈ wc_5, w ∈ am_GT := am_sub wc_5 256 (by decide +kernel)
theorem w_256 : Cond.code yX1_init prog_3_method_1_code 2 none ∈ am_GT := wc_5_ok _ (List.mem_of_getElem? (i := 0) rfl)
theorem w_261 : Cond.fieldLink "CaveEchoes$History" 11 "CaveEchoes$History" "saved" "[LCaveEchoes$State;" ∈ am_GT := wc_5_ok _ (List.mem_of_getElem? (i := 1) rfl)
theorem w_262 : Cond.fieldLink "CaveEchoes$History" 17 "CaveEchoes$History" "count" "I" ∈ am_GT := wc_5_ok _ (List.mem_of_getElem? (i := 2) rfl)
theorem w_263 : Cond.fieldLink "CaveEchoes" 278 "CaveEchoes$History" "count" "I" ∈ am_GT := wc_5_ok _ (List.mem_of_getElem? (i := 3) rfl)
theorem w_273 : Cond.code yX5_init prog_7_method_1_code 1 none ∈ am_GT := wc_5_ok _ (List.mem_of_getElem? (i := 4) rfl)
theorem w_277 : Cond.fieldLink "CaveEchoes$Snapshots" 12 "CaveEchoes$Snapshots" "kept" "[LCaveEchoes$State;" ∈ am_GT := wc_5_ok _ (List.mem_of_getElem? (i := 5) rfl)
theorem w_278 : Cond.fieldLink "CaveEchoes$Snapshots" 18 "CaveEchoes$Snapshots" "full" "[Z" ∈ am_GT := wc_5_ok _ (List.mem_of_getElem? (i := 6) rfl)
theorem w_289 : Cond.code yX8_init prog_10_method_1_code 1 none ∈ am_GT := wc_5_ok _ (List.mem_of_getElem? (i := 7) rfl)
theorem w_291 : Cond.fieldLink "CaveEchoes$Works" 9 "CaveEchoes$Works" "codes" "[I" ∈ am_GT := wc_5_ok _ (List.mem_of_getElem? (i := 8) rfl)
theorem w_292 : Cond.fieldLink "CaveEchoes$Works" 15 "CaveEchoes$Works" "length" "I" ∈ am_GT := wc_5_ok _ (List.mem_of_getElem? (i := 9) rfl)
theorem w_293 : Cond.fieldLink "CaveEchoes" 259 "CaveEchoes$Works" "length" "I" ∈ am_GT := wc_5_ok _ (List.mem_of_getElem? (i := 10) rfl)
theorem w_294 : Cond.fieldLink "CaveEchoes$Works" 19 "CaveEchoes$Works" "at" "I" ∈ am_GT := wc_5_ok _ (List.mem_of_getElem? (i := 11) rfl)
theorem w_295 : Cond.fieldLink "CaveEchoes" 266 "CaveEchoes$Works" "at" "I" ∈ am_GT := wc_5_ok _ (List.mem_of_getElem? (i := 12) rfl)
theorem w_296 : Cond.fieldLink "CaveEchoes$Works" 22 "CaveEchoes$Works" "work" "I" ∈ am_GT := wc_5_ok _ (List.mem_of_getElem? (i := 13) rfl)
theorem w_297 : Cond.fieldLink "CaveEchoes" 329 "CaveEchoes$Works" "work" "I" ∈ am_GT := wc_5_ok _ (List.mem_of_getElem? (i := 14) rfl)
theorem w_298 : Cond.fieldLink "CaveEchoes$Works" 25 "CaveEchoes$Works" "place" "I" ∈ am_GT := wc_5_ok _ (List.mem_of_getElem? (i := 15) rfl)
theorem w_299 : Cond.fieldLink "CaveEchoes" 341 "CaveEchoes$Works" "place" "I" ∈ am_GT := wc_5_ok _ (List.mem_of_getElem? (i := 16) rfl)
theorem w_300 : Cond.fieldLink "CaveEchoes$Works" 28 "CaveEchoes$Works" "value" "I" ∈ am_GT := wc_5_ok _ (List.mem_of_getElem? (i := 17) rfl)
theorem w_301 : Cond.fieldLink "CaveEchoes" 332 "CaveEchoes$Works" "value" "I" ∈ am_GT := wc_5_ok _ (List.mem_of_getElem? (i := 18) rfl)
theorem w_319 : Cond.code yX4_init prog_6_method_1_code 1 none ∈ am_GT := wc_5_ok _ (List.mem_of_getElem? (i := 19) rfl)
theorem w_323 : Cond.fieldLink "CaveEchoes$Reader" 12 "CaveEchoes$Reader" "foreteller" "LCaveEchoes$Foreteller;" ∈ am_GT := wc_5_ok _ (List.mem_of_getElem? (i := 20) rfl)
theorem w_331 : Cond.code yX3_init prog_5_method_1_code 1 none ∈ am_GT := wc_5_ok _ (List.mem_of_getElem? (i := 21) rfl)
theorem w_333 : Cond.fieldLink "CaveEchoes$Paper" 9 "CaveEchoes$Paper" "ones" "[Z" ∈ am_GT := wc_5_ok _ (List.mem_of_getElem? (i := 22) rfl)
theorem w_334 : Cond.fieldLink "CaveEchoes$Paper" 15 "CaveEchoes$Paper" "length" "I" ∈ am_GT := wc_5_ok _ (List.mem_of_getElem? (i := 23) rfl)
theorem w_335 : Cond.fieldLink "CaveEchoes" 374 "CaveEchoes$Paper" "length" "I" ∈ am_GT := wc_5_ok _ (List.mem_of_getElem? (i := 24) rfl)
theorem w_336 : Cond.fieldLink "CaveEchoes$Paper" 19 "CaveEchoes$Paper" "at" "I" ∈ am_GT := wc_5_ok _ (List.mem_of_getElem? (i := 25) rfl)
theorem w_337 : Cond.fieldLink "CaveEchoes$Reader" 55 "CaveEchoes$Paper" "at" "I" ∈ am_GT := wc_5_ok _ (List.mem_of_getElem? (i := 26) rfl)
theorem w_345 : Cond.fieldLink "CaveEchoes" 12 "CaveEchoes" "study" "LCaveEchoes$Study;" ∈ am_GT := wc_5_ok _ (List.mem_of_getElem? (i := 27) rfl)
theorem w_346 : Cond.fieldLink "CaveEchoes" 20 "CaveEchoes" "now" "LCaveEchoes$State;" ∈ am_GT := wc_5_ok _ (List.mem_of_getElem? (i := 28) rfl)
theorem w_347 : Cond.fieldLink "CaveEchoes" 26 "CaveEchoes" "history" "LCaveEchoes$History;" ∈ am_GT := wc_5_ok _ (List.mem_of_getElem? (i := 29) rfl)
def wc_6 : List Cond := [Cond.fieldLink "CaveEchoes" 33 "CaveEchoes" "snapshots" "LCaveEchoes$Snapshots;", Cond.fieldLink "CaveEchoes" 40 "CaveEchoes" "works" "LCaveEchoes$Works;", Cond.fieldLink "CaveEchoes" 47 "CaveEchoes" "reader" "LCaveEchoes$Reader;", Cond.fieldLink "CaveEchoes" 54 "CaveEchoes" "paper" "LCaveEchoes$Paper;", Cond.methodLink "CaveEchoesLaw" 156 yX9_empty, Cond.instanceMethod yX9_empty, Cond.selects "CaveEchoes" yX9_empty yX9_empty, Cond.code yX9_empty prog_1_method_6_code 2 (some .int), Cond.methodLink "CaveEchoes" 75 yX1_save, Cond.instanceMethod yX1_save, Cond.selects "CaveEchoes$History" yX1_save yX1_save, Cond.code yX1_save prog_3_method_2_code 2 none, Cond.methodLink "CaveEchoes$History" 22 yX1_forgetOldest, Cond.instanceMethod yX1_forgetOldest, Cond.selects "CaveEchoes$History" yX1_forgetOldest yX1_forgetOldest, Cond.code yX1_forgetOldest prog_3_method_3_code 3 none, Cond.methodLink "CaveEchoes$History" 25 yX6_copyFrom, Cond.instanceMethod yX6_copyFrom, Cond.selects "CaveEchoes$State" yX6_copyFrom yX6_copyFrom, Cond.code yX6_copyFrom prog_8_method_2_code 2 none, Cond.methodLink "CaveEchoes$State" 47 yX2_copyFrom, Cond.instanceMethod yX2_copyFrom, Cond.selects "CaveEchoes$Letter" yX2_copyFrom yX2_copyFrom, Cond.code yX2_copyFrom prog_4_method_2_code 2 none, Cond.methodLink "CaveEchoesLaw" 178 yX9_samples, Cond.instanceMethod yX9_samples, Cond.selects "CaveEchoes" yX9_samples yX9_samples, Cond.code yX9_samples prog_1_method_13_code 1 (some .int), Cond.methodLink "CaveEchoesLaw" 185 yX9_blocks, Cond.instanceMethod yX9_blocks]
theorem wc_6_ok : ∀ w ∈ wc_6, w ∈ am_GT := am_sub wc_6 348 (by decide +kernel)
theorem w_348 : Cond.fieldLink "CaveEchoes" 33 "CaveEchoes" "snapshots" "LCaveEchoes$Snapshots;" ∈ am_GT := wc_6_ok _ (List.mem_of_getElem? (i := 0) rfl)
theorem w_349 : Cond.fieldLink "CaveEchoes" 40 "CaveEchoes" "works" "LCaveEchoes$Works;" ∈ am_GT := wc_6_ok _ (List.mem_of_getElem? (i := 1) rfl)
theorem w_350 : Cond.fieldLink "CaveEchoes" 47 "CaveEchoes" "reader" "LCaveEchoes$Reader;" ∈ am_GT := wc_6_ok _ (List.mem_of_getElem? (i := 2) rfl)
theorem w_351 : Cond.fieldLink "CaveEchoes" 54 "CaveEchoes" "paper" "LCaveEchoes$Paper;" ∈ am_GT := wc_6_ok _ (List.mem_of_getElem? (i := 3) rfl)
theorem w_367 : Cond.methodLink "CaveEchoesLaw" 156 yX9_empty ∈ am_GT := wc_6_ok _ (List.mem_of_getElem? (i := 4) rfl)
theorem w_368 : Cond.instanceMethod yX9_empty ∈ am_GT := wc_6_ok _ (List.mem_of_getElem? (i := 5) rfl)
theorem w_369 : Cond.selects "CaveEchoes" yX9_empty yX9_empty ∈ am_GT := wc_6_ok _ (List.mem_of_getElem? (i := 6) rfl)
theorem w_370 : Cond.code yX9_empty prog_1_method_6_code 2 (some .int) ∈ am_GT := wc_6_ok _ (List.mem_of_getElem? (i := 7) rfl)
theorem w_371 : Cond.methodLink "CaveEchoes" 75 yX1_save ∈ am_GT := wc_6_ok _ (List.mem_of_getElem? (i := 8) rfl)
theorem w_372 : Cond.instanceMethod yX1_save ∈ am_GT := wc_6_ok _ (List.mem_of_getElem? (i := 9) rfl)
theorem w_373 : Cond.selects "CaveEchoes$History" yX1_save yX1_save ∈ am_GT := wc_6_ok _ (List.mem_of_getElem? (i := 10) rfl)
theorem w_374 : Cond.code yX1_save prog_3_method_2_code 2 none ∈ am_GT := wc_6_ok _ (List.mem_of_getElem? (i := 11) rfl)
theorem w_375 : Cond.methodLink "CaveEchoes$History" 22 yX1_forgetOldest ∈ am_GT := wc_6_ok _ (List.mem_of_getElem? (i := 12) rfl)
theorem w_376 : Cond.instanceMethod yX1_forgetOldest ∈ am_GT := wc_6_ok _ (List.mem_of_getElem? (i := 13) rfl)
theorem w_377 : Cond.selects "CaveEchoes$History" yX1_forgetOldest yX1_forgetOldest ∈ am_GT := wc_6_ok _ (List.mem_of_getElem? (i := 14) rfl)
theorem w_378 : Cond.code yX1_forgetOldest prog_3_method_3_code 3 none ∈ am_GT := wc_6_ok _ (List.mem_of_getElem? (i := 15) rfl)
theorem w_379 : Cond.methodLink "CaveEchoes$History" 25 yX6_copyFrom ∈ am_GT := wc_6_ok _ (List.mem_of_getElem? (i := 16) rfl)
theorem w_380 : Cond.instanceMethod yX6_copyFrom ∈ am_GT := wc_6_ok _ (List.mem_of_getElem? (i := 17) rfl)
theorem w_381 : Cond.selects "CaveEchoes$State" yX6_copyFrom yX6_copyFrom ∈ am_GT := wc_6_ok _ (List.mem_of_getElem? (i := 18) rfl)
theorem w_382 : Cond.code yX6_copyFrom prog_8_method_2_code 2 none ∈ am_GT := wc_6_ok _ (List.mem_of_getElem? (i := 19) rfl)
theorem w_386 : Cond.methodLink "CaveEchoes$State" 47 yX2_copyFrom ∈ am_GT := wc_6_ok _ (List.mem_of_getElem? (i := 20) rfl)
theorem w_387 : Cond.instanceMethod yX2_copyFrom ∈ am_GT := wc_6_ok _ (List.mem_of_getElem? (i := 21) rfl)
theorem w_388 : Cond.selects "CaveEchoes$Letter" yX2_copyFrom yX2_copyFrom ∈ am_GT := wc_6_ok _ (List.mem_of_getElem? (i := 22) rfl)
theorem w_389 : Cond.code yX2_copyFrom prog_4_method_2_code 2 none ∈ am_GT := wc_6_ok _ (List.mem_of_getElem? (i := 23) rfl)
theorem w_391 : Cond.methodLink "CaveEchoesLaw" 178 yX9_samples ∈ am_GT := wc_6_ok _ (List.mem_of_getElem? (i := 24) rfl)
theorem w_392 : Cond.instanceMethod yX9_samples ∈ am_GT := wc_6_ok _ (List.mem_of_getElem? (i := 25) rfl)
theorem w_393 : Cond.selects "CaveEchoes" yX9_samples yX9_samples ∈ am_GT := wc_6_ok _ (List.mem_of_getElem? (i := 26) rfl)
theorem w_394 : Cond.code yX9_samples prog_1_method_13_code 1 (some .int) ∈ am_GT := wc_6_ok _ (List.mem_of_getElem? (i := 27) rfl)
theorem w_395 : Cond.methodLink "CaveEchoesLaw" 185 yX9_blocks ∈ am_GT := wc_6_ok _ (List.mem_of_getElem? (i := 28) rfl)
theorem w_396 : Cond.instanceMethod yX9_blocks ∈ am_GT := wc_6_ok _ (List.mem_of_getElem? (i := 29) rfl)
def wc_7 : List Cond := [Cond.selects "CaveEchoes" yX9_blocks yX9_blocks, Cond.code yX9_blocks prog_1_method_15_code 1 (some .int), Cond.methodLink "CaveEchoes" 145 yX9_blocksOf, Cond.static yX9_blocksOf, Cond.code yX9_blocksOf prog_1_method_66_code 1 (some .int), Cond.methodLink "CaveEchoesLaw" 189 yX9_delay, Cond.instanceMethod yX9_delay, Cond.selects "CaveEchoes" yX9_delay yX9_delay, Cond.code yX9_delay prog_1_method_16_code 1 (some .int), Cond.methodLink "CaveEchoesLaw" 193 yX9_speed, Cond.instanceMethod yX9_speed, Cond.selects "CaveEchoes" yX9_speed yX9_speed, Cond.code yX9_speed prog_1_method_17_code 1 (some .int), Cond.methodLink "CaveEchoesLaw" 197 yX9_allowed, Cond.instanceMethod yX9_allowed, Cond.selects "CaveEchoes" yX9_allowed yX9_allowed, Cond.code yX9_allowed prog_1_method_18_code 1 (some .int), Cond.methodLink "CaveEchoesLaw" 204 yX9_loudness, Cond.instanceMethod yX9_loudness, Cond.selects "CaveEchoes" yX9_loudness yX9_loudness, Cond.code yX9_loudness prog_1_method_20_code 3 (some .double), Cond.methodLink "CaveEchoes" 87 yX6_soundAt, Cond.instanceMethod yX6_soundAt, Cond.selects "CaveEchoes$State" yX6_soundAt yX6_soundAt, Cond.code yX6_soundAt prog_8_method_3_code 2 (some .int), Cond.methodLink "CaveEchoes" 151 yJ9_abs_0f7a4, Cond.static yJ9_abs_0f7a4, Cond.code yJ9_abs_0f7a4 prog_18_method_59_code 1 (some .int), Cond.methodLink "CaveEchoesLaw" 227 yX9_bestDelay, Cond.instanceMethod yX9_bestDelay]
theorem wc_7_ok : ∀ w ∈ wc_7, w ∈ am_GT := am_sub wc_7 397 (by decide +kernel)
theorem w_397 : Cond.selects "CaveEchoes" yX9_blocks yX9_blocks ∈ am_GT := wc_7_ok _ (List.mem_of_getElem? (i := 0) rfl)
theorem w_398 : Cond.code yX9_blocks prog_1_method_15_code 1 (some .int) ∈ am_GT := wc_7_ok _ (List.mem_of_getElem? (i := 1) rfl)
theorem w_399 : Cond.methodLink "CaveEchoes" 145 yX9_blocksOf ∈ am_GT := wc_7_ok _ (List.mem_of_getElem? (i := 2) rfl)
theorem w_400 : Cond.static yX9_blocksOf ∈ am_GT := wc_7_ok _ (List.mem_of_getElem? (i := 3) rfl)
theorem w_401 : Cond.code yX9_blocksOf prog_1_method_66_code 1 (some .int) ∈ am_GT := wc_7_ok _ (List.mem_of_getElem? (i := 4) rfl)
theorem w_402 : Cond.methodLink "CaveEchoesLaw" 189 yX9_delay ∈ am_GT := wc_7_ok _ (List.mem_of_getElem? (i := 5) rfl)
theorem w_403 : Cond.instanceMethod yX9_delay ∈ am_GT := wc_7_ok _ (List.mem_of_getElem? (i := 6) rfl)
theorem w_404 : Cond.selects "CaveEchoes" yX9_delay yX9_delay ∈ am_GT := wc_7_ok _ (List.mem_of_getElem? (i := 7) rfl)
theorem w_405 : Cond.code yX9_delay prog_1_method_16_code 1 (some .int) ∈ am_GT := wc_7_ok _ (List.mem_of_getElem? (i := 8) rfl)
theorem w_406 : Cond.methodLink "CaveEchoesLaw" 193 yX9_speed ∈ am_GT := wc_7_ok _ (List.mem_of_getElem? (i := 9) rfl)
theorem w_407 : Cond.instanceMethod yX9_speed ∈ am_GT := wc_7_ok _ (List.mem_of_getElem? (i := 10) rfl)
theorem w_408 : Cond.selects "CaveEchoes" yX9_speed yX9_speed ∈ am_GT := wc_7_ok _ (List.mem_of_getElem? (i := 11) rfl)
theorem w_409 : Cond.code yX9_speed prog_1_method_17_code 1 (some .int) ∈ am_GT := wc_7_ok _ (List.mem_of_getElem? (i := 12) rfl)
theorem w_410 : Cond.methodLink "CaveEchoesLaw" 197 yX9_allowed ∈ am_GT := wc_7_ok _ (List.mem_of_getElem? (i := 13) rfl)
theorem w_411 : Cond.instanceMethod yX9_allowed ∈ am_GT := wc_7_ok _ (List.mem_of_getElem? (i := 14) rfl)
theorem w_412 : Cond.selects "CaveEchoes" yX9_allowed yX9_allowed ∈ am_GT := wc_7_ok _ (List.mem_of_getElem? (i := 15) rfl)
theorem w_413 : Cond.code yX9_allowed prog_1_method_18_code 1 (some .int) ∈ am_GT := wc_7_ok _ (List.mem_of_getElem? (i := 16) rfl)
theorem w_414 : Cond.methodLink "CaveEchoesLaw" 204 yX9_loudness ∈ am_GT := wc_7_ok _ (List.mem_of_getElem? (i := 17) rfl)
theorem w_415 : Cond.instanceMethod yX9_loudness ∈ am_GT := wc_7_ok _ (List.mem_of_getElem? (i := 18) rfl)
theorem w_416 : Cond.selects "CaveEchoes" yX9_loudness yX9_loudness ∈ am_GT := wc_7_ok _ (List.mem_of_getElem? (i := 19) rfl)
theorem w_417 : Cond.code yX9_loudness prog_1_method_20_code 3 (some .double) ∈ am_GT := wc_7_ok _ (List.mem_of_getElem? (i := 20) rfl)
theorem w_418 : Cond.methodLink "CaveEchoes" 87 yX6_soundAt ∈ am_GT := wc_7_ok _ (List.mem_of_getElem? (i := 21) rfl)
theorem w_419 : Cond.instanceMethod yX6_soundAt ∈ am_GT := wc_7_ok _ (List.mem_of_getElem? (i := 22) rfl)
theorem w_420 : Cond.selects "CaveEchoes$State" yX6_soundAt yX6_soundAt ∈ am_GT := wc_7_ok _ (List.mem_of_getElem? (i := 23) rfl)
theorem w_421 : Cond.code yX6_soundAt prog_8_method_3_code 2 (some .int) ∈ am_GT := wc_7_ok _ (List.mem_of_getElem? (i := 24) rfl)
theorem w_422 : Cond.methodLink "CaveEchoes" 151 yJ9_abs_0f7a4 ∈ am_GT := wc_7_ok _ (List.mem_of_getElem? (i := 25) rfl)
theorem w_423 : Cond.static yJ9_abs_0f7a4 ∈ am_GT := wc_7_ok _ (List.mem_of_getElem? (i := 26) rfl)
theorem w_424 : Cond.code yJ9_abs_0f7a4 prog_18_method_59_code 1 (some .int) ∈ am_GT := wc_7_ok _ (List.mem_of_getElem? (i := 27) rfl)
theorem w_425 : Cond.methodLink "CaveEchoesLaw" 227 yX9_bestDelay ∈ am_GT := wc_7_ok _ (List.mem_of_getElem? (i := 28) rfl)
theorem w_426 : Cond.instanceMethod yX9_bestDelay ∈ am_GT := wc_7_ok _ (List.mem_of_getElem? (i := 29) rfl)
def wc_8 : List Cond := [Cond.selects "CaveEchoes" yX9_bestDelay yX9_bestDelay, Cond.code yX9_bestDelay prog_1_method_27_code 1 (some .int), Cond.methodLink "CaveEchoes" 177 yX7_findDelay, Cond.instanceMethod yX7_findDelay, Cond.selects "CaveEchoes$Study" yX7_findDelay yX7_findDelay, Cond.code yX7_findDelay prog_9_method_7_code 5 (some .int), Cond.constant "CaveEchoes$Study" 93 (1000000 : Int32), Cond.methodLink "CaveEchoes$Study" 84 yX7_sumIf, Cond.instanceMethod yX7_sumIf, Cond.selects "CaveEchoes$Study" yX7_sumIf yX7_sumIf, Cond.code yX7_sumIf prog_9_method_6_code 8 (some .int), Cond.methodLink "CaveEchoes$Study" 53 yX0_begin, Cond.instanceMethod yX0_begin, Cond.selects "CaveEchoes$Foreteller" yX0_begin yX0_begin, Cond.code yX0_begin prog_2_method_2_code 4 none, Cond.methodLink "CaveEchoes$Foreteller" 37 yX0_weigh, Cond.instanceMethod yX0_weigh, Cond.selects "CaveEchoes$Foreteller" yX0_weigh yX0_weigh, Cond.code yX0_weigh prog_2_method_6_code 3 none, Cond.methodLink "CaveEchoes$Foreteller" 40 yX0_shownBefore, Cond.instanceMethod yX0_shownBefore, Cond.selects "CaveEchoes$Foreteller" yX0_shownBefore yX0_shownBefore, Cond.code yX0_shownBefore prog_2_method_3_code 3 (some .int), Cond.methodLink "CaveEchoes$Foreteller" 51 yJ9_floorDiv_7cf53, Cond.static yJ9_floorDiv_7cf53, Cond.code yJ9_floorDiv_7cf53 prog_18_method_47_code 3 (some .int), Cond.static yX9_limit, Cond.code yX9_limit prog_1_method_67_code 1 (some .int), Cond.methodLink "CaveEchoes$Study" 66 yX6_soundAt, Cond.methodLink "CaveEchoes$Study" 60 yX0_foretell]
theorem wc_8_ok : ∀ w ∈ wc_8, w ∈ am_GT := am_sub wc_8 427 (by decide +kernel)
theorem w_427 : Cond.selects "CaveEchoes" yX9_bestDelay yX9_bestDelay ∈ am_GT := wc_8_ok _ (List.mem_of_getElem? (i := 0) rfl)
theorem w_428 : Cond.code yX9_bestDelay prog_1_method_27_code 1 (some .int) ∈ am_GT := wc_8_ok _ (List.mem_of_getElem? (i := 1) rfl)
theorem w_429 : Cond.methodLink "CaveEchoes" 177 yX7_findDelay ∈ am_GT := wc_8_ok _ (List.mem_of_getElem? (i := 2) rfl)
theorem w_430 : Cond.instanceMethod yX7_findDelay ∈ am_GT := wc_8_ok _ (List.mem_of_getElem? (i := 3) rfl)
theorem w_431 : Cond.selects "CaveEchoes$Study" yX7_findDelay yX7_findDelay ∈ am_GT := wc_8_ok _ (List.mem_of_getElem? (i := 4) rfl)
theorem w_432 : Cond.code yX7_findDelay prog_9_method_7_code 5 (some .int) ∈ am_GT := wc_8_ok _ (List.mem_of_getElem? (i := 5) rfl)
theorem w_433 : Cond.constant "CaveEchoes$Study" 93 (1000000 : Int32) ∈ am_GT := wc_8_ok _ (List.mem_of_getElem? (i := 6) rfl)
theorem w_434 : Cond.methodLink "CaveEchoes$Study" 84 yX7_sumIf ∈ am_GT := wc_8_ok _ (List.mem_of_getElem? (i := 7) rfl)
theorem w_435 : Cond.instanceMethod yX7_sumIf ∈ am_GT := wc_8_ok _ (List.mem_of_getElem? (i := 8) rfl)
theorem w_436 : Cond.selects "CaveEchoes$Study" yX7_sumIf yX7_sumIf ∈ am_GT := wc_8_ok _ (List.mem_of_getElem? (i := 9) rfl)
theorem w_437 : Cond.code yX7_sumIf prog_9_method_6_code 8 (some .int) ∈ am_GT := wc_8_ok _ (List.mem_of_getElem? (i := 10) rfl)
theorem w_438 : Cond.methodLink "CaveEchoes$Study" 53 yX0_begin ∈ am_GT := wc_8_ok _ (List.mem_of_getElem? (i := 11) rfl)
theorem w_439 : Cond.instanceMethod yX0_begin ∈ am_GT := wc_8_ok _ (List.mem_of_getElem? (i := 12) rfl)
theorem w_440 : Cond.selects "CaveEchoes$Foreteller" yX0_begin yX0_begin ∈ am_GT := wc_8_ok _ (List.mem_of_getElem? (i := 13) rfl)
theorem w_441 : Cond.code yX0_begin prog_2_method_2_code 4 none ∈ am_GT := wc_8_ok _ (List.mem_of_getElem? (i := 14) rfl)
theorem w_443 : Cond.methodLink "CaveEchoes$Foreteller" 37 yX0_weigh ∈ am_GT := wc_8_ok _ (List.mem_of_getElem? (i := 15) rfl)
theorem w_444 : Cond.instanceMethod yX0_weigh ∈ am_GT := wc_8_ok _ (List.mem_of_getElem? (i := 16) rfl)
theorem w_445 : Cond.selects "CaveEchoes$Foreteller" yX0_weigh yX0_weigh ∈ am_GT := wc_8_ok _ (List.mem_of_getElem? (i := 17) rfl)
theorem w_446 : Cond.code yX0_weigh prog_2_method_6_code 3 none ∈ am_GT := wc_8_ok _ (List.mem_of_getElem? (i := 18) rfl)
theorem w_447 : Cond.methodLink "CaveEchoes$Foreteller" 40 yX0_shownBefore ∈ am_GT := wc_8_ok _ (List.mem_of_getElem? (i := 19) rfl)
theorem w_448 : Cond.instanceMethod yX0_shownBefore ∈ am_GT := wc_8_ok _ (List.mem_of_getElem? (i := 20) rfl)
theorem w_449 : Cond.selects "CaveEchoes$Foreteller" yX0_shownBefore yX0_shownBefore ∈ am_GT := wc_8_ok _ (List.mem_of_getElem? (i := 21) rfl)
theorem w_450 : Cond.code yX0_shownBefore prog_2_method_3_code 3 (some .int) ∈ am_GT := wc_8_ok _ (List.mem_of_getElem? (i := 22) rfl)
theorem w_451 : Cond.methodLink "CaveEchoes$Foreteller" 51 yJ9_floorDiv_7cf53 ∈ am_GT := wc_8_ok _ (List.mem_of_getElem? (i := 23) rfl)
theorem w_452 : Cond.static yJ9_floorDiv_7cf53 ∈ am_GT := wc_8_ok _ (List.mem_of_getElem? (i := 24) rfl)
theorem w_453 : Cond.code yJ9_floorDiv_7cf53 prog_18_method_47_code 3 (some .int) ∈ am_GT := wc_8_ok _ (List.mem_of_getElem? (i := 25) rfl)
theorem w_455 : Cond.static yX9_limit ∈ am_GT := wc_8_ok _ (List.mem_of_getElem? (i := 26) rfl)
theorem w_456 : Cond.code yX9_limit prog_1_method_67_code 1 (some .int) ∈ am_GT := wc_8_ok _ (List.mem_of_getElem? (i := 27) rfl)
theorem w_457 : Cond.methodLink "CaveEchoes$Study" 66 yX6_soundAt ∈ am_GT := wc_8_ok _ (List.mem_of_getElem? (i := 28) rfl)
theorem w_458 : Cond.methodLink "CaveEchoes$Study" 60 yX0_foretell ∈ am_GT := wc_8_ok _ (List.mem_of_getElem? (i := 29) rfl)
def wc_9 : List Cond := [Cond.instanceMethod yX0_foretell, Cond.selects "CaveEchoes$Foreteller" yX0_foretell yX0_foretell, Cond.code yX0_foretell prog_2_method_4_code 2 (some .int), Cond.methodLink "CaveEchoes$Study" 88 yJ9_abs_0f7a4, Cond.methodLink "CaveEchoes$Study" 69 yX0_show, Cond.instanceMethod yX0_show, Cond.selects "CaveEchoes$Foreteller" yX0_show yX0_show, Cond.code yX0_show prog_2_method_5_code 2 none, Cond.methodLink "CaveEchoes$Foreteller" 47 yX0_adapt, Cond.instanceMethod yX0_adapt, Cond.selects "CaveEchoes$Foreteller" yX0_adapt yX0_adapt, Cond.code yX0_adapt prog_2_method_7_code 4 none, Cond.static yX9_haveSameSign, Cond.code yX9_haveSameSign prog_1_method_71_code 2 (some .boolean), Cond.methodLink "CaveEchoesLaw" 231 yX9_bestSpeed, Cond.instanceMethod yX9_bestSpeed, Cond.selects "CaveEchoes" yX9_bestSpeed yX9_bestSpeed, Cond.code yX9_bestSpeed prog_1_method_28_code 1 (some .int), Cond.methodLink "CaveEchoes" 180 yX7_findSpeed, Cond.instanceMethod yX7_findSpeed, Cond.selects "CaveEchoes$Study" yX7_findSpeed yX7_findSpeed, Cond.code yX7_findSpeed prog_9_method_8_code 5 (some .int), Cond.methodLink "CaveEchoesLaw" 250 yX9_bits, Cond.instanceMethod yX9_bits, Cond.selects "CaveEchoes" yX9_bits yX9_bits, Cond.code yX9_bits prog_1_method_34_code 1 (some .int), Cond.methodLink "CaveEchoes" 192 yX7_weighBlocks, Cond.instanceMethod yX7_weighBlocks, Cond.selects "CaveEchoes$Study" yX7_weighBlocks yX7_weighBlocks, Cond.code yX7_weighBlocks prog_9_method_10_code 1 none]
theorem wc_9_ok : ∀ w ∈ wc_9, w ∈ am_GT := am_sub wc_9 459 (by decide +kernel)
theorem w_459 : Cond.instanceMethod yX0_foretell ∈ am_GT := wc_9_ok _ (List.mem_of_getElem? (i := 0) rfl)
theorem w_460 : Cond.selects "CaveEchoes$Foreteller" yX0_foretell yX0_foretell ∈ am_GT := wc_9_ok _ (List.mem_of_getElem? (i := 1) rfl)
theorem w_461 : Cond.code yX0_foretell prog_2_method_4_code 2 (some .int) ∈ am_GT := wc_9_ok _ (List.mem_of_getElem? (i := 2) rfl)
theorem w_462 : Cond.methodLink "CaveEchoes$Study" 88 yJ9_abs_0f7a4 ∈ am_GT := wc_9_ok _ (List.mem_of_getElem? (i := 3) rfl)
theorem w_463 : Cond.methodLink "CaveEchoes$Study" 69 yX0_show ∈ am_GT := wc_9_ok _ (List.mem_of_getElem? (i := 4) rfl)
theorem w_464 : Cond.instanceMethod yX0_show ∈ am_GT := wc_9_ok _ (List.mem_of_getElem? (i := 5) rfl)
theorem w_465 : Cond.selects "CaveEchoes$Foreteller" yX0_show yX0_show ∈ am_GT := wc_9_ok _ (List.mem_of_getElem? (i := 6) rfl)
theorem w_466 : Cond.code yX0_show prog_2_method_5_code 2 none ∈ am_GT := wc_9_ok _ (List.mem_of_getElem? (i := 7) rfl)
theorem w_467 : Cond.methodLink "CaveEchoes$Foreteller" 47 yX0_adapt ∈ am_GT := wc_9_ok _ (List.mem_of_getElem? (i := 8) rfl)
theorem w_468 : Cond.instanceMethod yX0_adapt ∈ am_GT := wc_9_ok _ (List.mem_of_getElem? (i := 9) rfl)
theorem w_469 : Cond.selects "CaveEchoes$Foreteller" yX0_adapt yX0_adapt ∈ am_GT := wc_9_ok _ (List.mem_of_getElem? (i := 10) rfl)
theorem w_470 : Cond.code yX0_adapt prog_2_method_7_code 4 none ∈ am_GT := wc_9_ok _ (List.mem_of_getElem? (i := 11) rfl)
theorem w_472 : Cond.static yX9_haveSameSign ∈ am_GT := wc_9_ok _ (List.mem_of_getElem? (i := 12) rfl)
theorem w_473 : Cond.code yX9_haveSameSign prog_1_method_71_code 2 (some .boolean) ∈ am_GT := wc_9_ok _ (List.mem_of_getElem? (i := 13) rfl)
theorem w_474 : Cond.methodLink "CaveEchoesLaw" 231 yX9_bestSpeed ∈ am_GT := wc_9_ok _ (List.mem_of_getElem? (i := 14) rfl)
theorem w_475 : Cond.instanceMethod yX9_bestSpeed ∈ am_GT := wc_9_ok _ (List.mem_of_getElem? (i := 15) rfl)
theorem w_476 : Cond.selects "CaveEchoes" yX9_bestSpeed yX9_bestSpeed ∈ am_GT := wc_9_ok _ (List.mem_of_getElem? (i := 16) rfl)
theorem w_477 : Cond.code yX9_bestSpeed prog_1_method_28_code 1 (some .int) ∈ am_GT := wc_9_ok _ (List.mem_of_getElem? (i := 17) rfl)
theorem w_478 : Cond.methodLink "CaveEchoes" 180 yX7_findSpeed ∈ am_GT := wc_9_ok _ (List.mem_of_getElem? (i := 18) rfl)
theorem w_479 : Cond.instanceMethod yX7_findSpeed ∈ am_GT := wc_9_ok _ (List.mem_of_getElem? (i := 19) rfl)
theorem w_480 : Cond.selects "CaveEchoes$Study" yX7_findSpeed yX7_findSpeed ∈ am_GT := wc_9_ok _ (List.mem_of_getElem? (i := 20) rfl)
theorem w_481 : Cond.code yX7_findSpeed prog_9_method_8_code 5 (some .int) ∈ am_GT := wc_9_ok _ (List.mem_of_getElem? (i := 21) rfl)
theorem w_482 : Cond.methodLink "CaveEchoesLaw" 250 yX9_bits ∈ am_GT := wc_9_ok _ (List.mem_of_getElem? (i := 22) rfl)
theorem w_483 : Cond.instanceMethod yX9_bits ∈ am_GT := wc_9_ok _ (List.mem_of_getElem? (i := 23) rfl)
theorem w_484 : Cond.selects "CaveEchoes" yX9_bits yX9_bits ∈ am_GT := wc_9_ok _ (List.mem_of_getElem? (i := 24) rfl)
theorem w_485 : Cond.code yX9_bits prog_1_method_34_code 1 (some .int) ∈ am_GT := wc_9_ok _ (List.mem_of_getElem? (i := 25) rfl)
theorem w_486 : Cond.methodLink "CaveEchoes" 192 yX7_weighBlocks ∈ am_GT := wc_9_ok _ (List.mem_of_getElem? (i := 26) rfl)
theorem w_487 : Cond.instanceMethod yX7_weighBlocks ∈ am_GT := wc_9_ok _ (List.mem_of_getElem? (i := 27) rfl)
theorem w_488 : Cond.selects "CaveEchoes$Study" yX7_weighBlocks yX7_weighBlocks ∈ am_GT := wc_9_ok _ (List.mem_of_getElem? (i := 28) rfl)
theorem w_489 : Cond.code yX7_weighBlocks prog_9_method_10_code 1 none ∈ am_GT := wc_9_ok _ (List.mem_of_getElem? (i := 29) rfl)
def wc_10 : List Cond := [Cond.methodLink "CaveEchoes$Study" 100 yX7_follow, Cond.instanceMethod yX7_follow, Cond.selects "CaveEchoes$Study" yX7_follow yX7_follow, Cond.code yX7_follow prog_9_method_2_code 3 none, Cond.methodLink "CaveEchoes$Study" 103 yX7_findParameters, Cond.instanceMethod yX7_findParameters, Cond.selects "CaveEchoes$Study" yX7_findParameters yX7_findParameters, Cond.code yX7_findParameters prog_9_method_11_code 3 none, Cond.methodLink "CaveEchoes$Study" 109 yX7_findParameter, Cond.instanceMethod yX7_findParameter, Cond.selects "CaveEchoes$Study" yX7_findParameter yX7_findParameter, Cond.code yX7_findParameter prog_9_method_12_code 5 none, Cond.methodLink "CaveEchoes$Study" 113 yX7_countBits, Cond.instanceMethod yX7_countBits, Cond.selects "CaveEchoes$Study" yX7_countBits yX7_countBits, Cond.code yX7_countBits prog_9_method_13_code 7 (some .int), Cond.methodLink "CaveEchoes$Study" 117 yJ9_min_7cf53, Cond.static yJ9_min_7cf53, Cond.code yJ9_min_7cf53 prog_18_method_69_code 2 (some .int), Cond.methodLink "CaveEchoes$Study" 76 yX7_leftBy, Cond.instanceMethod yX7_leftBy, Cond.selects "CaveEchoes$Study" yX7_leftBy yX7_leftBy, Cond.code yX7_leftBy prog_9_method_3_code 3 (some .int), Cond.static yX9_fold, Cond.code yX9_fold prog_1_method_68_code 1 (some .int), Cond.static yX9_bitsOfFolded, Cond.code yX9_bitsOfFolded prog_1_method_70_code 2 (some .int), Cond.methodLink "CaveEchoes" 204 yX7_sumOfBlocks, Cond.instanceMethod yX7_sumOfBlocks, Cond.selects "CaveEchoes$Study" yX7_sumOfBlocks yX7_sumOfBlocks]
theorem wc_10_ok : ∀ w ∈ wc_10, w ∈ am_GT := am_sub wc_10 490 (by decide +kernel)
theorem w_490 : Cond.methodLink "CaveEchoes$Study" 100 yX7_follow ∈ am_GT := wc_10_ok _ (List.mem_of_getElem? (i := 0) rfl)
theorem w_491 : Cond.instanceMethod yX7_follow ∈ am_GT := wc_10_ok _ (List.mem_of_getElem? (i := 1) rfl)
theorem w_492 : Cond.selects "CaveEchoes$Study" yX7_follow yX7_follow ∈ am_GT := wc_10_ok _ (List.mem_of_getElem? (i := 2) rfl)
theorem w_493 : Cond.code yX7_follow prog_9_method_2_code 3 none ∈ am_GT := wc_10_ok _ (List.mem_of_getElem? (i := 3) rfl)
theorem w_494 : Cond.methodLink "CaveEchoes$Study" 103 yX7_findParameters ∈ am_GT := wc_10_ok _ (List.mem_of_getElem? (i := 4) rfl)
theorem w_495 : Cond.instanceMethod yX7_findParameters ∈ am_GT := wc_10_ok _ (List.mem_of_getElem? (i := 5) rfl)
theorem w_496 : Cond.selects "CaveEchoes$Study" yX7_findParameters yX7_findParameters ∈ am_GT := wc_10_ok _ (List.mem_of_getElem? (i := 6) rfl)
theorem w_497 : Cond.code yX7_findParameters prog_9_method_11_code 3 none ∈ am_GT := wc_10_ok _ (List.mem_of_getElem? (i := 7) rfl)
theorem w_499 : Cond.methodLink "CaveEchoes$Study" 109 yX7_findParameter ∈ am_GT := wc_10_ok _ (List.mem_of_getElem? (i := 8) rfl)
theorem w_500 : Cond.instanceMethod yX7_findParameter ∈ am_GT := wc_10_ok _ (List.mem_of_getElem? (i := 9) rfl)
theorem w_501 : Cond.selects "CaveEchoes$Study" yX7_findParameter yX7_findParameter ∈ am_GT := wc_10_ok _ (List.mem_of_getElem? (i := 10) rfl)
theorem w_502 : Cond.code yX7_findParameter prog_9_method_12_code 5 none ∈ am_GT := wc_10_ok _ (List.mem_of_getElem? (i := 11) rfl)
theorem w_503 : Cond.methodLink "CaveEchoes$Study" 113 yX7_countBits ∈ am_GT := wc_10_ok _ (List.mem_of_getElem? (i := 12) rfl)
theorem w_504 : Cond.instanceMethod yX7_countBits ∈ am_GT := wc_10_ok _ (List.mem_of_getElem? (i := 13) rfl)
theorem w_505 : Cond.selects "CaveEchoes$Study" yX7_countBits yX7_countBits ∈ am_GT := wc_10_ok _ (List.mem_of_getElem? (i := 14) rfl)
theorem w_506 : Cond.code yX7_countBits prog_9_method_13_code 7 (some .int) ∈ am_GT := wc_10_ok _ (List.mem_of_getElem? (i := 15) rfl)
theorem w_507 : Cond.methodLink "CaveEchoes$Study" 117 yJ9_min_7cf53 ∈ am_GT := wc_10_ok _ (List.mem_of_getElem? (i := 16) rfl)
theorem w_508 : Cond.static yJ9_min_7cf53 ∈ am_GT := wc_10_ok _ (List.mem_of_getElem? (i := 17) rfl)
theorem w_509 : Cond.code yJ9_min_7cf53 prog_18_method_69_code 2 (some .int) ∈ am_GT := wc_10_ok _ (List.mem_of_getElem? (i := 18) rfl)
theorem w_510 : Cond.methodLink "CaveEchoes$Study" 76 yX7_leftBy ∈ am_GT := wc_10_ok _ (List.mem_of_getElem? (i := 19) rfl)
theorem w_511 : Cond.instanceMethod yX7_leftBy ∈ am_GT := wc_10_ok _ (List.mem_of_getElem? (i := 20) rfl)
theorem w_512 : Cond.selects "CaveEchoes$Study" yX7_leftBy yX7_leftBy ∈ am_GT := wc_10_ok _ (List.mem_of_getElem? (i := 21) rfl)
theorem w_513 : Cond.code yX7_leftBy prog_9_method_3_code 3 (some .int) ∈ am_GT := wc_10_ok _ (List.mem_of_getElem? (i := 22) rfl)
theorem w_515 : Cond.static yX9_fold ∈ am_GT := wc_10_ok _ (List.mem_of_getElem? (i := 23) rfl)
theorem w_516 : Cond.code yX9_fold prog_1_method_68_code 1 (some .int) ∈ am_GT := wc_10_ok _ (List.mem_of_getElem? (i := 24) rfl)
theorem w_518 : Cond.static yX9_bitsOfFolded ∈ am_GT := wc_10_ok _ (List.mem_of_getElem? (i := 25) rfl)
theorem w_519 : Cond.code yX9_bitsOfFolded prog_1_method_70_code 2 (some .int) ∈ am_GT := wc_10_ok _ (List.mem_of_getElem? (i := 26) rfl)
theorem w_520 : Cond.methodLink "CaveEchoes" 204 yX7_sumOfBlocks ∈ am_GT := wc_10_ok _ (List.mem_of_getElem? (i := 27) rfl)
theorem w_521 : Cond.instanceMethod yX7_sumOfBlocks ∈ am_GT := wc_10_ok _ (List.mem_of_getElem? (i := 28) rfl)
theorem w_522 : Cond.selects "CaveEchoes$Study" yX7_sumOfBlocks yX7_sumOfBlocks ∈ am_GT := wc_10_ok _ (List.mem_of_getElem? (i := 29) rfl)
def wc_11 : List Cond := [Cond.code yX7_sumOfBlocks prog_9_method_16_code 3 (some .int), Cond.methodLink "CaveEchoes$Study" 130 yX7_kindFor, Cond.instanceMethod yX7_kindFor, Cond.selects "CaveEchoes$Study" yX7_kindFor yX7_kindFor, Cond.code yX7_kindFor prog_9_method_14_code 5 (some .int), Cond.methodLink "CaveEchoes$Study" 126 yX6_allows, Cond.instanceMethod yX6_allows, Cond.selects "CaveEchoes$State" yX6_allows yX6_allows, Cond.code yX6_allows prog_8_method_6_code 2 (some .boolean), Cond.methodLink "CaveEchoesLaw" 254 yX9_bitsByKinds, Cond.instanceMethod yX9_bitsByKinds, Cond.selects "CaveEchoes" yX9_bitsByKinds yX9_bitsByKinds, Cond.code yX9_bitsByKinds prog_1_method_35_code 3 (some .int), Cond.methodLink "CaveEchoes" 207 yX7_sumOfBlocksWith, Cond.instanceMethod yX7_sumOfBlocksWith, Cond.selects "CaveEchoes$Study" yX7_sumOfBlocksWith yX7_sumOfBlocksWith, Cond.code yX7_sumOfBlocksWith prog_9_method_17_code 4 (some .int), Cond.methodLink "CaveEchoesLaw" 264 yX9_told, Cond.instanceMethod yX9_told, Cond.selects "CaveEchoes" yX9_told yX9_told, Cond.code yX9_told prog_1_method_38_code 1 (some .int), Cond.methodLink "CaveEchoesLaw" 277 yX9_letterBits, Cond.instanceMethod yX9_letterBits, Cond.selects "CaveEchoes" yX9_letterBits yX9_letterBits, Cond.code yX9_letterBits prog_1_method_42_code 1 (some .int), Cond.methodLink "CaveEchoes" 133 yX2_countBits, Cond.instanceMethod yX2_countBits, Cond.selects "CaveEchoes$Letter" yX2_countBits yX2_countBits, Cond.code yX2_countBits prog_4_method_3_code 3 (some .int), Cond.methodLink "CaveEchoesLaw" 290 yX9_unlike]
theorem wc_11_ok : ∀ w ∈ wc_11, w ∈ am_GT := am_sub wc_11 523 (by decide +kernel)
theorem w_523 : Cond.code yX7_sumOfBlocks prog_9_method_16_code 3 (some .int) ∈ am_GT := wc_11_ok _ (List.mem_of_getElem? (i := 0) rfl)
theorem w_524 : Cond.methodLink "CaveEchoes$Study" 130 yX7_kindFor ∈ am_GT := wc_11_ok _ (List.mem_of_getElem? (i := 1) rfl)
theorem w_525 : Cond.instanceMethod yX7_kindFor ∈ am_GT := wc_11_ok _ (List.mem_of_getElem? (i := 2) rfl)
theorem w_526 : Cond.selects "CaveEchoes$Study" yX7_kindFor yX7_kindFor ∈ am_GT := wc_11_ok _ (List.mem_of_getElem? (i := 3) rfl)
theorem w_527 : Cond.code yX7_kindFor prog_9_method_14_code 5 (some .int) ∈ am_GT := wc_11_ok _ (List.mem_of_getElem? (i := 4) rfl)
theorem w_528 : Cond.methodLink "CaveEchoes$Study" 126 yX6_allows ∈ am_GT := wc_11_ok _ (List.mem_of_getElem? (i := 5) rfl)
theorem w_529 : Cond.instanceMethod yX6_allows ∈ am_GT := wc_11_ok _ (List.mem_of_getElem? (i := 6) rfl)
theorem w_530 : Cond.selects "CaveEchoes$State" yX6_allows yX6_allows ∈ am_GT := wc_11_ok _ (List.mem_of_getElem? (i := 7) rfl)
theorem w_531 : Cond.code yX6_allows prog_8_method_6_code 2 (some .boolean) ∈ am_GT := wc_11_ok _ (List.mem_of_getElem? (i := 8) rfl)
theorem w_532 : Cond.methodLink "CaveEchoesLaw" 254 yX9_bitsByKinds ∈ am_GT := wc_11_ok _ (List.mem_of_getElem? (i := 9) rfl)
theorem w_533 : Cond.instanceMethod yX9_bitsByKinds ∈ am_GT := wc_11_ok _ (List.mem_of_getElem? (i := 10) rfl)
theorem w_534 : Cond.selects "CaveEchoes" yX9_bitsByKinds yX9_bitsByKinds ∈ am_GT := wc_11_ok _ (List.mem_of_getElem? (i := 11) rfl)
theorem w_535 : Cond.code yX9_bitsByKinds prog_1_method_35_code 3 (some .int) ∈ am_GT := wc_11_ok _ (List.mem_of_getElem? (i := 12) rfl)
theorem w_536 : Cond.methodLink "CaveEchoes" 207 yX7_sumOfBlocksWith ∈ am_GT := wc_11_ok _ (List.mem_of_getElem? (i := 13) rfl)
theorem w_537 : Cond.instanceMethod yX7_sumOfBlocksWith ∈ am_GT := wc_11_ok _ (List.mem_of_getElem? (i := 14) rfl)
theorem w_538 : Cond.selects "CaveEchoes$Study" yX7_sumOfBlocksWith yX7_sumOfBlocksWith ∈ am_GT := wc_11_ok _ (List.mem_of_getElem? (i := 15) rfl)
theorem w_539 : Cond.code yX7_sumOfBlocksWith prog_9_method_17_code 4 (some .int) ∈ am_GT := wc_11_ok _ (List.mem_of_getElem? (i := 16) rfl)
theorem w_540 : Cond.methodLink "CaveEchoesLaw" 264 yX9_told ∈ am_GT := wc_11_ok _ (List.mem_of_getElem? (i := 17) rfl)
theorem w_541 : Cond.instanceMethod yX9_told ∈ am_GT := wc_11_ok _ (List.mem_of_getElem? (i := 18) rfl)
theorem w_542 : Cond.selects "CaveEchoes" yX9_told yX9_told ∈ am_GT := wc_11_ok _ (List.mem_of_getElem? (i := 19) rfl)
theorem w_543 : Cond.code yX9_told prog_1_method_38_code 1 (some .int) ∈ am_GT := wc_11_ok _ (List.mem_of_getElem? (i := 20) rfl)
theorem w_544 : Cond.methodLink "CaveEchoesLaw" 277 yX9_letterBits ∈ am_GT := wc_11_ok _ (List.mem_of_getElem? (i := 21) rfl)
theorem w_545 : Cond.instanceMethod yX9_letterBits ∈ am_GT := wc_11_ok _ (List.mem_of_getElem? (i := 22) rfl)
theorem w_546 : Cond.selects "CaveEchoes" yX9_letterBits yX9_letterBits ∈ am_GT := wc_11_ok _ (List.mem_of_getElem? (i := 23) rfl)
theorem w_547 : Cond.code yX9_letterBits prog_1_method_42_code 1 (some .int) ∈ am_GT := wc_11_ok _ (List.mem_of_getElem? (i := 24) rfl)
theorem w_548 : Cond.methodLink "CaveEchoes" 133 yX2_countBits ∈ am_GT := wc_11_ok _ (List.mem_of_getElem? (i := 25) rfl)
theorem w_549 : Cond.instanceMethod yX2_countBits ∈ am_GT := wc_11_ok _ (List.mem_of_getElem? (i := 26) rfl)
theorem w_550 : Cond.selects "CaveEchoes$Letter" yX2_countBits yX2_countBits ∈ am_GT := wc_11_ok _ (List.mem_of_getElem? (i := 27) rfl)
theorem w_551 : Cond.code yX2_countBits prog_4_method_3_code 3 (some .int) ∈ am_GT := wc_11_ok _ (List.mem_of_getElem? (i := 28) rfl)
theorem w_555 : Cond.methodLink "CaveEchoesLaw" 290 yX9_unlike ∈ am_GT := wc_11_ok _ (List.mem_of_getElem? (i := 29) rfl)
def wc_12 : List Cond := [Cond.instanceMethod yX9_unlike, Cond.selects "CaveEchoes" yX9_unlike yX9_unlike, Cond.code yX9_unlike prog_1_method_46_code 1 (some .int), Cond.methodLink "CaveEchoes" 229 yX4_read, Cond.instanceMethod yX4_read, Cond.selects "CaveEchoes$Reader" yX4_read yX4_read, Cond.code yX4_read prog_6_method_2_code 5 none, Cond.methodLink "CaveEchoes$Reader" 31 yX0_begin, Cond.methodLink "CaveEchoes$Reader" 44 yX0_foretell, Cond.methodLink "CaveEchoes$Reader" 51 yX0_show, Cond.methodLink "CaveEchoes" 240 yX4_countUnlike, Cond.instanceMethod yX4_countUnlike, Cond.selects "CaveEchoes$Reader" yX4_countUnlike yX4_countUnlike, Cond.code yX4_countUnlike prog_6_method_5_code 4 (some .int), Cond.methodLink "CaveEchoes$Reader" 73 yX4_heardAt, Cond.instanceMethod yX4_heardAt, Cond.selects "CaveEchoes$Reader" yX4_heardAt yX4_heardAt, Cond.code yX4_heardAt prog_6_method_4_code 2 (some .int), Cond.methodLink "CaveEchoesLaw" 294 yX9_firstUnlike, Cond.instanceMethod yX9_firstUnlike, Cond.selects "CaveEchoes" yX9_firstUnlike yX9_firstUnlike, Cond.code yX9_firstUnlike prog_1_method_47_code 1 (some .int), Cond.methodLink "CaveEchoes" 244 yX4_findUnlike, Cond.instanceMethod yX4_findUnlike, Cond.selects "CaveEchoes$Reader" yX4_findUnlike yX4_findUnlike, Cond.code yX4_findUnlike prog_6_method_6_code 3 (some .int), Cond.methodLink "CaveEchoesLaw" 301 yX9_worst, Cond.instanceMethod yX9_worst, Cond.selects "CaveEchoes" yX9_worst yX9_worst, Cond.code yX9_worst prog_1_method_49_code 5 (some .int)]
theorem wc_12_ok : ∀ w ∈ wc_12, w ∈ am_GT := am_sub wc_12 556 (by decide +kernel)
theorem w_556 : Cond.instanceMethod yX9_unlike ∈ am_GT := wc_12_ok _ (List.mem_of_getElem? (i := 0) rfl)
theorem w_557 : Cond.selects "CaveEchoes" yX9_unlike yX9_unlike ∈ am_GT := wc_12_ok _ (List.mem_of_getElem? (i := 1) rfl)
theorem w_558 : Cond.code yX9_unlike prog_1_method_46_code 1 (some .int) ∈ am_GT := wc_12_ok _ (List.mem_of_getElem? (i := 2) rfl)
theorem w_559 : Cond.methodLink "CaveEchoes" 229 yX4_read ∈ am_GT := wc_12_ok _ (List.mem_of_getElem? (i := 3) rfl)
theorem w_560 : Cond.instanceMethod yX4_read ∈ am_GT := wc_12_ok _ (List.mem_of_getElem? (i := 4) rfl)
theorem w_561 : Cond.selects "CaveEchoes$Reader" yX4_read yX4_read ∈ am_GT := wc_12_ok _ (List.mem_of_getElem? (i := 5) rfl)
theorem w_562 : Cond.code yX4_read prog_6_method_2_code 5 none ∈ am_GT := wc_12_ok _ (List.mem_of_getElem? (i := 6) rfl)
theorem w_563 : Cond.methodLink "CaveEchoes$Reader" 31 yX0_begin ∈ am_GT := wc_12_ok _ (List.mem_of_getElem? (i := 7) rfl)
theorem w_564 : Cond.methodLink "CaveEchoes$Reader" 44 yX0_foretell ∈ am_GT := wc_12_ok _ (List.mem_of_getElem? (i := 8) rfl)
theorem w_566 : Cond.methodLink "CaveEchoes$Reader" 51 yX0_show ∈ am_GT := wc_12_ok _ (List.mem_of_getElem? (i := 9) rfl)
theorem w_567 : Cond.methodLink "CaveEchoes" 240 yX4_countUnlike ∈ am_GT := wc_12_ok _ (List.mem_of_getElem? (i := 10) rfl)
theorem w_568 : Cond.instanceMethod yX4_countUnlike ∈ am_GT := wc_12_ok _ (List.mem_of_getElem? (i := 11) rfl)
theorem w_569 : Cond.selects "CaveEchoes$Reader" yX4_countUnlike yX4_countUnlike ∈ am_GT := wc_12_ok _ (List.mem_of_getElem? (i := 12) rfl)
theorem w_570 : Cond.code yX4_countUnlike prog_6_method_5_code 4 (some .int) ∈ am_GT := wc_12_ok _ (List.mem_of_getElem? (i := 13) rfl)
theorem w_571 : Cond.methodLink "CaveEchoes$Reader" 73 yX4_heardAt ∈ am_GT := wc_12_ok _ (List.mem_of_getElem? (i := 14) rfl)
theorem w_572 : Cond.instanceMethod yX4_heardAt ∈ am_GT := wc_12_ok _ (List.mem_of_getElem? (i := 15) rfl)
theorem w_573 : Cond.selects "CaveEchoes$Reader" yX4_heardAt yX4_heardAt ∈ am_GT := wc_12_ok _ (List.mem_of_getElem? (i := 16) rfl)
theorem w_574 : Cond.code yX4_heardAt prog_6_method_4_code 2 (some .int) ∈ am_GT := wc_12_ok _ (List.mem_of_getElem? (i := 17) rfl)
theorem w_575 : Cond.methodLink "CaveEchoesLaw" 294 yX9_firstUnlike ∈ am_GT := wc_12_ok _ (List.mem_of_getElem? (i := 18) rfl)
theorem w_576 : Cond.instanceMethod yX9_firstUnlike ∈ am_GT := wc_12_ok _ (List.mem_of_getElem? (i := 19) rfl)
theorem w_577 : Cond.selects "CaveEchoes" yX9_firstUnlike yX9_firstUnlike ∈ am_GT := wc_12_ok _ (List.mem_of_getElem? (i := 20) rfl)
theorem w_578 : Cond.code yX9_firstUnlike prog_1_method_47_code 1 (some .int) ∈ am_GT := wc_12_ok _ (List.mem_of_getElem? (i := 21) rfl)
theorem w_579 : Cond.methodLink "CaveEchoes" 244 yX4_findUnlike ∈ am_GT := wc_12_ok _ (List.mem_of_getElem? (i := 22) rfl)
theorem w_580 : Cond.instanceMethod yX4_findUnlike ∈ am_GT := wc_12_ok _ (List.mem_of_getElem? (i := 23) rfl)
theorem w_581 : Cond.selects "CaveEchoes$Reader" yX4_findUnlike yX4_findUnlike ∈ am_GT := wc_12_ok _ (List.mem_of_getElem? (i := 24) rfl)
theorem w_582 : Cond.code yX4_findUnlike prog_6_method_6_code 3 (some .int) ∈ am_GT := wc_12_ok _ (List.mem_of_getElem? (i := 25) rfl)
theorem w_583 : Cond.methodLink "CaveEchoesLaw" 301 yX9_worst ∈ am_GT := wc_12_ok _ (List.mem_of_getElem? (i := 26) rfl)
theorem w_584 : Cond.instanceMethod yX9_worst ∈ am_GT := wc_12_ok _ (List.mem_of_getElem? (i := 27) rfl)
theorem w_585 : Cond.selects "CaveEchoes" yX9_worst yX9_worst ∈ am_GT := wc_12_ok _ (List.mem_of_getElem? (i := 28) rfl)
theorem w_586 : Cond.code yX9_worst prog_1_method_49_code 5 (some .int) ∈ am_GT := wc_12_ok _ (List.mem_of_getElem? (i := 29) rfl)
def wc_13 : List Cond := [Cond.methodLink "CaveEchoesLaw" 305 yX9_sent, Cond.instanceMethod yX9_sent, Cond.selects "CaveEchoes" yX9_sent yX9_sent, Cond.code yX9_sent prog_1_method_50_code 1 (some .int), Cond.methodLink "CaveEchoesLaw" 318 yX9_clearText, Cond.instanceMethod yX9_clearText, Cond.selects "CaveEchoes" yX9_clearText yX9_clearText, Cond.code yX9_clearText prog_1_method_54_code 2 (some .int), Cond.methodLink "CaveEchoesLaw" 322 yX9_firstError, Cond.instanceMethod yX9_firstError, Cond.selects "CaveEchoes" yX9_firstError yX9_firstError, Cond.code yX9_firstError prog_1_method_55_code 1 (some .int), Cond.methodLink "CaveEchoes" 263 yX8_findFault, Cond.instanceMethod yX8_findFault, Cond.selects "CaveEchoes$Works" yX8_findFault yX8_findFault, Cond.code yX8_findFault prog_10_method_3_code 2 (some .int), Cond.methodLink "CaveEchoes$Works" 31 yX8_readWork, Cond.instanceMethod yX8_readWork, Cond.selects "CaveEchoes$Works" yX8_readWork yX8_readWork, Cond.code yX8_readWork prog_10_method_4_code 1 (some .boolean), Cond.methodLink "CaveEchoes$Works" 39 yX8_codeHere, Cond.instanceMethod yX8_codeHere, Cond.selects "CaveEchoes$Works" yX8_codeHere yX8_codeHere, Cond.code yX8_codeHere prog_10_method_11_code 1 (some .int), Cond.methodLink "CaveEchoes$Works" 35 yX8_take, Cond.instanceMethod yX8_take, Cond.selects "CaveEchoes$Works" yX8_take yX8_take, Cond.code yX8_take prog_10_method_9_code 3 (some .boolean), Cond.methodLink "CaveEchoes$Works" 43 yX8_readValue, Cond.instanceMethod yX8_readValue]
theorem wc_13_ok : ∀ w ∈ wc_13, w ∈ am_GT := am_sub wc_13 587 (by decide +kernel)
theorem w_587 : Cond.methodLink "CaveEchoesLaw" 305 yX9_sent ∈ am_GT := wc_13_ok _ (List.mem_of_getElem? (i := 0) rfl)
theorem w_588 : Cond.instanceMethod yX9_sent ∈ am_GT := wc_13_ok _ (List.mem_of_getElem? (i := 1) rfl)
theorem w_589 : Cond.selects "CaveEchoes" yX9_sent yX9_sent ∈ am_GT := wc_13_ok _ (List.mem_of_getElem? (i := 2) rfl)
theorem w_590 : Cond.code yX9_sent prog_1_method_50_code 1 (some .int) ∈ am_GT := wc_13_ok _ (List.mem_of_getElem? (i := 3) rfl)
theorem w_591 : Cond.methodLink "CaveEchoesLaw" 318 yX9_clearText ∈ am_GT := wc_13_ok _ (List.mem_of_getElem? (i := 4) rfl)
theorem w_592 : Cond.instanceMethod yX9_clearText ∈ am_GT := wc_13_ok _ (List.mem_of_getElem? (i := 5) rfl)
theorem w_593 : Cond.selects "CaveEchoes" yX9_clearText yX9_clearText ∈ am_GT := wc_13_ok _ (List.mem_of_getElem? (i := 6) rfl)
theorem w_594 : Cond.code yX9_clearText prog_1_method_54_code 2 (some .int) ∈ am_GT := wc_13_ok _ (List.mem_of_getElem? (i := 7) rfl)
theorem w_595 : Cond.methodLink "CaveEchoesLaw" 322 yX9_firstError ∈ am_GT := wc_13_ok _ (List.mem_of_getElem? (i := 8) rfl)
theorem w_596 : Cond.instanceMethod yX9_firstError ∈ am_GT := wc_13_ok _ (List.mem_of_getElem? (i := 9) rfl)
theorem w_597 : Cond.selects "CaveEchoes" yX9_firstError yX9_firstError ∈ am_GT := wc_13_ok _ (List.mem_of_getElem? (i := 10) rfl)
theorem w_598 : Cond.code yX9_firstError prog_1_method_55_code 1 (some .int) ∈ am_GT := wc_13_ok _ (List.mem_of_getElem? (i := 11) rfl)
theorem w_599 : Cond.methodLink "CaveEchoes" 263 yX8_findFault ∈ am_GT := wc_13_ok _ (List.mem_of_getElem? (i := 12) rfl)
theorem w_600 : Cond.instanceMethod yX8_findFault ∈ am_GT := wc_13_ok _ (List.mem_of_getElem? (i := 13) rfl)
theorem w_601 : Cond.selects "CaveEchoes$Works" yX8_findFault yX8_findFault ∈ am_GT := wc_13_ok _ (List.mem_of_getElem? (i := 14) rfl)
theorem w_602 : Cond.code yX8_findFault prog_10_method_3_code 2 (some .int) ∈ am_GT := wc_13_ok _ (List.mem_of_getElem? (i := 15) rfl)
theorem w_603 : Cond.methodLink "CaveEchoes$Works" 31 yX8_readWork ∈ am_GT := wc_13_ok _ (List.mem_of_getElem? (i := 16) rfl)
theorem w_604 : Cond.instanceMethod yX8_readWork ∈ am_GT := wc_13_ok _ (List.mem_of_getElem? (i := 17) rfl)
theorem w_605 : Cond.selects "CaveEchoes$Works" yX8_readWork yX8_readWork ∈ am_GT := wc_13_ok _ (List.mem_of_getElem? (i := 18) rfl)
theorem w_606 : Cond.code yX8_readWork prog_10_method_4_code 1 (some .boolean) ∈ am_GT := wc_13_ok _ (List.mem_of_getElem? (i := 19) rfl)
theorem w_607 : Cond.methodLink "CaveEchoes$Works" 39 yX8_codeHere ∈ am_GT := wc_13_ok _ (List.mem_of_getElem? (i := 20) rfl)
theorem w_608 : Cond.instanceMethod yX8_codeHere ∈ am_GT := wc_13_ok _ (List.mem_of_getElem? (i := 21) rfl)
theorem w_609 : Cond.selects "CaveEchoes$Works" yX8_codeHere yX8_codeHere ∈ am_GT := wc_13_ok _ (List.mem_of_getElem? (i := 22) rfl)
theorem w_610 : Cond.code yX8_codeHere prog_10_method_11_code 1 (some .int) ∈ am_GT := wc_13_ok _ (List.mem_of_getElem? (i := 23) rfl)
theorem w_611 : Cond.methodLink "CaveEchoes$Works" 35 yX8_take ∈ am_GT := wc_13_ok _ (List.mem_of_getElem? (i := 24) rfl)
theorem w_612 : Cond.instanceMethod yX8_take ∈ am_GT := wc_13_ok _ (List.mem_of_getElem? (i := 25) rfl)
theorem w_613 : Cond.selects "CaveEchoes$Works" yX8_take yX8_take ∈ am_GT := wc_13_ok _ (List.mem_of_getElem? (i := 26) rfl)
theorem w_614 : Cond.code yX8_take prog_10_method_9_code 3 (some .boolean) ∈ am_GT := wc_13_ok _ (List.mem_of_getElem? (i := 27) rfl)
theorem w_615 : Cond.methodLink "CaveEchoes$Works" 43 yX8_readValue ∈ am_GT := wc_13_ok _ (List.mem_of_getElem? (i := 28) rfl)
theorem w_616 : Cond.instanceMethod yX8_readValue ∈ am_GT := wc_13_ok _ (List.mem_of_getElem? (i := 29) rfl)
def wc_14 : List Cond := [Cond.selects "CaveEchoes$Works" yX8_readValue yX8_readValue, Cond.code yX8_readValue prog_10_method_5_code 3 (some .boolean), Cond.methodLink "CaveEchoes$Works" 53 yX8_readNumber, Cond.instanceMethod yX8_readNumber, Cond.selects "CaveEchoes$Works" yX8_readNumber yX8_readNumber, Cond.code yX8_readNumber prog_10_method_8_code 4 (some .int), Cond.methodLink "CaveEchoes$Works" 57 yX8_digitHere, Cond.instanceMethod yX8_digitHere, Cond.selects "CaveEchoes$Works" yX8_digitHere yX8_digitHere, Cond.code yX8_digitHere prog_10_method_10_code 2 (some .int), Cond.methodLink "CaveEchoes$Works" 47 yX8_readPlace, Cond.instanceMethod yX8_readPlace, Cond.selects "CaveEchoes$Works" yX8_readPlace yX8_readPlace, Cond.code yX8_readPlace prog_10_method_6_code 3 (some .boolean), Cond.methodLink "CaveEchoes$Works" 50 yX8_readSigned, Cond.instanceMethod yX8_readSigned, Cond.selects "CaveEchoes$Works" yX8_readSigned yX8_readSigned, Cond.code yX8_readSigned prog_10_method_7_code 4 (some .boolean), Cond.methodLink "CaveEchoesLaw" 332 yX9_digest, Cond.instanceMethod yX9_digest, Cond.selects "CaveEchoes" yX9_digest yX9_digest, Cond.code yX9_digest prog_1_method_58_code 3 (some .long), Cond.constantLong "CaveEchoes" 281 (798 : Int64), Cond.methodLink "CaveEchoes" 283 yX9_hashOfAll, Cond.instanceMethod yX9_hashOfAll, Cond.code yX9_hashOfAll prog_1_method_79_code 6 (some .long), Cond.methodLink "CaveEchoes" 353 yX9_mix, Cond.static yX9_mix, Cond.code yX9_mix prog_1_method_78_code 4 (some .long), Cond.constantLong "CaveEchoes" 351 (31 : Int64)]
theorem wc_14_ok : ∀ w ∈ wc_14, w ∈ am_GT := am_sub wc_14 617 (by decide +kernel)
theorem w_617 : Cond.selects "CaveEchoes$Works" yX8_readValue yX8_readValue ∈ am_GT := wc_14_ok _ (List.mem_of_getElem? (i := 0) rfl)
theorem w_618 : Cond.code yX8_readValue prog_10_method_5_code 3 (some .boolean) ∈ am_GT := wc_14_ok _ (List.mem_of_getElem? (i := 1) rfl)
theorem w_619 : Cond.methodLink "CaveEchoes$Works" 53 yX8_readNumber ∈ am_GT := wc_14_ok _ (List.mem_of_getElem? (i := 2) rfl)
theorem w_620 : Cond.instanceMethod yX8_readNumber ∈ am_GT := wc_14_ok _ (List.mem_of_getElem? (i := 3) rfl)
theorem w_621 : Cond.selects "CaveEchoes$Works" yX8_readNumber yX8_readNumber ∈ am_GT := wc_14_ok _ (List.mem_of_getElem? (i := 4) rfl)
theorem w_622 : Cond.code yX8_readNumber prog_10_method_8_code 4 (some .int) ∈ am_GT := wc_14_ok _ (List.mem_of_getElem? (i := 5) rfl)
theorem w_623 : Cond.methodLink "CaveEchoes$Works" 57 yX8_digitHere ∈ am_GT := wc_14_ok _ (List.mem_of_getElem? (i := 6) rfl)
theorem w_624 : Cond.instanceMethod yX8_digitHere ∈ am_GT := wc_14_ok _ (List.mem_of_getElem? (i := 7) rfl)
theorem w_625 : Cond.selects "CaveEchoes$Works" yX8_digitHere yX8_digitHere ∈ am_GT := wc_14_ok _ (List.mem_of_getElem? (i := 8) rfl)
theorem w_626 : Cond.code yX8_digitHere prog_10_method_10_code 2 (some .int) ∈ am_GT := wc_14_ok _ (List.mem_of_getElem? (i := 9) rfl)
theorem w_627 : Cond.methodLink "CaveEchoes$Works" 47 yX8_readPlace ∈ am_GT := wc_14_ok _ (List.mem_of_getElem? (i := 10) rfl)
theorem w_628 : Cond.instanceMethod yX8_readPlace ∈ am_GT := wc_14_ok _ (List.mem_of_getElem? (i := 11) rfl)
theorem w_629 : Cond.selects "CaveEchoes$Works" yX8_readPlace yX8_readPlace ∈ am_GT := wc_14_ok _ (List.mem_of_getElem? (i := 12) rfl)
theorem w_630 : Cond.code yX8_readPlace prog_10_method_6_code 3 (some .boolean) ∈ am_GT := wc_14_ok _ (List.mem_of_getElem? (i := 13) rfl)
theorem w_631 : Cond.methodLink "CaveEchoes$Works" 50 yX8_readSigned ∈ am_GT := wc_14_ok _ (List.mem_of_getElem? (i := 14) rfl)
theorem w_632 : Cond.instanceMethod yX8_readSigned ∈ am_GT := wc_14_ok _ (List.mem_of_getElem? (i := 15) rfl)
theorem w_633 : Cond.selects "CaveEchoes$Works" yX8_readSigned yX8_readSigned ∈ am_GT := wc_14_ok _ (List.mem_of_getElem? (i := 16) rfl)
theorem w_634 : Cond.code yX8_readSigned prog_10_method_7_code 4 (some .boolean) ∈ am_GT := wc_14_ok _ (List.mem_of_getElem? (i := 17) rfl)
theorem w_635 : Cond.methodLink "CaveEchoesLaw" 332 yX9_digest ∈ am_GT := wc_14_ok _ (List.mem_of_getElem? (i := 18) rfl)
theorem w_636 : Cond.instanceMethod yX9_digest ∈ am_GT := wc_14_ok _ (List.mem_of_getElem? (i := 19) rfl)
theorem w_637 : Cond.selects "CaveEchoes" yX9_digest yX9_digest ∈ am_GT := wc_14_ok _ (List.mem_of_getElem? (i := 20) rfl)
theorem w_638 : Cond.code yX9_digest prog_1_method_58_code 3 (some .long) ∈ am_GT := wc_14_ok _ (List.mem_of_getElem? (i := 21) rfl)
theorem w_639 : Cond.constantLong "CaveEchoes" 281 (798 : Int64) ∈ am_GT := wc_14_ok _ (List.mem_of_getElem? (i := 22) rfl)
theorem w_640 : Cond.methodLink "CaveEchoes" 283 yX9_hashOfAll ∈ am_GT := wc_14_ok _ (List.mem_of_getElem? (i := 23) rfl)
theorem w_642 : Cond.instanceMethod yX9_hashOfAll ∈ am_GT := wc_14_ok _ (List.mem_of_getElem? (i := 24) rfl)
theorem w_643 : Cond.code yX9_hashOfAll prog_1_method_79_code 6 (some .long) ∈ am_GT := wc_14_ok _ (List.mem_of_getElem? (i := 25) rfl)
theorem w_644 : Cond.methodLink "CaveEchoes" 353 yX9_mix ∈ am_GT := wc_14_ok _ (List.mem_of_getElem? (i := 26) rfl)
theorem w_645 : Cond.static yX9_mix ∈ am_GT := wc_14_ok _ (List.mem_of_getElem? (i := 27) rfl)
theorem w_646 : Cond.code yX9_mix prog_1_method_78_code 4 (some .long) ∈ am_GT := wc_14_ok _ (List.mem_of_getElem? (i := 28) rfl)
theorem w_647 : Cond.constantLong "CaveEchoes" 351 (31 : Int64) ∈ am_GT := wc_14_ok _ (List.mem_of_getElem? (i := 29) rfl)
def wc_15 : List Cond := [Cond.methodLink "CaveEchoes" 183 yX7_findFirst, Cond.instanceMethod yX7_findFirst, Cond.selects "CaveEchoes$Study" yX7_findFirst yX7_findFirst, Cond.code yX7_findFirst prog_9_method_9_code 6 (some .int), Cond.methodLink "CaveEchoes" 357 yX9_unlike, Cond.methodLink "CaveEchoes" 360 yX9_firstUnlike, Cond.methodLink "CaveEchoes" 363 yX9_worst, Cond.methodLink "CaveEchoes" 366 yX9_loudness, Cond.methodLink "CaveEchoes" 370 yX9_bitsOfDouble, Cond.static yX9_bitsOfDouble, Cond.code yX9_bitsOfDouble prog_1_method_84_code 6 (some .long), Cond.constantLong "CaveEchoes" 375 (1023 : Int64), Cond.constantDouble "CaveEchoes" 377 (4611686018427387904 : UInt64), Cond.constantLong "CaveEchoes" 379 (2046 : Int64), Cond.constantDouble "CaveEchoes" 381 (4841369599423283200 : UInt64), Cond.methodLink "CaveEchoes" 287 yX9_hashOfKinds, Cond.instanceMethod yX9_hashOfKinds, Cond.code yX9_hashOfKinds prog_1_method_80_code 6 (some .long), Cond.methodLink "CaveEchoes" 170 yX7_sumBy, Cond.instanceMethod yX7_sumBy, Cond.selects "CaveEchoes$Study" yX7_sumBy yX7_sumBy, Cond.code yX7_sumBy prog_9_method_5_code 2 (some .int), Cond.methodLink "CaveEchoes" 210 yX7_countBlocksWith, Cond.instanceMethod yX7_countBlocksWith, Cond.selects "CaveEchoes$Study" yX7_countBlocksWith yX7_countBlocksWith, Cond.code yX7_countBlocksWith prog_9_method_18_code 4 (some .int), Cond.methodLink "CaveEchoes" 213 yX7_sumIfOnly, Cond.instanceMethod yX7_sumIfOnly, Cond.selects "CaveEchoes$Study" yX7_sumIfOnly yX7_sumIfOnly, Cond.code yX7_sumIfOnly prog_9_method_19_code 4 (some .int)]
theorem wc_15_ok : ∀ w ∈ wc_15, w ∈ am_GT := am_sub wc_15 648 (by decide +kernel)
theorem w_648 : Cond.methodLink "CaveEchoes" 183 yX7_findFirst ∈ am_GT := wc_15_ok _ (List.mem_of_getElem? (i := 0) rfl)
theorem w_649 : Cond.instanceMethod yX7_findFirst ∈ am_GT := wc_15_ok _ (List.mem_of_getElem? (i := 1) rfl)
theorem w_650 : Cond.selects "CaveEchoes$Study" yX7_findFirst yX7_findFirst ∈ am_GT := wc_15_ok _ (List.mem_of_getElem? (i := 2) rfl)
theorem w_651 : Cond.code yX7_findFirst prog_9_method_9_code 6 (some .int) ∈ am_GT := wc_15_ok _ (List.mem_of_getElem? (i := 3) rfl)
theorem w_653 : Cond.methodLink "CaveEchoes" 357 yX9_unlike ∈ am_GT := wc_15_ok _ (List.mem_of_getElem? (i := 4) rfl)
theorem w_654 : Cond.methodLink "CaveEchoes" 360 yX9_firstUnlike ∈ am_GT := wc_15_ok _ (List.mem_of_getElem? (i := 5) rfl)
theorem w_655 : Cond.methodLink "CaveEchoes" 363 yX9_worst ∈ am_GT := wc_15_ok _ (List.mem_of_getElem? (i := 6) rfl)
theorem w_656 : Cond.methodLink "CaveEchoes" 366 yX9_loudness ∈ am_GT := wc_15_ok _ (List.mem_of_getElem? (i := 7) rfl)
theorem w_657 : Cond.methodLink "CaveEchoes" 370 yX9_bitsOfDouble ∈ am_GT := wc_15_ok _ (List.mem_of_getElem? (i := 8) rfl)
theorem w_658 : Cond.static yX9_bitsOfDouble ∈ am_GT := wc_15_ok _ (List.mem_of_getElem? (i := 9) rfl)
theorem w_659 : Cond.code yX9_bitsOfDouble prog_1_method_84_code 6 (some .long) ∈ am_GT := wc_15_ok _ (List.mem_of_getElem? (i := 10) rfl)
theorem w_660 : Cond.constantLong "CaveEchoes" 375 (1023 : Int64) ∈ am_GT := wc_15_ok _ (List.mem_of_getElem? (i := 11) rfl)
theorem w_661 : Cond.constantDouble "CaveEchoes" 377 (4611686018427387904 : UInt64) ∈ am_GT := wc_15_ok _ (List.mem_of_getElem? (i := 12) rfl)
theorem w_662 : Cond.constantLong "CaveEchoes" 379 (2046 : Int64) ∈ am_GT := wc_15_ok _ (List.mem_of_getElem? (i := 13) rfl)
theorem w_663 : Cond.constantDouble "CaveEchoes" 381 (4841369599423283200 : UInt64) ∈ am_GT := wc_15_ok _ (List.mem_of_getElem? (i := 14) rfl)
theorem w_664 : Cond.methodLink "CaveEchoes" 287 yX9_hashOfKinds ∈ am_GT := wc_15_ok _ (List.mem_of_getElem? (i := 15) rfl)
theorem w_666 : Cond.instanceMethod yX9_hashOfKinds ∈ am_GT := wc_15_ok _ (List.mem_of_getElem? (i := 16) rfl)
theorem w_667 : Cond.code yX9_hashOfKinds prog_1_method_80_code 6 (some .long) ∈ am_GT := wc_15_ok _ (List.mem_of_getElem? (i := 17) rfl)
theorem w_668 : Cond.methodLink "CaveEchoes" 170 yX7_sumBy ∈ am_GT := wc_15_ok _ (List.mem_of_getElem? (i := 18) rfl)
theorem w_669 : Cond.instanceMethod yX7_sumBy ∈ am_GT := wc_15_ok _ (List.mem_of_getElem? (i := 19) rfl)
theorem w_670 : Cond.selects "CaveEchoes$Study" yX7_sumBy yX7_sumBy ∈ am_GT := wc_15_ok _ (List.mem_of_getElem? (i := 20) rfl)
theorem w_671 : Cond.code yX7_sumBy prog_9_method_5_code 2 (some .int) ∈ am_GT := wc_15_ok _ (List.mem_of_getElem? (i := 21) rfl)
theorem w_672 : Cond.methodLink "CaveEchoes" 210 yX7_countBlocksWith ∈ am_GT := wc_15_ok _ (List.mem_of_getElem? (i := 22) rfl)
theorem w_673 : Cond.instanceMethod yX7_countBlocksWith ∈ am_GT := wc_15_ok _ (List.mem_of_getElem? (i := 23) rfl)
theorem w_674 : Cond.selects "CaveEchoes$Study" yX7_countBlocksWith yX7_countBlocksWith ∈ am_GT := wc_15_ok _ (List.mem_of_getElem? (i := 24) rfl)
theorem w_675 : Cond.code yX7_countBlocksWith prog_9_method_18_code 4 (some .int) ∈ am_GT := wc_15_ok _ (List.mem_of_getElem? (i := 25) rfl)
theorem w_676 : Cond.methodLink "CaveEchoes" 213 yX7_sumIfOnly ∈ am_GT := wc_15_ok _ (List.mem_of_getElem? (i := 26) rfl)
theorem w_677 : Cond.instanceMethod yX7_sumIfOnly ∈ am_GT := wc_15_ok _ (List.mem_of_getElem? (i := 27) rfl)
theorem w_678 : Cond.selects "CaveEchoes$Study" yX7_sumIfOnly yX7_sumIfOnly ∈ am_GT := wc_15_ok _ (List.mem_of_getElem? (i := 28) rfl)
theorem w_679 : Cond.code yX7_sumIfOnly prog_9_method_19_code 4 (some .int) ∈ am_GT := wc_15_ok _ (List.mem_of_getElem? (i := 29) rfl)
def wc_16 : List Cond := [Cond.methodLink "CaveEchoes" 290 yX9_hashOfSamples, Cond.instanceMethod yX9_hashOfSamples, Cond.code yX9_hashOfSamples prog_1_method_81_code 7 (some .long), Cond.methodLink "CaveEchoes" 167 yX7_leftBy, Cond.methodLink "CaveEchoes" 293 yX9_hashOfBlocks, Cond.instanceMethod yX9_hashOfBlocks, Cond.code yX9_hashOfBlocks prog_1_method_82_code 7 (some .long), Cond.methodLink "CaveEchoes" 198 yX7_kindFor, Cond.methodLink "CaveEchoes" 201 yX7_reasonFor, Cond.instanceMethod yX7_reasonFor, Cond.selects "CaveEchoes$Study" yX7_reasonFor yX7_reasonFor, Cond.code yX7_reasonFor prog_9_method_15_code 6 (some .int), Cond.methodLink "CaveEchoes" 296 yX9_hashOfLetter, Cond.instanceMethod yX9_hashOfLetter, Cond.code yX9_hashOfLetter prog_1_method_83_code 7 (some .long), Cond.methodLink "CaveEchoes" 233 yX4_heardAt, Cond.methodLink "CaveEchoes" 222 yX3_write, Cond.instanceMethod yX3_write, Cond.selects "CaveEchoes$Paper" yX3_write yX3_write, Cond.code yX3_write prog_5_method_2_code 4 none, Cond.methodLink "CaveEchoes$Paper" 31 yX3_writeNumber, Cond.instanceMethod yX3_writeNumber, Cond.selects "CaveEchoes$Paper" yX3_writeNumber yX3_writeNumber, Cond.code yX3_writeNumber prog_5_method_4_code 4 none, Cond.methodLink "CaveEchoes$Paper" 48 yX3_writeBit, Cond.instanceMethod yX3_writeBit, Cond.selects "CaveEchoes$Paper" yX3_writeBit yX3_writeBit, Cond.code yX3_writeBit prog_5_method_5_code 2 none, Cond.methodLink "CaveEchoes$Paper" 45 yX3_writeFolded, Cond.instanceMethod yX3_writeFolded]
theorem wc_16_ok : ∀ w ∈ wc_16, w ∈ am_GT := am_sub wc_16 680 (by decide +kernel)
theorem w_680 : Cond.methodLink "CaveEchoes" 290 yX9_hashOfSamples ∈ am_GT := wc_16_ok _ (List.mem_of_getElem? (i := 0) rfl)
theorem w_682 : Cond.instanceMethod yX9_hashOfSamples ∈ am_GT := wc_16_ok _ (List.mem_of_getElem? (i := 1) rfl)
theorem w_683 : Cond.code yX9_hashOfSamples prog_1_method_81_code 7 (some .long) ∈ am_GT := wc_16_ok _ (List.mem_of_getElem? (i := 2) rfl)
theorem w_684 : Cond.methodLink "CaveEchoes" 167 yX7_leftBy ∈ am_GT := wc_16_ok _ (List.mem_of_getElem? (i := 3) rfl)
theorem w_685 : Cond.methodLink "CaveEchoes" 293 yX9_hashOfBlocks ∈ am_GT := wc_16_ok _ (List.mem_of_getElem? (i := 4) rfl)
theorem w_687 : Cond.instanceMethod yX9_hashOfBlocks ∈ am_GT := wc_16_ok _ (List.mem_of_getElem? (i := 5) rfl)
theorem w_688 : Cond.code yX9_hashOfBlocks prog_1_method_82_code 7 (some .long) ∈ am_GT := wc_16_ok _ (List.mem_of_getElem? (i := 6) rfl)
theorem w_689 : Cond.methodLink "CaveEchoes" 198 yX7_kindFor ∈ am_GT := wc_16_ok _ (List.mem_of_getElem? (i := 7) rfl)
theorem w_690 : Cond.methodLink "CaveEchoes" 201 yX7_reasonFor ∈ am_GT := wc_16_ok _ (List.mem_of_getElem? (i := 8) rfl)
theorem w_691 : Cond.instanceMethod yX7_reasonFor ∈ am_GT := wc_16_ok _ (List.mem_of_getElem? (i := 9) rfl)
theorem w_692 : Cond.selects "CaveEchoes$Study" yX7_reasonFor yX7_reasonFor ∈ am_GT := wc_16_ok _ (List.mem_of_getElem? (i := 10) rfl)
theorem w_693 : Cond.code yX7_reasonFor prog_9_method_15_code 6 (some .int) ∈ am_GT := wc_16_ok _ (List.mem_of_getElem? (i := 11) rfl)
theorem w_694 : Cond.methodLink "CaveEchoes" 296 yX9_hashOfLetter ∈ am_GT := wc_16_ok _ (List.mem_of_getElem? (i := 12) rfl)
theorem w_696 : Cond.instanceMethod yX9_hashOfLetter ∈ am_GT := wc_16_ok _ (List.mem_of_getElem? (i := 13) rfl)
theorem w_697 : Cond.code yX9_hashOfLetter prog_1_method_83_code 7 (some .long) ∈ am_GT := wc_16_ok _ (List.mem_of_getElem? (i := 14) rfl)
theorem w_698 : Cond.methodLink "CaveEchoes" 233 yX4_heardAt ∈ am_GT := wc_16_ok _ (List.mem_of_getElem? (i := 15) rfl)
theorem w_699 : Cond.methodLink "CaveEchoes" 222 yX3_write ∈ am_GT := wc_16_ok _ (List.mem_of_getElem? (i := 16) rfl)
theorem w_700 : Cond.instanceMethod yX3_write ∈ am_GT := wc_16_ok _ (List.mem_of_getElem? (i := 17) rfl)
theorem w_701 : Cond.selects "CaveEchoes$Paper" yX3_write yX3_write ∈ am_GT := wc_16_ok _ (List.mem_of_getElem? (i := 18) rfl)
theorem w_702 : Cond.code yX3_write prog_5_method_2_code 4 none ∈ am_GT := wc_16_ok _ (List.mem_of_getElem? (i := 19) rfl)
theorem w_703 : Cond.methodLink "CaveEchoes$Paper" 31 yX3_writeNumber ∈ am_GT := wc_16_ok _ (List.mem_of_getElem? (i := 20) rfl)
theorem w_704 : Cond.instanceMethod yX3_writeNumber ∈ am_GT := wc_16_ok _ (List.mem_of_getElem? (i := 21) rfl)
theorem w_705 : Cond.selects "CaveEchoes$Paper" yX3_writeNumber yX3_writeNumber ∈ am_GT := wc_16_ok _ (List.mem_of_getElem? (i := 22) rfl)
theorem w_706 : Cond.code yX3_writeNumber prog_5_method_4_code 4 none ∈ am_GT := wc_16_ok _ (List.mem_of_getElem? (i := 23) rfl)
theorem w_707 : Cond.methodLink "CaveEchoes$Paper" 48 yX3_writeBit ∈ am_GT := wc_16_ok _ (List.mem_of_getElem? (i := 24) rfl)
theorem w_708 : Cond.instanceMethod yX3_writeBit ∈ am_GT := wc_16_ok _ (List.mem_of_getElem? (i := 25) rfl)
theorem w_709 : Cond.selects "CaveEchoes$Paper" yX3_writeBit yX3_writeBit ∈ am_GT := wc_16_ok _ (List.mem_of_getElem? (i := 26) rfl)
theorem w_710 : Cond.code yX3_writeBit prog_5_method_5_code 2 none ∈ am_GT := wc_16_ok _ (List.mem_of_getElem? (i := 27) rfl)
theorem w_712 : Cond.methodLink "CaveEchoes$Paper" 45 yX3_writeFolded ∈ am_GT := wc_16_ok _ (List.mem_of_getElem? (i := 28) rfl)
theorem w_713 : Cond.instanceMethod yX3_writeFolded ∈ am_GT := wc_16_ok _ (List.mem_of_getElem? (i := 29) rfl)
def wc_17 : List Cond := [Cond.selects "CaveEchoes$Paper" yX3_writeFolded yX3_writeFolded, Cond.code yX3_writeFolded prog_5_method_3_code 4 none, Cond.methodLink "CaveEchoes" 226 yX3_isOne, Cond.instanceMethod yX3_isOne, Cond.selects "CaveEchoes$Paper" yX3_isOne yX3_isOne, Cond.code yX3_isOne prog_5_method_6_code 2 (some .boolean), Cond.methodLink "CaveEchoesLaw" 7 yX9_add, Cond.instanceMethod yX9_add, Cond.selects "CaveEchoes" yX9_add yX9_add, Cond.code yX9_add prog_1_method_2_code 2 (some .int), Cond.methodLink "CaveEchoes" 58 yX9_isWithin, Cond.static yX9_isWithin, Cond.code yX9_isWithin prog_1_method_62_code 3 (some .boolean), Cond.methodLink "CaveEchoes" 62 yX9_needArgument, Cond.static yX9_needArgument, Cond.code yX9_needArgument prog_1_method_60_code 1 none, Cond.methodLink "CaveEchoes" 66 yX6_hasRoomFor, Cond.instanceMethod yX6_hasRoomFor, Cond.selects "CaveEchoes$State" yX6_hasRoomFor yX6_hasRoomFor, Cond.code yX6_hasRoomFor prog_8_method_4_code 2 (some .boolean), Cond.methodLink "CaveEchoes" 72 yX9_needPossible, Cond.static yX9_needPossible, Cond.code yX9_needPossible prog_1_method_61_code 1 none, Cond.methodLink "CaveEchoes" 79 yX6_put, Cond.instanceMethod yX6_put, Cond.selects "CaveEchoes$State" yX6_put yX6_put, Cond.code yX6_put prog_8_method_5_code 2 none, Cond.methodLink "CaveEchoes$State" 51 yX6_hasRoomFor, Cond.methodLink "CaveEchoesLaw" 17 yX9_echo, Cond.instanceMethod yX9_echo]
theorem wc_17_ok : ∀ w ∈ wc_17, w ∈ am_GT := am_sub wc_17 714 (by decide +kernel)
theorem w_714 : Cond.selects "CaveEchoes$Paper" yX3_writeFolded yX3_writeFolded ∈ am_GT := wc_17_ok _ (List.mem_of_getElem? (i := 0) rfl)
theorem w_715 : Cond.code yX3_writeFolded prog_5_method_3_code 4 none ∈ am_GT := wc_17_ok _ (List.mem_of_getElem? (i := 1) rfl)
theorem w_716 : Cond.methodLink "CaveEchoes" 226 yX3_isOne ∈ am_GT := wc_17_ok _ (List.mem_of_getElem? (i := 2) rfl)
theorem w_717 : Cond.instanceMethod yX3_isOne ∈ am_GT := wc_17_ok _ (List.mem_of_getElem? (i := 3) rfl)
theorem w_718 : Cond.selects "CaveEchoes$Paper" yX3_isOne yX3_isOne ∈ am_GT := wc_17_ok _ (List.mem_of_getElem? (i := 4) rfl)
theorem w_719 : Cond.code yX3_isOne prog_5_method_6_code 2 (some .boolean) ∈ am_GT := wc_17_ok _ (List.mem_of_getElem? (i := 5) rfl)
theorem w_725 : Cond.methodLink "CaveEchoesLaw" 7 yX9_add ∈ am_GT := wc_17_ok _ (List.mem_of_getElem? (i := 6) rfl)
theorem w_726 : Cond.instanceMethod yX9_add ∈ am_GT := wc_17_ok _ (List.mem_of_getElem? (i := 7) rfl)
theorem w_727 : Cond.selects "CaveEchoes" yX9_add yX9_add ∈ am_GT := wc_17_ok _ (List.mem_of_getElem? (i := 8) rfl)
theorem w_728 : Cond.code yX9_add prog_1_method_2_code 2 (some .int) ∈ am_GT := wc_17_ok _ (List.mem_of_getElem? (i := 9) rfl)
theorem w_729 : Cond.methodLink "CaveEchoes" 58 yX9_isWithin ∈ am_GT := wc_17_ok _ (List.mem_of_getElem? (i := 10) rfl)
theorem w_730 : Cond.static yX9_isWithin ∈ am_GT := wc_17_ok _ (List.mem_of_getElem? (i := 11) rfl)
theorem w_731 : Cond.code yX9_isWithin prog_1_method_62_code 3 (some .boolean) ∈ am_GT := wc_17_ok _ (List.mem_of_getElem? (i := 12) rfl)
theorem w_732 : Cond.methodLink "CaveEchoes" 62 yX9_needArgument ∈ am_GT := wc_17_ok _ (List.mem_of_getElem? (i := 13) rfl)
theorem w_733 : Cond.static yX9_needArgument ∈ am_GT := wc_17_ok _ (List.mem_of_getElem? (i := 14) rfl)
theorem w_734 : Cond.code yX9_needArgument prog_1_method_60_code 1 none ∈ am_GT := wc_17_ok _ (List.mem_of_getElem? (i := 15) rfl)
theorem w_803 : Cond.methodLink "CaveEchoes" 66 yX6_hasRoomFor ∈ am_GT := wc_17_ok _ (List.mem_of_getElem? (i := 16) rfl)
theorem w_804 : Cond.instanceMethod yX6_hasRoomFor ∈ am_GT := wc_17_ok _ (List.mem_of_getElem? (i := 17) rfl)
theorem w_805 : Cond.selects "CaveEchoes$State" yX6_hasRoomFor yX6_hasRoomFor ∈ am_GT := wc_17_ok _ (List.mem_of_getElem? (i := 18) rfl)
theorem w_806 : Cond.code yX6_hasRoomFor prog_8_method_4_code 2 (some .boolean) ∈ am_GT := wc_17_ok _ (List.mem_of_getElem? (i := 19) rfl)
theorem w_807 : Cond.methodLink "CaveEchoes" 72 yX9_needPossible ∈ am_GT := wc_17_ok _ (List.mem_of_getElem? (i := 20) rfl)
theorem w_808 : Cond.static yX9_needPossible ∈ am_GT := wc_17_ok _ (List.mem_of_getElem? (i := 21) rfl)
theorem w_809 : Cond.code yX9_needPossible prog_1_method_61_code 1 none ∈ am_GT := wc_17_ok _ (List.mem_of_getElem? (i := 22) rfl)
theorem w_826 : Cond.methodLink "CaveEchoes" 79 yX6_put ∈ am_GT := wc_17_ok _ (List.mem_of_getElem? (i := 23) rfl)
theorem w_827 : Cond.instanceMethod yX6_put ∈ am_GT := wc_17_ok _ (List.mem_of_getElem? (i := 24) rfl)
theorem w_828 : Cond.selects "CaveEchoes$State" yX6_put yX6_put ∈ am_GT := wc_17_ok _ (List.mem_of_getElem? (i := 25) rfl)
theorem w_829 : Cond.code yX6_put prog_8_method_5_code 2 none ∈ am_GT := wc_17_ok _ (List.mem_of_getElem? (i := 26) rfl)
theorem w_830 : Cond.methodLink "CaveEchoes$State" 51 yX6_hasRoomFor ∈ am_GT := wc_17_ok _ (List.mem_of_getElem? (i := 27) rfl)
theorem w_834 : Cond.methodLink "CaveEchoesLaw" 17 yX9_echo ∈ am_GT := wc_17_ok _ (List.mem_of_getElem? (i := 28) rfl)
theorem w_835 : Cond.instanceMethod yX9_echo ∈ am_GT := wc_17_ok _ (List.mem_of_getElem? (i := 29) rfl)
def wc_18 : List Cond := [Cond.selects "CaveEchoes" yX9_echo yX9_echo, Cond.code yX9_echo prog_1_method_3_code 5 (some .int), Cond.methodLink "CaveEchoes" 91 yJ9_floorDiv_7cf53, Cond.methodLink "CaveEchoesLaw" 21 yX9_change, Cond.instanceMethod yX9_change, Cond.selects "CaveEchoes" yX9_change yX9_change, Cond.code yX9_change prog_1_method_4_code 4 (some .int), Cond.methodLink "CaveEchoes" 97 yX9_needIndex, Cond.static yX9_needIndex, Cond.code yX9_needIndex prog_1_method_59_code 1 none, Cond.methodLink "CaveEchoesLaw" 27 yX9_drop, Cond.instanceMethod yX9_drop, Cond.selects "CaveEchoes" yX9_drop yX9_drop, Cond.code yX9_drop prog_1_method_5_code 1 (some .int), Cond.methodLink "CaveEchoesLaw" 31 yX9_setDelay, Cond.instanceMethod yX9_setDelay, Cond.selects "CaveEchoes" yX9_setDelay yX9_setDelay, Cond.code yX9_setDelay prog_1_method_7_code 3 (some .int), Cond.methodLink "CaveEchoesLaw" 34 yX9_setSpeed, Cond.instanceMethod yX9_setSpeed, Cond.selects "CaveEchoes" yX9_setSpeed yX9_setSpeed, Cond.code yX9_setSpeed prog_1_method_8_code 3 (some .int), Cond.methodLink "CaveEchoesLaw" 37 yX9_setWeight, Cond.instanceMethod yX9_setWeight, Cond.selects "CaveEchoes" yX9_setWeight yX9_setWeight, Cond.code yX9_setWeight prog_1_method_9_code 4 (some .int), Cond.methodLink "CaveEchoesLaw" 40 yX9_turnKind, Cond.instanceMethod yX9_turnKind, Cond.selects "CaveEchoes" yX9_turnKind yX9_turnKind, Cond.code yX9_turnKind prog_1_method_10_code 2 (some .boolean)]
theorem wc_18_ok : ∀ w ∈ wc_18, w ∈ am_GT := am_sub wc_18 836 (by decide +kernel)
theorem w_836 : Cond.selects "CaveEchoes" yX9_echo yX9_echo ∈ am_GT := wc_18_ok _ (List.mem_of_getElem? (i := 0) rfl)
theorem w_837 : Cond.code yX9_echo prog_1_method_3_code 5 (some .int) ∈ am_GT := wc_18_ok _ (List.mem_of_getElem? (i := 1) rfl)
theorem w_838 : Cond.methodLink "CaveEchoes" 91 yJ9_floorDiv_7cf53 ∈ am_GT := wc_18_ok _ (List.mem_of_getElem? (i := 2) rfl)
theorem w_843 : Cond.methodLink "CaveEchoesLaw" 21 yX9_change ∈ am_GT := wc_18_ok _ (List.mem_of_getElem? (i := 3) rfl)
theorem w_844 : Cond.instanceMethod yX9_change ∈ am_GT := wc_18_ok _ (List.mem_of_getElem? (i := 4) rfl)
theorem w_845 : Cond.selects "CaveEchoes" yX9_change yX9_change ∈ am_GT := wc_18_ok _ (List.mem_of_getElem? (i := 5) rfl)
theorem w_846 : Cond.code yX9_change prog_1_method_4_code 4 (some .int) ∈ am_GT := wc_18_ok _ (List.mem_of_getElem? (i := 6) rfl)
theorem w_847 : Cond.methodLink "CaveEchoes" 97 yX9_needIndex ∈ am_GT := wc_18_ok _ (List.mem_of_getElem? (i := 7) rfl)
theorem w_848 : Cond.static yX9_needIndex ∈ am_GT := wc_18_ok _ (List.mem_of_getElem? (i := 8) rfl)
theorem w_849 : Cond.code yX9_needIndex prog_1_method_59_code 1 none ∈ am_GT := wc_18_ok _ (List.mem_of_getElem? (i := 9) rfl)
theorem w_869 : Cond.methodLink "CaveEchoesLaw" 27 yX9_drop ∈ am_GT := wc_18_ok _ (List.mem_of_getElem? (i := 10) rfl)
theorem w_870 : Cond.instanceMethod yX9_drop ∈ am_GT := wc_18_ok _ (List.mem_of_getElem? (i := 11) rfl)
theorem w_871 : Cond.selects "CaveEchoes" yX9_drop yX9_drop ∈ am_GT := wc_18_ok _ (List.mem_of_getElem? (i := 12) rfl)
theorem w_872 : Cond.code yX9_drop prog_1_method_5_code 1 (some .int) ∈ am_GT := wc_18_ok _ (List.mem_of_getElem? (i := 13) rfl)
theorem w_876 : Cond.methodLink "CaveEchoesLaw" 31 yX9_setDelay ∈ am_GT := wc_18_ok _ (List.mem_of_getElem? (i := 14) rfl)
theorem w_877 : Cond.instanceMethod yX9_setDelay ∈ am_GT := wc_18_ok _ (List.mem_of_getElem? (i := 15) rfl)
theorem w_878 : Cond.selects "CaveEchoes" yX9_setDelay yX9_setDelay ∈ am_GT := wc_18_ok _ (List.mem_of_getElem? (i := 16) rfl)
theorem w_879 : Cond.code yX9_setDelay prog_1_method_7_code 3 (some .int) ∈ am_GT := wc_18_ok _ (List.mem_of_getElem? (i := 17) rfl)
theorem w_883 : Cond.methodLink "CaveEchoesLaw" 34 yX9_setSpeed ∈ am_GT := wc_18_ok _ (List.mem_of_getElem? (i := 18) rfl)
theorem w_884 : Cond.instanceMethod yX9_setSpeed ∈ am_GT := wc_18_ok _ (List.mem_of_getElem? (i := 19) rfl)
theorem w_885 : Cond.selects "CaveEchoes" yX9_setSpeed yX9_setSpeed ∈ am_GT := wc_18_ok _ (List.mem_of_getElem? (i := 20) rfl)
theorem w_886 : Cond.code yX9_setSpeed prog_1_method_8_code 3 (some .int) ∈ am_GT := wc_18_ok _ (List.mem_of_getElem? (i := 21) rfl)
theorem w_890 : Cond.methodLink "CaveEchoesLaw" 37 yX9_setWeight ∈ am_GT := wc_18_ok _ (List.mem_of_getElem? (i := 22) rfl)
theorem w_891 : Cond.instanceMethod yX9_setWeight ∈ am_GT := wc_18_ok _ (List.mem_of_getElem? (i := 23) rfl)
theorem w_892 : Cond.selects "CaveEchoes" yX9_setWeight yX9_setWeight ∈ am_GT := wc_18_ok _ (List.mem_of_getElem? (i := 24) rfl)
theorem w_893 : Cond.code yX9_setWeight prog_1_method_9_code 4 (some .int) ∈ am_GT := wc_18_ok _ (List.mem_of_getElem? (i := 25) rfl)
theorem w_897 : Cond.methodLink "CaveEchoesLaw" 40 yX9_turnKind ∈ am_GT := wc_18_ok _ (List.mem_of_getElem? (i := 26) rfl)
theorem w_898 : Cond.instanceMethod yX9_turnKind ∈ am_GT := wc_18_ok _ (List.mem_of_getElem? (i := 27) rfl)
theorem w_899 : Cond.selects "CaveEchoes" yX9_turnKind yX9_turnKind ∈ am_GT := wc_18_ok _ (List.mem_of_getElem? (i := 28) rfl)
theorem w_900 : Cond.code yX9_turnKind prog_1_method_10_code 2 (some .boolean) ∈ am_GT := wc_18_ok _ (List.mem_of_getElem? (i := 29) rfl)
def wc_19 : List Cond := [Cond.methodLink "CaveEchoes" 113 yX9_isKind, Cond.static yX9_isKind, Cond.code yX9_isKind prog_1_method_63_code 1 (some .boolean), Cond.methodLink "CaveEchoes" 116 yX6_canTurn, Cond.instanceMethod yX6_canTurn, Cond.selects "CaveEchoes$State" yX6_canTurn yX6_canTurn, Cond.code yX6_canTurn prog_8_method_7_code 2 (some .boolean), Cond.methodLink "CaveEchoes" 119 yX6_turn, Cond.instanceMethod yX6_turn, Cond.selects "CaveEchoes$State" yX6_turn yX6_turn, Cond.code yX6_turn prog_8_method_8_code 2 none, Cond.methodLink "CaveEchoes" 122 yX6_allows, Cond.methodLink "CaveEchoesLaw" 44 yX9_send, Cond.instanceMethod yX9_send, Cond.selects "CaveEchoes" yX9_send yX9_send, Cond.code yX9_send prog_1_method_11_code 1 (some .int), Cond.methodLink "CaveEchoes" 125 yX9_writeLetter, Cond.instanceMethod yX9_writeLetter, Cond.code yX9_writeLetter prog_1_method_72_code 4 (some .boolean), Cond.methodLink "CaveEchoes" 154 yX7_follow, Cond.methodLink "CaveEchoes" 316 yX7_findParameters, Cond.methodLink "CaveEchoesLaw" 47 yX9_tamper, Cond.instanceMethod yX9_tamper, Cond.selects "CaveEchoes" yX9_tamper yX9_tamper, Cond.code yX9_tamper prog_1_method_12_code 4 (some .int), Cond.methodLink "CaveEchoes" 139 yX9_isTold, Cond.instanceMethod yX9_isTold, Cond.code yX9_isTold prog_1_method_65_code 2 (some .boolean), Cond.methodLink "CaveEchoesLaw" 50 yX9_sampleAt, Cond.instanceMethod yX9_sampleAt]
theorem wc_19_ok : ∀ w ∈ wc_19, w ∈ am_GT := am_sub wc_19 901 (by decide +kernel)
theorem w_901 : Cond.methodLink "CaveEchoes" 113 yX9_isKind ∈ am_GT := wc_19_ok _ (List.mem_of_getElem? (i := 0) rfl)
theorem w_902 : Cond.static yX9_isKind ∈ am_GT := wc_19_ok _ (List.mem_of_getElem? (i := 1) rfl)
theorem w_903 : Cond.code yX9_isKind prog_1_method_63_code 1 (some .boolean) ∈ am_GT := wc_19_ok _ (List.mem_of_getElem? (i := 2) rfl)
theorem w_904 : Cond.methodLink "CaveEchoes" 116 yX6_canTurn ∈ am_GT := wc_19_ok _ (List.mem_of_getElem? (i := 3) rfl)
theorem w_905 : Cond.instanceMethod yX6_canTurn ∈ am_GT := wc_19_ok _ (List.mem_of_getElem? (i := 4) rfl)
theorem w_906 : Cond.selects "CaveEchoes$State" yX6_canTurn yX6_canTurn ∈ am_GT := wc_19_ok _ (List.mem_of_getElem? (i := 5) rfl)
theorem w_907 : Cond.code yX6_canTurn prog_8_method_7_code 2 (some .boolean) ∈ am_GT := wc_19_ok _ (List.mem_of_getElem? (i := 6) rfl)
theorem w_908 : Cond.methodLink "CaveEchoes" 119 yX6_turn ∈ am_GT := wc_19_ok _ (List.mem_of_getElem? (i := 7) rfl)
theorem w_909 : Cond.instanceMethod yX6_turn ∈ am_GT := wc_19_ok _ (List.mem_of_getElem? (i := 8) rfl)
theorem w_910 : Cond.selects "CaveEchoes$State" yX6_turn yX6_turn ∈ am_GT := wc_19_ok _ (List.mem_of_getElem? (i := 9) rfl)
theorem w_911 : Cond.code yX6_turn prog_8_method_8_code 2 none ∈ am_GT := wc_19_ok _ (List.mem_of_getElem? (i := 10) rfl)
theorem w_912 : Cond.methodLink "CaveEchoes" 122 yX6_allows ∈ am_GT := wc_19_ok _ (List.mem_of_getElem? (i := 11) rfl)
theorem w_916 : Cond.methodLink "CaveEchoesLaw" 44 yX9_send ∈ am_GT := wc_19_ok _ (List.mem_of_getElem? (i := 12) rfl)
theorem w_917 : Cond.instanceMethod yX9_send ∈ am_GT := wc_19_ok _ (List.mem_of_getElem? (i := 13) rfl)
theorem w_918 : Cond.selects "CaveEchoes" yX9_send yX9_send ∈ am_GT := wc_19_ok _ (List.mem_of_getElem? (i := 14) rfl)
theorem w_919 : Cond.code yX9_send prog_1_method_11_code 1 (some .int) ∈ am_GT := wc_19_ok _ (List.mem_of_getElem? (i := 15) rfl)
theorem w_920 : Cond.methodLink "CaveEchoes" 125 yX9_writeLetter ∈ am_GT := wc_19_ok _ (List.mem_of_getElem? (i := 16) rfl)
theorem w_922 : Cond.instanceMethod yX9_writeLetter ∈ am_GT := wc_19_ok _ (List.mem_of_getElem? (i := 17) rfl)
theorem w_923 : Cond.code yX9_writeLetter prog_1_method_72_code 4 (some .boolean) ∈ am_GT := wc_19_ok _ (List.mem_of_getElem? (i := 18) rfl)
theorem w_924 : Cond.methodLink "CaveEchoes" 154 yX7_follow ∈ am_GT := wc_19_ok _ (List.mem_of_getElem? (i := 19) rfl)
theorem w_925 : Cond.methodLink "CaveEchoes" 316 yX7_findParameters ∈ am_GT := wc_19_ok _ (List.mem_of_getElem? (i := 20) rfl)
theorem w_930 : Cond.methodLink "CaveEchoesLaw" 47 yX9_tamper ∈ am_GT := wc_19_ok _ (List.mem_of_getElem? (i := 21) rfl)
theorem w_931 : Cond.instanceMethod yX9_tamper ∈ am_GT := wc_19_ok _ (List.mem_of_getElem? (i := 22) rfl)
theorem w_932 : Cond.selects "CaveEchoes" yX9_tamper yX9_tamper ∈ am_GT := wc_19_ok _ (List.mem_of_getElem? (i := 23) rfl)
theorem w_933 : Cond.code yX9_tamper prog_1_method_12_code 4 (some .int) ∈ am_GT := wc_19_ok _ (List.mem_of_getElem? (i := 24) rfl)
theorem w_934 : Cond.methodLink "CaveEchoes" 139 yX9_isTold ∈ am_GT := wc_19_ok _ (List.mem_of_getElem? (i := 25) rfl)
theorem w_936 : Cond.instanceMethod yX9_isTold ∈ am_GT := wc_19_ok _ (List.mem_of_getElem? (i := 26) rfl)
theorem w_937 : Cond.code yX9_isTold prog_1_method_65_code 2 (some .boolean) ∈ am_GT := wc_19_ok _ (List.mem_of_getElem? (i := 27) rfl)
theorem w_941 : Cond.methodLink "CaveEchoesLaw" 50 yX9_sampleAt ∈ am_GT := wc_19_ok _ (List.mem_of_getElem? (i := 28) rfl)
theorem w_942 : Cond.instanceMethod yX9_sampleAt ∈ am_GT := wc_19_ok _ (List.mem_of_getElem? (i := 29) rfl)
def wc_20 : List Cond := [Cond.selects "CaveEchoes" yX9_sampleAt yX9_sampleAt, Cond.code yX9_sampleAt prog_1_method_14_code 2 (some .int), Cond.methodLink "CaveEchoesLaw" 53 yX9_firstWeight, Cond.instanceMethod yX9_firstWeight, Cond.selects "CaveEchoes" yX9_firstWeight yX9_firstWeight, Cond.code yX9_firstWeight prog_1_method_19_code 2 (some .int), Cond.methodLink "CaveEchoesLaw" 56 yX9_weightAt, Cond.instanceMethod yX9_weightAt, Cond.selects "CaveEchoes" yX9_weightAt yX9_weightAt, Cond.code yX9_weightAt prog_1_method_21_code 3 (some .int), Cond.methodLink "CaveEchoesLaw" 59 yX9_weightByCounting, Cond.instanceMethod yX9_weightByCounting, Cond.selects "CaveEchoes" yX9_weightByCounting yX9_weightByCounting, Cond.code yX9_weightByCounting prog_1_method_22_code 3 (some .int), Cond.methodLink "CaveEchoes" 161 yX7_countRises, Cond.instanceMethod yX7_countRises, Cond.selects "CaveEchoes$Study" yX7_countRises yX7_countRises, Cond.code yX7_countRises prog_9_method_4_code 7 (some .int), Cond.methodLink "CaveEchoesLaw" 62 yX9_foretold, Cond.instanceMethod yX9_foretold, Cond.selects "CaveEchoes" yX9_foretold yX9_foretold, Cond.code yX9_foretold prog_1_method_23_code 3 (some .int), Cond.methodLink "CaveEchoesLaw" 65 yX9_leftOver, Cond.instanceMethod yX9_leftOver, Cond.selects "CaveEchoes" yX9_leftOver yX9_leftOver, Cond.code yX9_leftOver prog_1_method_24_code 3 (some .int), Cond.methodLink "CaveEchoesLaw" 68 yX9_sumOf, Cond.instanceMethod yX9_sumOf, Cond.selects "CaveEchoes" yX9_sumOf yX9_sumOf, Cond.code yX9_sumOf prog_1_method_25_code 2 (some .int)]
theorem wc_20_ok : ∀ w ∈ wc_20, w ∈ am_GT := am_sub wc_20 943 (by decide +kernel)
theorem w_943 : Cond.selects "CaveEchoes" yX9_sampleAt yX9_sampleAt ∈ am_GT := wc_20_ok _ (List.mem_of_getElem? (i := 0) rfl)
theorem w_944 : Cond.code yX9_sampleAt prog_1_method_14_code 2 (some .int) ∈ am_GT := wc_20_ok _ (List.mem_of_getElem? (i := 1) rfl)
theorem w_948 : Cond.methodLink "CaveEchoesLaw" 53 yX9_firstWeight ∈ am_GT := wc_20_ok _ (List.mem_of_getElem? (i := 2) rfl)
theorem w_949 : Cond.instanceMethod yX9_firstWeight ∈ am_GT := wc_20_ok _ (List.mem_of_getElem? (i := 3) rfl)
theorem w_950 : Cond.selects "CaveEchoes" yX9_firstWeight yX9_firstWeight ∈ am_GT := wc_20_ok _ (List.mem_of_getElem? (i := 4) rfl)
theorem w_951 : Cond.code yX9_firstWeight prog_1_method_19_code 2 (some .int) ∈ am_GT := wc_20_ok _ (List.mem_of_getElem? (i := 5) rfl)
theorem w_955 : Cond.methodLink "CaveEchoesLaw" 56 yX9_weightAt ∈ am_GT := wc_20_ok _ (List.mem_of_getElem? (i := 6) rfl)
theorem w_956 : Cond.instanceMethod yX9_weightAt ∈ am_GT := wc_20_ok _ (List.mem_of_getElem? (i := 7) rfl)
theorem w_957 : Cond.selects "CaveEchoes" yX9_weightAt yX9_weightAt ∈ am_GT := wc_20_ok _ (List.mem_of_getElem? (i := 8) rfl)
theorem w_958 : Cond.code yX9_weightAt prog_1_method_21_code 3 (some .int) ∈ am_GT := wc_20_ok _ (List.mem_of_getElem? (i := 9) rfl)
theorem w_962 : Cond.methodLink "CaveEchoesLaw" 59 yX9_weightByCounting ∈ am_GT := wc_20_ok _ (List.mem_of_getElem? (i := 10) rfl)
theorem w_963 : Cond.instanceMethod yX9_weightByCounting ∈ am_GT := wc_20_ok _ (List.mem_of_getElem? (i := 11) rfl)
theorem w_964 : Cond.selects "CaveEchoes" yX9_weightByCounting yX9_weightByCounting ∈ am_GT := wc_20_ok _ (List.mem_of_getElem? (i := 12) rfl)
theorem w_965 : Cond.code yX9_weightByCounting prog_1_method_22_code 3 (some .int) ∈ am_GT := wc_20_ok _ (List.mem_of_getElem? (i := 13) rfl)
theorem w_966 : Cond.methodLink "CaveEchoes" 161 yX7_countRises ∈ am_GT := wc_20_ok _ (List.mem_of_getElem? (i := 14) rfl)
theorem w_967 : Cond.instanceMethod yX7_countRises ∈ am_GT := wc_20_ok _ (List.mem_of_getElem? (i := 15) rfl)
theorem w_968 : Cond.selects "CaveEchoes$Study" yX7_countRises yX7_countRises ∈ am_GT := wc_20_ok _ (List.mem_of_getElem? (i := 16) rfl)
theorem w_969 : Cond.code yX7_countRises prog_9_method_4_code 7 (some .int) ∈ am_GT := wc_20_ok _ (List.mem_of_getElem? (i := 17) rfl)
theorem w_974 : Cond.methodLink "CaveEchoesLaw" 62 yX9_foretold ∈ am_GT := wc_20_ok _ (List.mem_of_getElem? (i := 18) rfl)
theorem w_975 : Cond.instanceMethod yX9_foretold ∈ am_GT := wc_20_ok _ (List.mem_of_getElem? (i := 19) rfl)
theorem w_976 : Cond.selects "CaveEchoes" yX9_foretold yX9_foretold ∈ am_GT := wc_20_ok _ (List.mem_of_getElem? (i := 20) rfl)
theorem w_977 : Cond.code yX9_foretold prog_1_method_23_code 3 (some .int) ∈ am_GT := wc_20_ok _ (List.mem_of_getElem? (i := 21) rfl)
theorem w_981 : Cond.methodLink "CaveEchoesLaw" 65 yX9_leftOver ∈ am_GT := wc_20_ok _ (List.mem_of_getElem? (i := 22) rfl)
theorem w_982 : Cond.instanceMethod yX9_leftOver ∈ am_GT := wc_20_ok _ (List.mem_of_getElem? (i := 23) rfl)
theorem w_983 : Cond.selects "CaveEchoes" yX9_leftOver yX9_leftOver ∈ am_GT := wc_20_ok _ (List.mem_of_getElem? (i := 24) rfl)
theorem w_984 : Cond.code yX9_leftOver prog_1_method_24_code 3 (some .int) ∈ am_GT := wc_20_ok _ (List.mem_of_getElem? (i := 25) rfl)
theorem w_988 : Cond.methodLink "CaveEchoesLaw" 68 yX9_sumOf ∈ am_GT := wc_20_ok _ (List.mem_of_getElem? (i := 26) rfl)
theorem w_989 : Cond.instanceMethod yX9_sumOf ∈ am_GT := wc_20_ok _ (List.mem_of_getElem? (i := 27) rfl)
theorem w_990 : Cond.selects "CaveEchoes" yX9_sumOf yX9_sumOf ∈ am_GT := wc_20_ok _ (List.mem_of_getElem? (i := 28) rfl)
theorem w_991 : Cond.code yX9_sumOf prog_1_method_25_code 2 (some .int) ∈ am_GT := wc_20_ok _ (List.mem_of_getElem? (i := 29) rfl)
def wc_21 : List Cond := [Cond.methodLink "CaveEchoesLaw" 71 yX9_sumWithDelay, Cond.instanceMethod yX9_sumWithDelay, Cond.selects "CaveEchoes" yX9_sumWithDelay yX9_sumWithDelay, Cond.code yX9_sumWithDelay prog_1_method_26_code 2 (some .int), Cond.methodLink "CaveEchoes" 173 yX7_sumIf, Cond.methodLink "CaveEchoesLaw" 74 yX9_bestFirst, Cond.instanceMethod yX9_bestFirst, Cond.selects "CaveEchoes" yX9_bestFirst yX9_bestFirst, Cond.code yX9_bestFirst prog_1_method_29_code 2 (some .int), Cond.methodLink "CaveEchoesLaw" 77 yX9_bitsWith, Cond.instanceMethod yX9_bitsWith, Cond.selects "CaveEchoes" yX9_bitsWith yX9_bitsWith, Cond.code yX9_bitsWith prog_1_method_30_code 4 (some .int), Cond.methodLink "CaveEchoes" 186 yX9_isBlock, Cond.instanceMethod yX9_isBlock, Cond.code yX9_isBlock prog_1_method_64_code 2 (some .boolean), Cond.methodLink "CaveEchoes" 189 yX7_countBits, Cond.methodLink "CaveEchoesLaw" 80 yX9_bestParameter, Cond.instanceMethod yX9_bestParameter, Cond.selects "CaveEchoes" yX9_bestParameter yX9_bestParameter, Cond.code yX9_bestParameter prog_1_method_31_code 3 (some .int), Cond.methodLink "CaveEchoesLaw" 83 yX9_bestKind, Cond.instanceMethod yX9_bestKind, Cond.selects "CaveEchoes" yX9_bestKind yX9_bestKind, Cond.code yX9_bestKind prog_1_method_32_code 2 (some .int), Cond.methodLink "CaveEchoesLaw" 86 yX9_whyBest, Cond.instanceMethod yX9_whyBest, Cond.selects "CaveEchoes" yX9_whyBest yX9_whyBest, Cond.code yX9_whyBest prog_1_method_33_code 2 (some .int), Cond.methodLink "CaveEchoesLaw" 89 yX9_blocksWith]
theorem wc_21_ok : ∀ w ∈ wc_21, w ∈ am_GT := am_sub wc_21 995 (by decide +kernel)
theorem w_995 : Cond.methodLink "CaveEchoesLaw" 71 yX9_sumWithDelay ∈ am_GT := wc_21_ok _ (List.mem_of_getElem? (i := 0) rfl)
theorem w_996 : Cond.instanceMethod yX9_sumWithDelay ∈ am_GT := wc_21_ok _ (List.mem_of_getElem? (i := 1) rfl)
theorem w_997 : Cond.selects "CaveEchoes" yX9_sumWithDelay yX9_sumWithDelay ∈ am_GT := wc_21_ok _ (List.mem_of_getElem? (i := 2) rfl)
theorem w_998 : Cond.code yX9_sumWithDelay prog_1_method_26_code 2 (some .int) ∈ am_GT := wc_21_ok _ (List.mem_of_getElem? (i := 3) rfl)
theorem w_999 : Cond.methodLink "CaveEchoes" 173 yX7_sumIf ∈ am_GT := wc_21_ok _ (List.mem_of_getElem? (i := 4) rfl)
theorem w_1003 : Cond.methodLink "CaveEchoesLaw" 74 yX9_bestFirst ∈ am_GT := wc_21_ok _ (List.mem_of_getElem? (i := 5) rfl)
theorem w_1004 : Cond.instanceMethod yX9_bestFirst ∈ am_GT := wc_21_ok _ (List.mem_of_getElem? (i := 6) rfl)
theorem w_1005 : Cond.selects "CaveEchoes" yX9_bestFirst yX9_bestFirst ∈ am_GT := wc_21_ok _ (List.mem_of_getElem? (i := 7) rfl)
theorem w_1006 : Cond.code yX9_bestFirst prog_1_method_29_code 2 (some .int) ∈ am_GT := wc_21_ok _ (List.mem_of_getElem? (i := 8) rfl)
theorem w_1010 : Cond.methodLink "CaveEchoesLaw" 77 yX9_bitsWith ∈ am_GT := wc_21_ok _ (List.mem_of_getElem? (i := 9) rfl)
theorem w_1011 : Cond.instanceMethod yX9_bitsWith ∈ am_GT := wc_21_ok _ (List.mem_of_getElem? (i := 10) rfl)
theorem w_1012 : Cond.selects "CaveEchoes" yX9_bitsWith yX9_bitsWith ∈ am_GT := wc_21_ok _ (List.mem_of_getElem? (i := 11) rfl)
theorem w_1013 : Cond.code yX9_bitsWith prog_1_method_30_code 4 (some .int) ∈ am_GT := wc_21_ok _ (List.mem_of_getElem? (i := 12) rfl)
theorem w_1014 : Cond.methodLink "CaveEchoes" 186 yX9_isBlock ∈ am_GT := wc_21_ok _ (List.mem_of_getElem? (i := 13) rfl)
theorem w_1016 : Cond.instanceMethod yX9_isBlock ∈ am_GT := wc_21_ok _ (List.mem_of_getElem? (i := 14) rfl)
theorem w_1017 : Cond.code yX9_isBlock prog_1_method_64_code 2 (some .boolean) ∈ am_GT := wc_21_ok _ (List.mem_of_getElem? (i := 15) rfl)
theorem w_1018 : Cond.methodLink "CaveEchoes" 189 yX7_countBits ∈ am_GT := wc_21_ok _ (List.mem_of_getElem? (i := 16) rfl)
theorem w_1022 : Cond.methodLink "CaveEchoesLaw" 80 yX9_bestParameter ∈ am_GT := wc_21_ok _ (List.mem_of_getElem? (i := 17) rfl)
theorem w_1023 : Cond.instanceMethod yX9_bestParameter ∈ am_GT := wc_21_ok _ (List.mem_of_getElem? (i := 18) rfl)
theorem w_1024 : Cond.selects "CaveEchoes" yX9_bestParameter yX9_bestParameter ∈ am_GT := wc_21_ok _ (List.mem_of_getElem? (i := 19) rfl)
theorem w_1025 : Cond.code yX9_bestParameter prog_1_method_31_code 3 (some .int) ∈ am_GT := wc_21_ok _ (List.mem_of_getElem? (i := 20) rfl)
theorem w_1029 : Cond.methodLink "CaveEchoesLaw" 83 yX9_bestKind ∈ am_GT := wc_21_ok _ (List.mem_of_getElem? (i := 21) rfl)
theorem w_1030 : Cond.instanceMethod yX9_bestKind ∈ am_GT := wc_21_ok _ (List.mem_of_getElem? (i := 22) rfl)
theorem w_1031 : Cond.selects "CaveEchoes" yX9_bestKind yX9_bestKind ∈ am_GT := wc_21_ok _ (List.mem_of_getElem? (i := 23) rfl)
theorem w_1032 : Cond.code yX9_bestKind prog_1_method_32_code 2 (some .int) ∈ am_GT := wc_21_ok _ (List.mem_of_getElem? (i := 24) rfl)
theorem w_1036 : Cond.methodLink "CaveEchoesLaw" 86 yX9_whyBest ∈ am_GT := wc_21_ok _ (List.mem_of_getElem? (i := 25) rfl)
theorem w_1037 : Cond.instanceMethod yX9_whyBest ∈ am_GT := wc_21_ok _ (List.mem_of_getElem? (i := 26) rfl)
theorem w_1038 : Cond.selects "CaveEchoes" yX9_whyBest yX9_whyBest ∈ am_GT := wc_21_ok _ (List.mem_of_getElem? (i := 27) rfl)
theorem w_1039 : Cond.code yX9_whyBest prog_1_method_33_code 2 (some .int) ∈ am_GT := wc_21_ok _ (List.mem_of_getElem? (i := 28) rfl)
theorem w_1043 : Cond.methodLink "CaveEchoesLaw" 89 yX9_blocksWith ∈ am_GT := wc_21_ok _ (List.mem_of_getElem? (i := 29) rfl)
def wc_22 : List Cond := [Cond.instanceMethod yX9_blocksWith, Cond.selects "CaveEchoes" yX9_blocksWith yX9_blocksWith, Cond.code yX9_blocksWith prog_1_method_36_code 2 (some .int), Cond.methodLink "CaveEchoesLaw" 92 yX9_bitsIfOnly, Cond.instanceMethod yX9_bitsIfOnly, Cond.selects "CaveEchoes" yX9_bitsIfOnly yX9_bitsIfOnly, Cond.code yX9_bitsIfOnly prog_1_method_37_code 2 (some .int), Cond.methodLink "CaveEchoesLaw" 95 yX9_letterKind, Cond.instanceMethod yX9_letterKind, Cond.selects "CaveEchoes" yX9_letterKind yX9_letterKind, Cond.code yX9_letterKind prog_1_method_39_code 2 (some .int), Cond.methodLink "CaveEchoesLaw" 98 yX9_letterParameter, Cond.instanceMethod yX9_letterParameter, Cond.selects "CaveEchoes" yX9_letterParameter yX9_letterParameter, Cond.code yX9_letterParameter prog_1_method_40_code 2 (some .int), Cond.methodLink "CaveEchoesLaw" 101 yX9_letterLeft, Cond.instanceMethod yX9_letterLeft, Cond.selects "CaveEchoes" yX9_letterLeft yX9_letterLeft, Cond.code yX9_letterLeft prog_1_method_41_code 2 (some .int), Cond.methodLink "CaveEchoesLaw" 104 yX9_letterBit, Cond.instanceMethod yX9_letterBit, Cond.selects "CaveEchoes" yX9_letterBit yX9_letterBit, Cond.code yX9_letterBit prog_1_method_43_code 2 (some .boolean), Cond.methodLink "CaveEchoesLaw" 107 yX9_heard, Cond.instanceMethod yX9_heard, Cond.selects "CaveEchoes" yX9_heard yX9_heard, Cond.code yX9_heard prog_1_method_44_code 2 (some .int), Cond.methodLink "CaveEchoesLaw" 110 yX9_heardByBits, Cond.instanceMethod yX9_heardByBits, Cond.selects "CaveEchoes" yX9_heardByBits yX9_heardByBits]
theorem wc_22_ok : ∀ w ∈ wc_22, w ∈ am_GT := am_sub wc_22 1044 (by decide +kernel)
theorem w_1044 : Cond.instanceMethod yX9_blocksWith ∈ am_GT := wc_22_ok _ (List.mem_of_getElem? (i := 0) rfl)
theorem w_1045 : Cond.selects "CaveEchoes" yX9_blocksWith yX9_blocksWith ∈ am_GT := wc_22_ok _ (List.mem_of_getElem? (i := 1) rfl)
theorem w_1046 : Cond.code yX9_blocksWith prog_1_method_36_code 2 (some .int) ∈ am_GT := wc_22_ok _ (List.mem_of_getElem? (i := 2) rfl)
theorem w_1050 : Cond.methodLink "CaveEchoesLaw" 92 yX9_bitsIfOnly ∈ am_GT := wc_22_ok _ (List.mem_of_getElem? (i := 3) rfl)
theorem w_1051 : Cond.instanceMethod yX9_bitsIfOnly ∈ am_GT := wc_22_ok _ (List.mem_of_getElem? (i := 4) rfl)
theorem w_1052 : Cond.selects "CaveEchoes" yX9_bitsIfOnly yX9_bitsIfOnly ∈ am_GT := wc_22_ok _ (List.mem_of_getElem? (i := 5) rfl)
theorem w_1053 : Cond.code yX9_bitsIfOnly prog_1_method_37_code 2 (some .int) ∈ am_GT := wc_22_ok _ (List.mem_of_getElem? (i := 6) rfl)
theorem w_1057 : Cond.methodLink "CaveEchoesLaw" 95 yX9_letterKind ∈ am_GT := wc_22_ok _ (List.mem_of_getElem? (i := 7) rfl)
theorem w_1058 : Cond.instanceMethod yX9_letterKind ∈ am_GT := wc_22_ok _ (List.mem_of_getElem? (i := 8) rfl)
theorem w_1059 : Cond.selects "CaveEchoes" yX9_letterKind yX9_letterKind ∈ am_GT := wc_22_ok _ (List.mem_of_getElem? (i := 9) rfl)
theorem w_1060 : Cond.code yX9_letterKind prog_1_method_39_code 2 (some .int) ∈ am_GT := wc_22_ok _ (List.mem_of_getElem? (i := 10) rfl)
theorem w_1064 : Cond.methodLink "CaveEchoesLaw" 98 yX9_letterParameter ∈ am_GT := wc_22_ok _ (List.mem_of_getElem? (i := 11) rfl)
theorem w_1065 : Cond.instanceMethod yX9_letterParameter ∈ am_GT := wc_22_ok _ (List.mem_of_getElem? (i := 12) rfl)
theorem w_1066 : Cond.selects "CaveEchoes" yX9_letterParameter yX9_letterParameter ∈ am_GT := wc_22_ok _ (List.mem_of_getElem? (i := 13) rfl)
theorem w_1067 : Cond.code yX9_letterParameter prog_1_method_40_code 2 (some .int) ∈ am_GT := wc_22_ok _ (List.mem_of_getElem? (i := 14) rfl)
theorem w_1071 : Cond.methodLink "CaveEchoesLaw" 101 yX9_letterLeft ∈ am_GT := wc_22_ok _ (List.mem_of_getElem? (i := 15) rfl)
theorem w_1072 : Cond.instanceMethod yX9_letterLeft ∈ am_GT := wc_22_ok _ (List.mem_of_getElem? (i := 16) rfl)
theorem w_1073 : Cond.selects "CaveEchoes" yX9_letterLeft yX9_letterLeft ∈ am_GT := wc_22_ok _ (List.mem_of_getElem? (i := 17) rfl)
theorem w_1074 : Cond.code yX9_letterLeft prog_1_method_41_code 2 (some .int) ∈ am_GT := wc_22_ok _ (List.mem_of_getElem? (i := 18) rfl)
theorem w_1078 : Cond.methodLink "CaveEchoesLaw" 104 yX9_letterBit ∈ am_GT := wc_22_ok _ (List.mem_of_getElem? (i := 19) rfl)
theorem w_1079 : Cond.instanceMethod yX9_letterBit ∈ am_GT := wc_22_ok _ (List.mem_of_getElem? (i := 20) rfl)
theorem w_1080 : Cond.selects "CaveEchoes" yX9_letterBit yX9_letterBit ∈ am_GT := wc_22_ok _ (List.mem_of_getElem? (i := 21) rfl)
theorem w_1081 : Cond.code yX9_letterBit prog_1_method_43_code 2 (some .boolean) ∈ am_GT := wc_22_ok _ (List.mem_of_getElem? (i := 22) rfl)
theorem w_1085 : Cond.methodLink "CaveEchoesLaw" 107 yX9_heard ∈ am_GT := wc_22_ok _ (List.mem_of_getElem? (i := 23) rfl)
theorem w_1086 : Cond.instanceMethod yX9_heard ∈ am_GT := wc_22_ok _ (List.mem_of_getElem? (i := 24) rfl)
theorem w_1087 : Cond.selects "CaveEchoes" yX9_heard yX9_heard ∈ am_GT := wc_22_ok _ (List.mem_of_getElem? (i := 25) rfl)
theorem w_1088 : Cond.code yX9_heard prog_1_method_44_code 2 (some .int) ∈ am_GT := wc_22_ok _ (List.mem_of_getElem? (i := 26) rfl)
theorem w_1092 : Cond.methodLink "CaveEchoesLaw" 110 yX9_heardByBits ∈ am_GT := wc_22_ok _ (List.mem_of_getElem? (i := 27) rfl)
theorem w_1093 : Cond.instanceMethod yX9_heardByBits ∈ am_GT := wc_22_ok _ (List.mem_of_getElem? (i := 28) rfl)
theorem w_1094 : Cond.selects "CaveEchoes" yX9_heardByBits yX9_heardByBits ∈ am_GT := wc_22_ok _ (List.mem_of_getElem? (i := 29) rfl)
def wc_23 : List Cond := [Cond.code yX9_heardByBits prog_1_method_45_code 2 (some .int), Cond.methodLink "CaveEchoes" 236 yX4_readBits, Cond.instanceMethod yX4_readBits, Cond.selects "CaveEchoes$Reader" yX4_readBits yX4_readBits, Cond.code yX4_readBits prog_6_method_3_code 7 none, Cond.methodLink "CaveEchoes$Reader" 60 yX3_readNumber, Cond.instanceMethod yX3_readNumber, Cond.selects "CaveEchoes$Paper" yX3_readNumber yX3_readNumber, Cond.code yX3_readNumber prog_5_method_8_code 4 (some .int), Cond.methodLink "CaveEchoes$Paper" 56 yX3_readBit, Cond.instanceMethod yX3_readBit, Cond.selects "CaveEchoes$Paper" yX3_readBit yX3_readBit, Cond.code yX3_readBit prog_5_method_7_code 2 (some .boolean), Cond.methodLink "CaveEchoes$Paper" 52 yX3_isOne, Cond.methodLink "CaveEchoes$Reader" 63 yX3_readFolded, Cond.instanceMethod yX3_readFolded, Cond.selects "CaveEchoes$Paper" yX3_readFolded yX3_readFolded, Cond.code yX3_readFolded prog_5_method_9_code 3 (some .int), Cond.methodLink "CaveEchoes$Paper" 60 yX3_readNumber, Cond.static yX9_unfold, Cond.code yX9_unfold prog_1_method_69_code 1 (some .int), Cond.methodLink "CaveEchoesLaw" 113 yX9_harm, Cond.instanceMethod yX9_harm, Cond.selects "CaveEchoes" yX9_harm yX9_harm, Cond.code yX9_harm prog_1_method_48_code 2 (some .int), Cond.methodLink "CaveEchoesLaw" 116 yX9_keep, Cond.instanceMethod yX9_keep, Cond.selects "CaveEchoes" yX9_keep yX9_keep, Cond.code yX9_keep prog_1_method_51_code 2 (some .int), Cond.methodLink "CaveEchoes" 250 yX5_put]
theorem wc_23_ok : ∀ w ∈ wc_23, w ∈ am_GT := am_sub wc_23 1095 (by decide +kernel)
theorem w_1095 : Cond.code yX9_heardByBits prog_1_method_45_code 2 (some .int) ∈ am_GT := wc_23_ok _ (List.mem_of_getElem? (i := 0) rfl)
theorem w_1096 : Cond.methodLink "CaveEchoes" 236 yX4_readBits ∈ am_GT := wc_23_ok _ (List.mem_of_getElem? (i := 1) rfl)
theorem w_1097 : Cond.instanceMethod yX4_readBits ∈ am_GT := wc_23_ok _ (List.mem_of_getElem? (i := 2) rfl)
theorem w_1098 : Cond.selects "CaveEchoes$Reader" yX4_readBits yX4_readBits ∈ am_GT := wc_23_ok _ (List.mem_of_getElem? (i := 3) rfl)
theorem w_1099 : Cond.code yX4_readBits prog_6_method_3_code 7 none ∈ am_GT := wc_23_ok _ (List.mem_of_getElem? (i := 4) rfl)
theorem w_1100 : Cond.methodLink "CaveEchoes$Reader" 60 yX3_readNumber ∈ am_GT := wc_23_ok _ (List.mem_of_getElem? (i := 5) rfl)
theorem w_1101 : Cond.instanceMethod yX3_readNumber ∈ am_GT := wc_23_ok _ (List.mem_of_getElem? (i := 6) rfl)
theorem w_1102 : Cond.selects "CaveEchoes$Paper" yX3_readNumber yX3_readNumber ∈ am_GT := wc_23_ok _ (List.mem_of_getElem? (i := 7) rfl)
theorem w_1103 : Cond.code yX3_readNumber prog_5_method_8_code 4 (some .int) ∈ am_GT := wc_23_ok _ (List.mem_of_getElem? (i := 8) rfl)
theorem w_1104 : Cond.methodLink "CaveEchoes$Paper" 56 yX3_readBit ∈ am_GT := wc_23_ok _ (List.mem_of_getElem? (i := 9) rfl)
theorem w_1105 : Cond.instanceMethod yX3_readBit ∈ am_GT := wc_23_ok _ (List.mem_of_getElem? (i := 10) rfl)
theorem w_1106 : Cond.selects "CaveEchoes$Paper" yX3_readBit yX3_readBit ∈ am_GT := wc_23_ok _ (List.mem_of_getElem? (i := 11) rfl)
theorem w_1107 : Cond.code yX3_readBit prog_5_method_7_code 2 (some .boolean) ∈ am_GT := wc_23_ok _ (List.mem_of_getElem? (i := 12) rfl)
theorem w_1108 : Cond.methodLink "CaveEchoes$Paper" 52 yX3_isOne ∈ am_GT := wc_23_ok _ (List.mem_of_getElem? (i := 13) rfl)
theorem w_1109 : Cond.methodLink "CaveEchoes$Reader" 63 yX3_readFolded ∈ am_GT := wc_23_ok _ (List.mem_of_getElem? (i := 14) rfl)
theorem w_1110 : Cond.instanceMethod yX3_readFolded ∈ am_GT := wc_23_ok _ (List.mem_of_getElem? (i := 15) rfl)
theorem w_1111 : Cond.selects "CaveEchoes$Paper" yX3_readFolded yX3_readFolded ∈ am_GT := wc_23_ok _ (List.mem_of_getElem? (i := 16) rfl)
theorem w_1112 : Cond.code yX3_readFolded prog_5_method_9_code 3 (some .int) ∈ am_GT := wc_23_ok _ (List.mem_of_getElem? (i := 17) rfl)
theorem w_1113 : Cond.methodLink "CaveEchoes$Paper" 60 yX3_readNumber ∈ am_GT := wc_23_ok _ (List.mem_of_getElem? (i := 18) rfl)
theorem w_1115 : Cond.static yX9_unfold ∈ am_GT := wc_23_ok _ (List.mem_of_getElem? (i := 19) rfl)
theorem w_1116 : Cond.code yX9_unfold prog_1_method_69_code 1 (some .int) ∈ am_GT := wc_23_ok _ (List.mem_of_getElem? (i := 20) rfl)
theorem w_1120 : Cond.methodLink "CaveEchoesLaw" 113 yX9_harm ∈ am_GT := wc_23_ok _ (List.mem_of_getElem? (i := 21) rfl)
theorem w_1121 : Cond.instanceMethod yX9_harm ∈ am_GT := wc_23_ok _ (List.mem_of_getElem? (i := 22) rfl)
theorem w_1122 : Cond.selects "CaveEchoes" yX9_harm yX9_harm ∈ am_GT := wc_23_ok _ (List.mem_of_getElem? (i := 23) rfl)
theorem w_1123 : Cond.code yX9_harm prog_1_method_48_code 2 (some .int) ∈ am_GT := wc_23_ok _ (List.mem_of_getElem? (i := 24) rfl)
theorem w_1127 : Cond.methodLink "CaveEchoesLaw" 116 yX9_keep ∈ am_GT := wc_23_ok _ (List.mem_of_getElem? (i := 25) rfl)
theorem w_1128 : Cond.instanceMethod yX9_keep ∈ am_GT := wc_23_ok _ (List.mem_of_getElem? (i := 26) rfl)
theorem w_1129 : Cond.selects "CaveEchoes" yX9_keep yX9_keep ∈ am_GT := wc_23_ok _ (List.mem_of_getElem? (i := 27) rfl)
theorem w_1130 : Cond.code yX9_keep prog_1_method_51_code 2 (some .int) ∈ am_GT := wc_23_ok _ (List.mem_of_getElem? (i := 28) rfl)
theorem w_1131 : Cond.methodLink "CaveEchoes" 250 yX5_put ∈ am_GT := wc_23_ok _ (List.mem_of_getElem? (i := 29) rfl)
def wc_24 : List Cond := [Cond.instanceMethod yX5_put, Cond.selects "CaveEchoes$Snapshots" yX5_put yX5_put, Cond.code yX5_put prog_7_method_3_code 3 none, Cond.methodLink "CaveEchoes$Snapshots" 22 yX6_copyFrom, Cond.methodLink "CaveEchoesLaw" 119 yX9_goBack, Cond.instanceMethod yX9_goBack, Cond.selects "CaveEchoes" yX9_goBack yX9_goBack, Cond.code yX9_goBack prog_1_method_52_code 2 (some .int), Cond.methodLink "CaveEchoes" 253 yX5_has, Cond.instanceMethod yX5_has, Cond.selects "CaveEchoes$Snapshots" yX5_has yX5_has, Cond.code yX5_has prog_7_method_2_code 2 (some .boolean), Cond.methodLink "CaveEchoes" 256 yX5_restore, Cond.instanceMethod yX5_restore, Cond.selects "CaveEchoes$Snapshots" yX5_restore yX5_restore, Cond.code yX5_restore prog_7_method_4_code 3 none, Cond.methodLink "CaveEchoesLaw" 122 yX9_append, Cond.instanceMethod yX9_append, Cond.selects "CaveEchoes" yX9_append yX9_append, Cond.code yX9_append prog_1_method_53_code 2 (some .int), Cond.methodLink "CaveEchoes" 262 yX8_put, Cond.instanceMethod yX8_put, Cond.selects "CaveEchoes$Works" yX8_put yX8_put, Cond.code yX8_put prog_10_method_2_code 2 none, Cond.methodLink "CaveEchoesLaw" 125 yX9_doWorks, Cond.instanceMethod yX9_doWorks, Cond.selects "CaveEchoes" yX9_doWorks yX9_doWorks, Cond.code yX9_doWorks prog_1_method_56_code 2 (some .int), Cond.methodLink "CaveEchoes" 269 yX8_readWork, Cond.methodLink "CaveEchoes" 272 yX9_doWork]
theorem wc_24_ok : ∀ w ∈ wc_24, w ∈ am_GT := am_sub wc_24 1132 (by decide +kernel)
theorem w_1132 : Cond.instanceMethod yX5_put ∈ am_GT := wc_24_ok _ (List.mem_of_getElem? (i := 0) rfl)
theorem w_1133 : Cond.selects "CaveEchoes$Snapshots" yX5_put yX5_put ∈ am_GT := wc_24_ok _ (List.mem_of_getElem? (i := 1) rfl)
theorem w_1134 : Cond.code yX5_put prog_7_method_3_code 3 none ∈ am_GT := wc_24_ok _ (List.mem_of_getElem? (i := 2) rfl)
theorem w_1135 : Cond.methodLink "CaveEchoes$Snapshots" 22 yX6_copyFrom ∈ am_GT := wc_24_ok _ (List.mem_of_getElem? (i := 3) rfl)
theorem w_1139 : Cond.methodLink "CaveEchoesLaw" 119 yX9_goBack ∈ am_GT := wc_24_ok _ (List.mem_of_getElem? (i := 4) rfl)
theorem w_1140 : Cond.instanceMethod yX9_goBack ∈ am_GT := wc_24_ok _ (List.mem_of_getElem? (i := 5) rfl)
theorem w_1141 : Cond.selects "CaveEchoes" yX9_goBack yX9_goBack ∈ am_GT := wc_24_ok _ (List.mem_of_getElem? (i := 6) rfl)
theorem w_1142 : Cond.code yX9_goBack prog_1_method_52_code 2 (some .int) ∈ am_GT := wc_24_ok _ (List.mem_of_getElem? (i := 7) rfl)
theorem w_1143 : Cond.methodLink "CaveEchoes" 253 yX5_has ∈ am_GT := wc_24_ok _ (List.mem_of_getElem? (i := 8) rfl)
theorem w_1144 : Cond.instanceMethod yX5_has ∈ am_GT := wc_24_ok _ (List.mem_of_getElem? (i := 9) rfl)
theorem w_1145 : Cond.selects "CaveEchoes$Snapshots" yX5_has yX5_has ∈ am_GT := wc_24_ok _ (List.mem_of_getElem? (i := 10) rfl)
theorem w_1146 : Cond.code yX5_has prog_7_method_2_code 2 (some .boolean) ∈ am_GT := wc_24_ok _ (List.mem_of_getElem? (i := 11) rfl)
theorem w_1147 : Cond.methodLink "CaveEchoes" 256 yX5_restore ∈ am_GT := wc_24_ok _ (List.mem_of_getElem? (i := 12) rfl)
theorem w_1148 : Cond.instanceMethod yX5_restore ∈ am_GT := wc_24_ok _ (List.mem_of_getElem? (i := 13) rfl)
theorem w_1149 : Cond.selects "CaveEchoes$Snapshots" yX5_restore yX5_restore ∈ am_GT := wc_24_ok _ (List.mem_of_getElem? (i := 14) rfl)
theorem w_1150 : Cond.code yX5_restore prog_7_method_4_code 3 none ∈ am_GT := wc_24_ok _ (List.mem_of_getElem? (i := 15) rfl)
theorem w_1154 : Cond.methodLink "CaveEchoesLaw" 122 yX9_append ∈ am_GT := wc_24_ok _ (List.mem_of_getElem? (i := 16) rfl)
theorem w_1155 : Cond.instanceMethod yX9_append ∈ am_GT := wc_24_ok _ (List.mem_of_getElem? (i := 17) rfl)
theorem w_1156 : Cond.selects "CaveEchoes" yX9_append yX9_append ∈ am_GT := wc_24_ok _ (List.mem_of_getElem? (i := 18) rfl)
theorem w_1157 : Cond.code yX9_append prog_1_method_53_code 2 (some .int) ∈ am_GT := wc_24_ok _ (List.mem_of_getElem? (i := 19) rfl)
theorem w_1158 : Cond.methodLink "CaveEchoes" 262 yX8_put ∈ am_GT := wc_24_ok _ (List.mem_of_getElem? (i := 20) rfl)
theorem w_1159 : Cond.instanceMethod yX8_put ∈ am_GT := wc_24_ok _ (List.mem_of_getElem? (i := 21) rfl)
theorem w_1160 : Cond.selects "CaveEchoes$Works" yX8_put yX8_put ∈ am_GT := wc_24_ok _ (List.mem_of_getElem? (i := 22) rfl)
theorem w_1161 : Cond.code yX8_put prog_10_method_2_code 2 none ∈ am_GT := wc_24_ok _ (List.mem_of_getElem? (i := 23) rfl)
theorem w_1165 : Cond.methodLink "CaveEchoesLaw" 125 yX9_doWorks ∈ am_GT := wc_24_ok _ (List.mem_of_getElem? (i := 24) rfl)
theorem w_1166 : Cond.instanceMethod yX9_doWorks ∈ am_GT := wc_24_ok _ (List.mem_of_getElem? (i := 25) rfl)
theorem w_1167 : Cond.selects "CaveEchoes" yX9_doWorks yX9_doWorks ∈ am_GT := wc_24_ok _ (List.mem_of_getElem? (i := 26) rfl)
theorem w_1168 : Cond.code yX9_doWorks prog_1_method_56_code 2 (some .int) ∈ am_GT := wc_24_ok _ (List.mem_of_getElem? (i := 27) rfl)
theorem w_1169 : Cond.methodLink "CaveEchoes" 269 yX8_readWork ∈ am_GT := wc_24_ok _ (List.mem_of_getElem? (i := 28) rfl)
theorem w_1170 : Cond.methodLink "CaveEchoes" 272 yX9_doWork ∈ am_GT := wc_24_ok _ (List.mem_of_getElem? (i := 29) rfl)
def wc_25 : List Cond := [Cond.instanceMethod yX9_doWork, Cond.code yX9_doWork prog_1_method_73_code 1 (some .boolean), Cond.methodLink "CaveEchoes" 335 yX9_addIfPossible, Cond.instanceMethod yX9_addIfPossible, Cond.code yX9_addIfPossible prog_1_method_74_code 3 (some .boolean), Cond.methodLink "CaveEchoes" 338 yX9_turnIfPossible, Cond.instanceMethod yX9_turnIfPossible, Cond.code yX9_turnIfPossible prog_1_method_75_code 3 (some .boolean), Cond.methodLink "CaveEchoes" 344 yX9_tamperIfPossible, Cond.instanceMethod yX9_tamperIfPossible, Cond.code yX9_tamperIfPossible prog_1_method_76_code 4 (some .boolean), Cond.methodLink "CaveEchoes" 348 yX9_setFirst, Cond.instanceMethod yX9_setFirst, Cond.code yX9_setFirst prog_1_method_77_code 4 (some .boolean), Cond.methodLink "CaveEchoes" 275 yX8_take, Cond.methodLink "CaveEchoesLaw" 128 yX9_undo, Cond.instanceMethod yX9_undo, Cond.selects "CaveEchoes" yX9_undo yX9_undo, Cond.code yX9_undo prog_1_method_57_code 1 (some .int), Cond.methodLink "CaveEchoes" 279 yX1_restore, Cond.instanceMethod yX1_restore, Cond.selects "CaveEchoes$History" yX1_restore yX1_restore, Cond.code yX1_restore prog_3_method_4_code 2 none, Cond.code yX10_init prog_12_method_1_code 1 none, Cond.fieldLink "CaveEchoesModel" 7 "CaveEchoesModel" "z" "[I", Cond.fieldLink "CaveEchoesModel" 13 "CaveEchoesModel" "past" "[I", Cond.fieldLink "CaveEchoesModel" 50 "CaveEchoesModel" "pastMany" "I", Cond.fieldLink "CaveEchoesModel" 16 "CaveEchoesModel" "slots" "[I", Cond.fieldLink "CaveEchoesModel" 19 "CaveEchoesModel" "full" "[I", Cond.fieldLink "CaveEchoesModel" 22 "CaveEchoesModel" "weights" "[I"]
theorem wc_25_ok : ∀ w ∈ wc_25, w ∈ am_GT := am_sub wc_25 1172 (by decide +kernel)
theorem w_1172 : Cond.instanceMethod yX9_doWork ∈ am_GT := wc_25_ok _ (List.mem_of_getElem? (i := 0) rfl)
theorem w_1173 : Cond.code yX9_doWork prog_1_method_73_code 1 (some .boolean) ∈ am_GT := wc_25_ok _ (List.mem_of_getElem? (i := 1) rfl)
theorem w_1174 : Cond.methodLink "CaveEchoes" 335 yX9_addIfPossible ∈ am_GT := wc_25_ok _ (List.mem_of_getElem? (i := 2) rfl)
theorem w_1176 : Cond.instanceMethod yX9_addIfPossible ∈ am_GT := wc_25_ok _ (List.mem_of_getElem? (i := 3) rfl)
theorem w_1177 : Cond.code yX9_addIfPossible prog_1_method_74_code 3 (some .boolean) ∈ am_GT := wc_25_ok _ (List.mem_of_getElem? (i := 4) rfl)
theorem w_1178 : Cond.methodLink "CaveEchoes" 338 yX9_turnIfPossible ∈ am_GT := wc_25_ok _ (List.mem_of_getElem? (i := 5) rfl)
theorem w_1180 : Cond.instanceMethod yX9_turnIfPossible ∈ am_GT := wc_25_ok _ (List.mem_of_getElem? (i := 6) rfl)
theorem w_1181 : Cond.code yX9_turnIfPossible prog_1_method_75_code 3 (some .boolean) ∈ am_GT := wc_25_ok _ (List.mem_of_getElem? (i := 7) rfl)
theorem w_1182 : Cond.methodLink "CaveEchoes" 344 yX9_tamperIfPossible ∈ am_GT := wc_25_ok _ (List.mem_of_getElem? (i := 8) rfl)
theorem w_1184 : Cond.instanceMethod yX9_tamperIfPossible ∈ am_GT := wc_25_ok _ (List.mem_of_getElem? (i := 9) rfl)
theorem w_1185 : Cond.code yX9_tamperIfPossible prog_1_method_76_code 4 (some .boolean) ∈ am_GT := wc_25_ok _ (List.mem_of_getElem? (i := 10) rfl)
theorem w_1186 : Cond.methodLink "CaveEchoes" 348 yX9_setFirst ∈ am_GT := wc_25_ok _ (List.mem_of_getElem? (i := 11) rfl)
theorem w_1188 : Cond.instanceMethod yX9_setFirst ∈ am_GT := wc_25_ok _ (List.mem_of_getElem? (i := 12) rfl)
theorem w_1189 : Cond.code yX9_setFirst prog_1_method_77_code 4 (some .boolean) ∈ am_GT := wc_25_ok _ (List.mem_of_getElem? (i := 13) rfl)
theorem w_1190 : Cond.methodLink "CaveEchoes" 275 yX8_take ∈ am_GT := wc_25_ok _ (List.mem_of_getElem? (i := 14) rfl)
theorem w_1194 : Cond.methodLink "CaveEchoesLaw" 128 yX9_undo ∈ am_GT := wc_25_ok _ (List.mem_of_getElem? (i := 15) rfl)
theorem w_1195 : Cond.instanceMethod yX9_undo ∈ am_GT := wc_25_ok _ (List.mem_of_getElem? (i := 16) rfl)
theorem w_1196 : Cond.selects "CaveEchoes" yX9_undo yX9_undo ∈ am_GT := wc_25_ok _ (List.mem_of_getElem? (i := 17) rfl)
theorem w_1197 : Cond.code yX9_undo prog_1_method_57_code 1 (some .int) ∈ am_GT := wc_25_ok _ (List.mem_of_getElem? (i := 18) rfl)
theorem w_1198 : Cond.methodLink "CaveEchoes" 279 yX1_restore ∈ am_GT := wc_25_ok _ (List.mem_of_getElem? (i := 19) rfl)
theorem w_1199 : Cond.instanceMethod yX1_restore ∈ am_GT := wc_25_ok _ (List.mem_of_getElem? (i := 20) rfl)
theorem w_1200 : Cond.selects "CaveEchoes$History" yX1_restore yX1_restore ∈ am_GT := wc_25_ok _ (List.mem_of_getElem? (i := 21) rfl)
theorem w_1201 : Cond.code yX1_restore prog_3_method_4_code 2 none ∈ am_GT := wc_25_ok _ (List.mem_of_getElem? (i := 22) rfl)
theorem w_1206 : Cond.code yX10_init prog_12_method_1_code 1 none ∈ am_GT := wc_25_ok _ (List.mem_of_getElem? (i := 23) rfl)
theorem w_1208 : Cond.fieldLink "CaveEchoesModel" 7 "CaveEchoesModel" "z" "[I" ∈ am_GT := wc_25_ok _ (List.mem_of_getElem? (i := 24) rfl)
theorem w_1209 : Cond.fieldLink "CaveEchoesModel" 13 "CaveEchoesModel" "past" "[I" ∈ am_GT := wc_25_ok _ (List.mem_of_getElem? (i := 25) rfl)
theorem w_1210 : Cond.fieldLink "CaveEchoesModel" 50 "CaveEchoesModel" "pastMany" "I" ∈ am_GT := wc_25_ok _ (List.mem_of_getElem? (i := 26) rfl)
theorem w_1211 : Cond.fieldLink "CaveEchoesModel" 16 "CaveEchoesModel" "slots" "[I" ∈ am_GT := wc_25_ok _ (List.mem_of_getElem? (i := 27) rfl)
theorem w_1212 : Cond.fieldLink "CaveEchoesModel" 19 "CaveEchoesModel" "full" "[I" ∈ am_GT := wc_25_ok _ (List.mem_of_getElem? (i := 28) rfl)
theorem w_1213 : Cond.fieldLink "CaveEchoesModel" 22 "CaveEchoesModel" "weights" "[I" ∈ am_GT := wc_25_ok _ (List.mem_of_getElem? (i := 29) rfl)
def wc_26 : List Cond := [Cond.fieldLink "CaveEchoesModel" 25 "CaveEchoesModel" "lefts" "[I", Cond.fieldLink "CaveEchoesModel" 28 "CaveEchoesModel" "ears" "[I", Cond.fieldLink "CaveEchoesModel" 31 "CaveEchoesModel" "buffer" "[C", Cond.fieldLink "CaveEchoesModel" 211 "CaveEchoesModel" "typed" "I", Cond.fieldLink "CaveEchoesModel" 38 "CaveEchoesModel" "thrown" "I", Cond.fieldLink "CaveEchoesModel" 35 "CaveEchoesModel" "works" "[I", Cond.fieldLink "CaveEchoesModel" 233 "CaveEchoesModel" "workMany" "I", Cond.fieldLink "CaveEchoesModel" 214 "CaveEchoesModel" "spot" "I", Cond.fieldLink "CaveEchoesModel" 217 "CaveEchoesModel" "wrong" "I", Cond.methodLink "CaveEchoesLaw" 141 yX10_thrown, Cond.instanceMethod yX10_thrown, Cond.selects "CaveEchoesModel" yX10_thrown yX10_thrown, Cond.code yX10_thrown prog_12_method_2_code 1 (some .int), Cond.methodLink "CaveEchoesLaw" 331 yX10_undo, Cond.instanceMethod yX10_undo, Cond.selects "CaveEchoesModel" yX10_undo yX10_undo, Cond.code yX10_undo prog_12_method_16_code 2 (some .int), Cond.methodLink "CaveEchoesModel" 53 yX10_asks, Cond.instanceMethod yX10_asks, Cond.code yX10_asks prog_12_method_12_code 2 (some .boolean), Cond.methodLink "CaveEchoesLaw" 311 yX10_keep, Cond.instanceMethod yX10_keep, Cond.selects "CaveEchoesModel" yX10_keep yX10_keep, Cond.code yX10_keep prog_12_method_17_code 3 (some .int), Cond.methodLink "CaveEchoesModel" 42 yX10_in, Cond.static yX10_in, Cond.code yX10_in prog_12_method_3_code 3 (some .boolean), Cond.methodLink "CaveEchoesLaw" 314 yX10_goBack, Cond.instanceMethod yX10_goBack, Cond.selects "CaveEchoesModel" yX10_goBack yX10_goBack]
theorem wc_26_ok : ∀ w ∈ wc_26, w ∈ am_GT := am_sub wc_26 1214 (by decide +kernel)
theorem w_1214 : Cond.fieldLink "CaveEchoesModel" 25 "CaveEchoesModel" "lefts" "[I" ∈ am_GT := wc_26_ok _ (List.mem_of_getElem? (i := 0) rfl)
theorem w_1215 : Cond.fieldLink "CaveEchoesModel" 28 "CaveEchoesModel" "ears" "[I" ∈ am_GT := wc_26_ok _ (List.mem_of_getElem? (i := 1) rfl)
theorem w_1216 : Cond.fieldLink "CaveEchoesModel" 31 "CaveEchoesModel" "buffer" "[C" ∈ am_GT := wc_26_ok _ (List.mem_of_getElem? (i := 2) rfl)
theorem w_1217 : Cond.fieldLink "CaveEchoesModel" 211 "CaveEchoesModel" "typed" "I" ∈ am_GT := wc_26_ok _ (List.mem_of_getElem? (i := 3) rfl)
theorem w_1218 : Cond.fieldLink "CaveEchoesModel" 38 "CaveEchoesModel" "thrown" "I" ∈ am_GT := wc_26_ok _ (List.mem_of_getElem? (i := 4) rfl)
theorem w_1219 : Cond.fieldLink "CaveEchoesModel" 35 "CaveEchoesModel" "works" "[I" ∈ am_GT := wc_26_ok _ (List.mem_of_getElem? (i := 5) rfl)
theorem w_1220 : Cond.fieldLink "CaveEchoesModel" 233 "CaveEchoesModel" "workMany" "I" ∈ am_GT := wc_26_ok _ (List.mem_of_getElem? (i := 6) rfl)
theorem w_1221 : Cond.fieldLink "CaveEchoesModel" 214 "CaveEchoesModel" "spot" "I" ∈ am_GT := wc_26_ok _ (List.mem_of_getElem? (i := 7) rfl)
theorem w_1222 : Cond.fieldLink "CaveEchoesModel" 217 "CaveEchoesModel" "wrong" "I" ∈ am_GT := wc_26_ok _ (List.mem_of_getElem? (i := 8) rfl)
theorem w_1255 : Cond.methodLink "CaveEchoesLaw" 141 yX10_thrown ∈ am_GT := wc_26_ok _ (List.mem_of_getElem? (i := 9) rfl)
theorem w_1256 : Cond.instanceMethod yX10_thrown ∈ am_GT := wc_26_ok _ (List.mem_of_getElem? (i := 10) rfl)
theorem w_1257 : Cond.selects "CaveEchoesModel" yX10_thrown yX10_thrown ∈ am_GT := wc_26_ok _ (List.mem_of_getElem? (i := 11) rfl)
theorem w_1258 : Cond.code yX10_thrown prog_12_method_2_code 1 (some .int) ∈ am_GT := wc_26_ok _ (List.mem_of_getElem? (i := 12) rfl)
theorem w_1259 : Cond.methodLink "CaveEchoesLaw" 331 yX10_undo ∈ am_GT := wc_26_ok _ (List.mem_of_getElem? (i := 13) rfl)
theorem w_1260 : Cond.instanceMethod yX10_undo ∈ am_GT := wc_26_ok _ (List.mem_of_getElem? (i := 14) rfl)
theorem w_1261 : Cond.selects "CaveEchoesModel" yX10_undo yX10_undo ∈ am_GT := wc_26_ok _ (List.mem_of_getElem? (i := 15) rfl)
theorem w_1262 : Cond.code yX10_undo prog_12_method_16_code 2 (some .int) ∈ am_GT := wc_26_ok _ (List.mem_of_getElem? (i := 16) rfl)
theorem w_1263 : Cond.methodLink "CaveEchoesModel" 53 yX10_asks ∈ am_GT := wc_26_ok _ (List.mem_of_getElem? (i := 17) rfl)
theorem w_1265 : Cond.instanceMethod yX10_asks ∈ am_GT := wc_26_ok _ (List.mem_of_getElem? (i := 18) rfl)
theorem w_1266 : Cond.code yX10_asks prog_12_method_12_code 2 (some .boolean) ∈ am_GT := wc_26_ok _ (List.mem_of_getElem? (i := 19) rfl)
theorem w_1267 : Cond.methodLink "CaveEchoesLaw" 311 yX10_keep ∈ am_GT := wc_26_ok _ (List.mem_of_getElem? (i := 20) rfl)
theorem w_1268 : Cond.instanceMethod yX10_keep ∈ am_GT := wc_26_ok _ (List.mem_of_getElem? (i := 21) rfl)
theorem w_1269 : Cond.selects "CaveEchoesModel" yX10_keep yX10_keep ∈ am_GT := wc_26_ok _ (List.mem_of_getElem? (i := 22) rfl)
theorem w_1270 : Cond.code yX10_keep prog_12_method_17_code 3 (some .int) ∈ am_GT := wc_26_ok _ (List.mem_of_getElem? (i := 23) rfl)
theorem w_1271 : Cond.methodLink "CaveEchoesModel" 42 yX10_in ∈ am_GT := wc_26_ok _ (List.mem_of_getElem? (i := 24) rfl)
theorem w_1272 : Cond.static yX10_in ∈ am_GT := wc_26_ok _ (List.mem_of_getElem? (i := 25) rfl)
theorem w_1273 : Cond.code yX10_in prog_12_method_3_code 3 (some .boolean) ∈ am_GT := wc_26_ok _ (List.mem_of_getElem? (i := 26) rfl)
theorem w_1274 : Cond.methodLink "CaveEchoesLaw" 314 yX10_goBack ∈ am_GT := wc_26_ok _ (List.mem_of_getElem? (i := 27) rfl)
theorem w_1275 : Cond.instanceMethod yX10_goBack ∈ am_GT := wc_26_ok _ (List.mem_of_getElem? (i := 28) rfl)
theorem w_1276 : Cond.selects "CaveEchoesModel" yX10_goBack yX10_goBack ∈ am_GT := wc_26_ok _ (List.mem_of_getElem? (i := 29) rfl)
def wc_27 : List Cond := [Cond.code yX10_goBack prog_12_method_18_code 3 (some .int), Cond.methodLink "CaveEchoesModel" 57 yX10_asksThen, Cond.instanceMethod yX10_asksThen, Cond.code yX10_asksThen prog_12_method_13_code 3 (some .boolean), Cond.methodLink "CaveEchoesModel" 61 yX10_record, Cond.instanceMethod yX10_record, Cond.code yX10_record prog_12_method_15_code 2 none, Cond.methodLink "CaveEchoesLaw" 140 yX10_add, Cond.instanceMethod yX10_add, Cond.selects "CaveEchoesModel" yX10_add yX10_add, Cond.code yX10_add prog_12_method_39_code 2 (some .int), Cond.methodLink "CaveEchoesModel" 119 yX10_adds, Cond.instanceMethod yX10_adds, Cond.code yX10_adds prog_12_method_38_code 2 (some .int), Cond.methodLink "CaveEchoesLaw" 147 yX10_echo, Cond.instanceMethod yX10_echo, Cond.selects "CaveEchoesModel" yX10_echo yX10_echo, Cond.code yX10_echo prog_12_method_40_code 6 (some .int), Cond.methodLink "CaveEchoesModel" 64 yX10_sample, Cond.static yX10_sample, Cond.code yX10_sample prog_12_method_19_code 2 (some .int), Cond.methodLink "CaveEchoesLaw" 151 yX10_change, Cond.instanceMethod yX10_change, Cond.selects "CaveEchoesModel" yX10_change yX10_change, Cond.code yX10_change prog_12_method_41_code 4 (some .int), Cond.methodLink "CaveEchoesModel" 122 yX10_isSample, Cond.instanceMethod yX10_isSample, Cond.code yX10_isSample prog_12_method_8_code 2 (some .boolean), Cond.methodLink "CaveEchoesLaw" 155 yX10_drop, Cond.instanceMethod yX10_drop]
theorem wc_27_ok : ∀ w ∈ wc_27, w ∈ am_GT := am_sub wc_27 1277 (by decide +kernel)
theorem w_1277 : Cond.code yX10_goBack prog_12_method_18_code 3 (some .int) ∈ am_GT := wc_27_ok _ (List.mem_of_getElem? (i := 0) rfl)
theorem w_1278 : Cond.methodLink "CaveEchoesModel" 57 yX10_asksThen ∈ am_GT := wc_27_ok _ (List.mem_of_getElem? (i := 1) rfl)
theorem w_1280 : Cond.instanceMethod yX10_asksThen ∈ am_GT := wc_27_ok _ (List.mem_of_getElem? (i := 2) rfl)
theorem w_1281 : Cond.code yX10_asksThen prog_12_method_13_code 3 (some .boolean) ∈ am_GT := wc_27_ok _ (List.mem_of_getElem? (i := 3) rfl)
theorem w_1282 : Cond.methodLink "CaveEchoesModel" 61 yX10_record ∈ am_GT := wc_27_ok _ (List.mem_of_getElem? (i := 4) rfl)
theorem w_1284 : Cond.instanceMethod yX10_record ∈ am_GT := wc_27_ok _ (List.mem_of_getElem? (i := 5) rfl)
theorem w_1285 : Cond.code yX10_record prog_12_method_15_code 2 none ∈ am_GT := wc_27_ok _ (List.mem_of_getElem? (i := 6) rfl)
theorem w_1286 : Cond.methodLink "CaveEchoesLaw" 140 yX10_add ∈ am_GT := wc_27_ok _ (List.mem_of_getElem? (i := 7) rfl)
theorem w_1287 : Cond.instanceMethod yX10_add ∈ am_GT := wc_27_ok _ (List.mem_of_getElem? (i := 8) rfl)
theorem w_1288 : Cond.selects "CaveEchoesModel" yX10_add yX10_add ∈ am_GT := wc_27_ok _ (List.mem_of_getElem? (i := 9) rfl)
theorem w_1289 : Cond.code yX10_add prog_12_method_39_code 2 (some .int) ∈ am_GT := wc_27_ok _ (List.mem_of_getElem? (i := 10) rfl)
theorem w_1290 : Cond.methodLink "CaveEchoesModel" 119 yX10_adds ∈ am_GT := wc_27_ok _ (List.mem_of_getElem? (i := 11) rfl)
theorem w_1292 : Cond.instanceMethod yX10_adds ∈ am_GT := wc_27_ok _ (List.mem_of_getElem? (i := 12) rfl)
theorem w_1293 : Cond.code yX10_adds prog_12_method_38_code 2 (some .int) ∈ am_GT := wc_27_ok _ (List.mem_of_getElem? (i := 13) rfl)
theorem w_1294 : Cond.methodLink "CaveEchoesLaw" 147 yX10_echo ∈ am_GT := wc_27_ok _ (List.mem_of_getElem? (i := 14) rfl)
theorem w_1295 : Cond.instanceMethod yX10_echo ∈ am_GT := wc_27_ok _ (List.mem_of_getElem? (i := 15) rfl)
theorem w_1296 : Cond.selects "CaveEchoesModel" yX10_echo yX10_echo ∈ am_GT := wc_27_ok _ (List.mem_of_getElem? (i := 16) rfl)
theorem w_1297 : Cond.code yX10_echo prog_12_method_40_code 6 (some .int) ∈ am_GT := wc_27_ok _ (List.mem_of_getElem? (i := 17) rfl)
theorem w_1298 : Cond.methodLink "CaveEchoesModel" 64 yX10_sample ∈ am_GT := wc_27_ok _ (List.mem_of_getElem? (i := 18) rfl)
theorem w_1299 : Cond.static yX10_sample ∈ am_GT := wc_27_ok _ (List.mem_of_getElem? (i := 19) rfl)
theorem w_1300 : Cond.code yX10_sample prog_12_method_19_code 2 (some .int) ∈ am_GT := wc_27_ok _ (List.mem_of_getElem? (i := 20) rfl)
theorem w_1301 : Cond.methodLink "CaveEchoesLaw" 151 yX10_change ∈ am_GT := wc_27_ok _ (List.mem_of_getElem? (i := 21) rfl)
theorem w_1302 : Cond.instanceMethod yX10_change ∈ am_GT := wc_27_ok _ (List.mem_of_getElem? (i := 22) rfl)
theorem w_1303 : Cond.selects "CaveEchoesModel" yX10_change yX10_change ∈ am_GT := wc_27_ok _ (List.mem_of_getElem? (i := 23) rfl)
theorem w_1304 : Cond.code yX10_change prog_12_method_41_code 4 (some .int) ∈ am_GT := wc_27_ok _ (List.mem_of_getElem? (i := 24) rfl)
theorem w_1305 : Cond.methodLink "CaveEchoesModel" 122 yX10_isSample ∈ am_GT := wc_27_ok _ (List.mem_of_getElem? (i := 25) rfl)
theorem w_1307 : Cond.instanceMethod yX10_isSample ∈ am_GT := wc_27_ok _ (List.mem_of_getElem? (i := 26) rfl)
theorem w_1308 : Cond.code yX10_isSample prog_12_method_8_code 2 (some .boolean) ∈ am_GT := wc_27_ok _ (List.mem_of_getElem? (i := 27) rfl)
theorem w_1309 : Cond.methodLink "CaveEchoesLaw" 155 yX10_drop ∈ am_GT := wc_27_ok _ (List.mem_of_getElem? (i := 28) rfl)
theorem w_1310 : Cond.instanceMethod yX10_drop ∈ am_GT := wc_27_ok _ (List.mem_of_getElem? (i := 29) rfl)
def wc_28 : List Cond := [Cond.selects "CaveEchoesModel" yX10_drop yX10_drop, Cond.code yX10_drop prog_12_method_42_code 1 (some .int), Cond.methodLink "CaveEchoesLaw" 159 yX10_empty, Cond.instanceMethod yX10_empty, Cond.selects "CaveEchoesModel" yX10_empty yX10_empty, Cond.code yX10_empty prog_12_method_43_code 2 (some .int), Cond.methodLink "CaveEchoesModel" 125 yX10_says, Cond.instanceMethod yX10_says, Cond.code yX10_says prog_12_method_14_code 2 (some .int), Cond.methodLink "CaveEchoesLaw" 162 yX10_setDelay, Cond.instanceMethod yX10_setDelay, Cond.selects "CaveEchoesModel" yX10_setDelay yX10_setDelay, Cond.code yX10_setDelay prog_12_method_45_code 2 (some .int), Cond.methodLink "CaveEchoesModel" 128 yX10_sets, Cond.instanceMethod yX10_sets, Cond.code yX10_sets prog_12_method_44_code 4 (some .int), Cond.methodLink "CaveEchoesLaw" 165 yX10_setSpeed, Cond.instanceMethod yX10_setSpeed, Cond.selects "CaveEchoesModel" yX10_setSpeed yX10_setSpeed, Cond.code yX10_setSpeed prog_12_method_46_code 2 (some .int), Cond.methodLink "CaveEchoesLaw" 168 yX10_setWeight, Cond.instanceMethod yX10_setWeight, Cond.selects "CaveEchoesModel" yX10_setWeight yX10_setWeight, Cond.code yX10_setWeight prog_12_method_47_code 3 (some .int), Cond.methodLink "CaveEchoesModel" 131 yX10_isWeight, Cond.static yX10_isWeight, Cond.code yX10_isWeight prog_12_method_7_code 1 (some .boolean), Cond.methodLink "CaveEchoesLaw" 171 yX10_turnKind, Cond.instanceMethod yX10_turnKind, Cond.selects "CaveEchoesModel" yX10_turnKind yX10_turnKind]
theorem wc_28_ok : ∀ w ∈ wc_28, w ∈ am_GT := am_sub wc_28 1311 (by decide +kernel)
theorem w_1311 : Cond.selects "CaveEchoesModel" yX10_drop yX10_drop ∈ am_GT := wc_28_ok _ (List.mem_of_getElem? (i := 0) rfl)
theorem w_1312 : Cond.code yX10_drop prog_12_method_42_code 1 (some .int) ∈ am_GT := wc_28_ok _ (List.mem_of_getElem? (i := 1) rfl)
theorem w_1313 : Cond.methodLink "CaveEchoesLaw" 159 yX10_empty ∈ am_GT := wc_28_ok _ (List.mem_of_getElem? (i := 2) rfl)
theorem w_1314 : Cond.instanceMethod yX10_empty ∈ am_GT := wc_28_ok _ (List.mem_of_getElem? (i := 3) rfl)
theorem w_1315 : Cond.selects "CaveEchoesModel" yX10_empty yX10_empty ∈ am_GT := wc_28_ok _ (List.mem_of_getElem? (i := 4) rfl)
theorem w_1316 : Cond.code yX10_empty prog_12_method_43_code 2 (some .int) ∈ am_GT := wc_28_ok _ (List.mem_of_getElem? (i := 5) rfl)
theorem w_1317 : Cond.methodLink "CaveEchoesModel" 125 yX10_says ∈ am_GT := wc_28_ok _ (List.mem_of_getElem? (i := 6) rfl)
theorem w_1319 : Cond.instanceMethod yX10_says ∈ am_GT := wc_28_ok _ (List.mem_of_getElem? (i := 7) rfl)
theorem w_1320 : Cond.code yX10_says prog_12_method_14_code 2 (some .int) ∈ am_GT := wc_28_ok _ (List.mem_of_getElem? (i := 8) rfl)
theorem w_1321 : Cond.methodLink "CaveEchoesLaw" 162 yX10_setDelay ∈ am_GT := wc_28_ok _ (List.mem_of_getElem? (i := 9) rfl)
theorem w_1322 : Cond.instanceMethod yX10_setDelay ∈ am_GT := wc_28_ok _ (List.mem_of_getElem? (i := 10) rfl)
theorem w_1323 : Cond.selects "CaveEchoesModel" yX10_setDelay yX10_setDelay ∈ am_GT := wc_28_ok _ (List.mem_of_getElem? (i := 11) rfl)
theorem w_1324 : Cond.code yX10_setDelay prog_12_method_45_code 2 (some .int) ∈ am_GT := wc_28_ok _ (List.mem_of_getElem? (i := 12) rfl)
theorem w_1325 : Cond.methodLink "CaveEchoesModel" 128 yX10_sets ∈ am_GT := wc_28_ok _ (List.mem_of_getElem? (i := 13) rfl)
theorem w_1327 : Cond.instanceMethod yX10_sets ∈ am_GT := wc_28_ok _ (List.mem_of_getElem? (i := 14) rfl)
theorem w_1328 : Cond.code yX10_sets prog_12_method_44_code 4 (some .int) ∈ am_GT := wc_28_ok _ (List.mem_of_getElem? (i := 15) rfl)
theorem w_1329 : Cond.methodLink "CaveEchoesLaw" 165 yX10_setSpeed ∈ am_GT := wc_28_ok _ (List.mem_of_getElem? (i := 16) rfl)
theorem w_1330 : Cond.instanceMethod yX10_setSpeed ∈ am_GT := wc_28_ok _ (List.mem_of_getElem? (i := 17) rfl)
theorem w_1331 : Cond.selects "CaveEchoesModel" yX10_setSpeed yX10_setSpeed ∈ am_GT := wc_28_ok _ (List.mem_of_getElem? (i := 18) rfl)
theorem w_1332 : Cond.code yX10_setSpeed prog_12_method_46_code 2 (some .int) ∈ am_GT := wc_28_ok _ (List.mem_of_getElem? (i := 19) rfl)
theorem w_1333 : Cond.methodLink "CaveEchoesLaw" 168 yX10_setWeight ∈ am_GT := wc_28_ok _ (List.mem_of_getElem? (i := 20) rfl)
theorem w_1334 : Cond.instanceMethod yX10_setWeight ∈ am_GT := wc_28_ok _ (List.mem_of_getElem? (i := 21) rfl)
theorem w_1335 : Cond.selects "CaveEchoesModel" yX10_setWeight yX10_setWeight ∈ am_GT := wc_28_ok _ (List.mem_of_getElem? (i := 22) rfl)
theorem w_1336 : Cond.code yX10_setWeight prog_12_method_47_code 3 (some .int) ∈ am_GT := wc_28_ok _ (List.mem_of_getElem? (i := 23) rfl)
theorem w_1337 : Cond.methodLink "CaveEchoesModel" 131 yX10_isWeight ∈ am_GT := wc_28_ok _ (List.mem_of_getElem? (i := 24) rfl)
theorem w_1338 : Cond.static yX10_isWeight ∈ am_GT := wc_28_ok _ (List.mem_of_getElem? (i := 25) rfl)
theorem w_1339 : Cond.code yX10_isWeight prog_12_method_7_code 1 (some .boolean) ∈ am_GT := wc_28_ok _ (List.mem_of_getElem? (i := 26) rfl)
theorem w_1340 : Cond.methodLink "CaveEchoesLaw" 171 yX10_turnKind ∈ am_GT := wc_28_ok _ (List.mem_of_getElem? (i := 27) rfl)
theorem w_1341 : Cond.instanceMethod yX10_turnKind ∈ am_GT := wc_28_ok _ (List.mem_of_getElem? (i := 28) rfl)
theorem w_1342 : Cond.selects "CaveEchoesModel" yX10_turnKind yX10_turnKind ∈ am_GT := wc_28_ok _ (List.mem_of_getElem? (i := 29) rfl)
def wc_29 : List Cond := [Cond.code yX10_turnKind prog_12_method_49_code 2 (some .boolean), Cond.methodLink "CaveEchoesModel" 134 yX10_isKind, Cond.static yX10_isKind, Cond.code yX10_isKind prog_12_method_6_code 1 (some .boolean), Cond.methodLink "CaveEchoesModel" 137 yX10_canTurn, Cond.instanceMethod yX10_canTurn, Cond.code yX10_canTurn prog_12_method_48_code 2 (some .boolean), Cond.methodLink "CaveEchoesModel" 112 yX10_isAllowed, Cond.instanceMethod yX10_isAllowed, Cond.code yX10_isAllowed prog_12_method_32_code 2 (some .boolean), Cond.methodLink "CaveEchoesLaw" 174 yX10_send, Cond.instanceMethod yX10_send, Cond.selects "CaveEchoesModel" yX10_send yX10_send, Cond.code yX10_send prog_12_method_52_code 1 (some .int), Cond.methodLink "CaveEchoesModel" 144 yX10_sends, Cond.instanceMethod yX10_sends, Cond.code yX10_sends prog_12_method_51_code 4 (some .int), Cond.methodLink "CaveEchoesModel" 46 yX10_blocksOf, Cond.static yX10_blocksOf, Cond.code yX10_blocksOf prog_12_method_9_code 1 (some .int), Cond.methodLink "CaveEchoesModel" 116 yX10_kindFor, Cond.instanceMethod yX10_kindFor, Cond.code yX10_kindFor prog_12_method_33_code 7 (some .int), Cond.methodLink "CaveEchoesModel" 109 yX10_fewest, Cond.instanceMethod yX10_fewest, Cond.code yX10_fewest prog_12_method_31_code 3 (some .int), Cond.methodLink "CaveEchoesModel" 103 yX10_leavesBy, Cond.instanceMethod yX10_leavesBy, Cond.code yX10_leavesBy prog_12_method_24_code 2 (some .int), Cond.methodLink "CaveEchoesModel" 82 yX10_begins]
theorem wc_29_ok : ∀ w ∈ wc_29, w ∈ am_GT := am_sub wc_29 1343 (by decide +kernel)
theorem w_1343 : Cond.code yX10_turnKind prog_12_method_49_code 2 (some .boolean) ∈ am_GT := wc_29_ok _ (List.mem_of_getElem? (i := 0) rfl)
theorem w_1344 : Cond.methodLink "CaveEchoesModel" 134 yX10_isKind ∈ am_GT := wc_29_ok _ (List.mem_of_getElem? (i := 1) rfl)
theorem w_1345 : Cond.static yX10_isKind ∈ am_GT := wc_29_ok _ (List.mem_of_getElem? (i := 2) rfl)
theorem w_1346 : Cond.code yX10_isKind prog_12_method_6_code 1 (some .boolean) ∈ am_GT := wc_29_ok _ (List.mem_of_getElem? (i := 3) rfl)
theorem w_1347 : Cond.methodLink "CaveEchoesModel" 137 yX10_canTurn ∈ am_GT := wc_29_ok _ (List.mem_of_getElem? (i := 4) rfl)
theorem w_1349 : Cond.instanceMethod yX10_canTurn ∈ am_GT := wc_29_ok _ (List.mem_of_getElem? (i := 5) rfl)
theorem w_1350 : Cond.code yX10_canTurn prog_12_method_48_code 2 (some .boolean) ∈ am_GT := wc_29_ok _ (List.mem_of_getElem? (i := 6) rfl)
theorem w_1351 : Cond.methodLink "CaveEchoesModel" 112 yX10_isAllowed ∈ am_GT := wc_29_ok _ (List.mem_of_getElem? (i := 7) rfl)
theorem w_1353 : Cond.instanceMethod yX10_isAllowed ∈ am_GT := wc_29_ok _ (List.mem_of_getElem? (i := 8) rfl)
theorem w_1354 : Cond.code yX10_isAllowed prog_12_method_32_code 2 (some .boolean) ∈ am_GT := wc_29_ok _ (List.mem_of_getElem? (i := 9) rfl)
theorem w_1355 : Cond.methodLink "CaveEchoesLaw" 174 yX10_send ∈ am_GT := wc_29_ok _ (List.mem_of_getElem? (i := 10) rfl)
theorem w_1356 : Cond.instanceMethod yX10_send ∈ am_GT := wc_29_ok _ (List.mem_of_getElem? (i := 11) rfl)
theorem w_1357 : Cond.selects "CaveEchoesModel" yX10_send yX10_send ∈ am_GT := wc_29_ok _ (List.mem_of_getElem? (i := 12) rfl)
theorem w_1358 : Cond.code yX10_send prog_12_method_52_code 1 (some .int) ∈ am_GT := wc_29_ok _ (List.mem_of_getElem? (i := 13) rfl)
theorem w_1359 : Cond.methodLink "CaveEchoesModel" 144 yX10_sends ∈ am_GT := wc_29_ok _ (List.mem_of_getElem? (i := 14) rfl)
theorem w_1361 : Cond.instanceMethod yX10_sends ∈ am_GT := wc_29_ok _ (List.mem_of_getElem? (i := 15) rfl)
theorem w_1362 : Cond.code yX10_sends prog_12_method_51_code 4 (some .int) ∈ am_GT := wc_29_ok _ (List.mem_of_getElem? (i := 16) rfl)
theorem w_1363 : Cond.methodLink "CaveEchoesModel" 46 yX10_blocksOf ∈ am_GT := wc_29_ok _ (List.mem_of_getElem? (i := 17) rfl)
theorem w_1364 : Cond.static yX10_blocksOf ∈ am_GT := wc_29_ok _ (List.mem_of_getElem? (i := 18) rfl)
theorem w_1365 : Cond.code yX10_blocksOf prog_12_method_9_code 1 (some .int) ∈ am_GT := wc_29_ok _ (List.mem_of_getElem? (i := 19) rfl)
theorem w_1366 : Cond.methodLink "CaveEchoesModel" 116 yX10_kindFor ∈ am_GT := wc_29_ok _ (List.mem_of_getElem? (i := 20) rfl)
theorem w_1368 : Cond.instanceMethod yX10_kindFor ∈ am_GT := wc_29_ok _ (List.mem_of_getElem? (i := 21) rfl)
theorem w_1369 : Cond.code yX10_kindFor prog_12_method_33_code 7 (some .int) ∈ am_GT := wc_29_ok _ (List.mem_of_getElem? (i := 22) rfl)
theorem w_1370 : Cond.methodLink "CaveEchoesModel" 109 yX10_fewest ∈ am_GT := wc_29_ok _ (List.mem_of_getElem? (i := 23) rfl)
theorem w_1372 : Cond.instanceMethod yX10_fewest ∈ am_GT := wc_29_ok _ (List.mem_of_getElem? (i := 24) rfl)
theorem w_1373 : Cond.code yX10_fewest prog_12_method_31_code 3 (some .int) ∈ am_GT := wc_29_ok _ (List.mem_of_getElem? (i := 25) rfl)
theorem w_1374 : Cond.methodLink "CaveEchoesModel" 103 yX10_leavesBy ∈ am_GT := wc_29_ok _ (List.mem_of_getElem? (i := 26) rfl)
theorem w_1376 : Cond.instanceMethod yX10_leavesBy ∈ am_GT := wc_29_ok _ (List.mem_of_getElem? (i := 27) rfl)
theorem w_1377 : Cond.code yX10_leavesBy prog_12_method_24_code 2 (some .int) ∈ am_GT := wc_29_ok _ (List.mem_of_getElem? (i := 28) rfl)
theorem w_1378 : Cond.methodLink "CaveEchoesModel" 82 yX10_begins ∈ am_GT := wc_29_ok _ (List.mem_of_getElem? (i := 29) rfl)
def wc_30 : List Cond := [Cond.instanceMethod yX10_begins, Cond.code yX10_begins prog_12_method_21_code 3 none, Cond.methodLink "CaveEchoesModel" 86 yX10_leaves, Cond.instanceMethod yX10_leaves, Cond.code yX10_leaves prog_12_method_23_code 6 (some .int), Cond.methodLink "CaveEchoesModel" 71 yX10_foretell, Cond.instanceMethod yX10_foretell, Cond.code yX10_foretell prog_12_method_20_code 7 (some .int), Cond.methodLink "CaveEchoesModel" 68 yX10_cut, Cond.static yX10_cut, Cond.code yX10_cut prog_12_method_5_code 1 (some .int), Cond.methodLink "CaveEchoesModel" 75 yX10_size, Cond.static yX10_size, Cond.code yX10_size prog_12_method_4_code 1 (some .int), Cond.methodLink "CaveEchoesModel" 78 yX10_adapts, Cond.instanceMethod yX10_adapts, Cond.code yX10_adapts prog_12_method_22_code 7 none, Cond.methodLink "CaveEchoesModel" 106 yX10_parameterFor, Cond.instanceMethod yX10_parameterFor, Cond.code yX10_parameterFor prog_12_method_30_code 4 (some .int), Cond.methodLink "CaveEchoesModel" 100 yX10_blockBits, Cond.instanceMethod yX10_blockBits, Cond.code yX10_blockBits prog_12_method_29_code 5 (some .int), Cond.methodLink "CaveEchoesModel" 96 yX10_bitsOf, Cond.static yX10_bitsOf, Cond.code yX10_bitsOf prog_12_method_28_code 2 (some .int), Cond.methodLink "CaveEchoesModel" 93 yX10_fold, Cond.static yX10_fold, Cond.code yX10_fold prog_12_method_27_code 1 (some .int), Cond.methodLink "CaveEchoesModel" 140 yX10_letterLength]
theorem wc_30_ok : ∀ w ∈ wc_30, w ∈ am_GT := am_sub wc_30 1380 (by decide +kernel)
theorem w_1380 : Cond.instanceMethod yX10_begins ∈ am_GT := wc_30_ok _ (List.mem_of_getElem? (i := 0) rfl)
theorem w_1381 : Cond.code yX10_begins prog_12_method_21_code 3 none ∈ am_GT := wc_30_ok _ (List.mem_of_getElem? (i := 1) rfl)
theorem w_1382 : Cond.methodLink "CaveEchoesModel" 86 yX10_leaves ∈ am_GT := wc_30_ok _ (List.mem_of_getElem? (i := 2) rfl)
theorem w_1384 : Cond.instanceMethod yX10_leaves ∈ am_GT := wc_30_ok _ (List.mem_of_getElem? (i := 3) rfl)
theorem w_1385 : Cond.code yX10_leaves prog_12_method_23_code 6 (some .int) ∈ am_GT := wc_30_ok _ (List.mem_of_getElem? (i := 4) rfl)
theorem w_1386 : Cond.methodLink "CaveEchoesModel" 71 yX10_foretell ∈ am_GT := wc_30_ok _ (List.mem_of_getElem? (i := 5) rfl)
theorem w_1388 : Cond.instanceMethod yX10_foretell ∈ am_GT := wc_30_ok _ (List.mem_of_getElem? (i := 6) rfl)
theorem w_1389 : Cond.code yX10_foretell prog_12_method_20_code 7 (some .int) ∈ am_GT := wc_30_ok _ (List.mem_of_getElem? (i := 7) rfl)
theorem w_1390 : Cond.methodLink "CaveEchoesModel" 68 yX10_cut ∈ am_GT := wc_30_ok _ (List.mem_of_getElem? (i := 8) rfl)
theorem w_1391 : Cond.static yX10_cut ∈ am_GT := wc_30_ok _ (List.mem_of_getElem? (i := 9) rfl)
theorem w_1392 : Cond.code yX10_cut prog_12_method_5_code 1 (some .int) ∈ am_GT := wc_30_ok _ (List.mem_of_getElem? (i := 10) rfl)
theorem w_1393 : Cond.methodLink "CaveEchoesModel" 75 yX10_size ∈ am_GT := wc_30_ok _ (List.mem_of_getElem? (i := 11) rfl)
theorem w_1394 : Cond.static yX10_size ∈ am_GT := wc_30_ok _ (List.mem_of_getElem? (i := 12) rfl)
theorem w_1395 : Cond.code yX10_size prog_12_method_4_code 1 (some .int) ∈ am_GT := wc_30_ok _ (List.mem_of_getElem? (i := 13) rfl)
theorem w_1396 : Cond.methodLink "CaveEchoesModel" 78 yX10_adapts ∈ am_GT := wc_30_ok _ (List.mem_of_getElem? (i := 14) rfl)
theorem w_1398 : Cond.instanceMethod yX10_adapts ∈ am_GT := wc_30_ok _ (List.mem_of_getElem? (i := 15) rfl)
theorem w_1399 : Cond.code yX10_adapts prog_12_method_22_code 7 none ∈ am_GT := wc_30_ok _ (List.mem_of_getElem? (i := 16) rfl)
theorem w_1400 : Cond.methodLink "CaveEchoesModel" 106 yX10_parameterFor ∈ am_GT := wc_30_ok _ (List.mem_of_getElem? (i := 17) rfl)
theorem w_1402 : Cond.instanceMethod yX10_parameterFor ∈ am_GT := wc_30_ok _ (List.mem_of_getElem? (i := 18) rfl)
theorem w_1403 : Cond.code yX10_parameterFor prog_12_method_30_code 4 (some .int) ∈ am_GT := wc_30_ok _ (List.mem_of_getElem? (i := 19) rfl)
theorem w_1404 : Cond.methodLink "CaveEchoesModel" 100 yX10_blockBits ∈ am_GT := wc_30_ok _ (List.mem_of_getElem? (i := 20) rfl)
theorem w_1406 : Cond.instanceMethod yX10_blockBits ∈ am_GT := wc_30_ok _ (List.mem_of_getElem? (i := 21) rfl)
theorem w_1407 : Cond.code yX10_blockBits prog_12_method_29_code 5 (some .int) ∈ am_GT := wc_30_ok _ (List.mem_of_getElem? (i := 22) rfl)
theorem w_1408 : Cond.methodLink "CaveEchoesModel" 96 yX10_bitsOf ∈ am_GT := wc_30_ok _ (List.mem_of_getElem? (i := 23) rfl)
theorem w_1409 : Cond.static yX10_bitsOf ∈ am_GT := wc_30_ok _ (List.mem_of_getElem? (i := 24) rfl)
theorem w_1410 : Cond.code yX10_bitsOf prog_12_method_28_code 2 (some .int) ∈ am_GT := wc_30_ok _ (List.mem_of_getElem? (i := 25) rfl)
theorem w_1411 : Cond.methodLink "CaveEchoesModel" 93 yX10_fold ∈ am_GT := wc_30_ok _ (List.mem_of_getElem? (i := 26) rfl)
theorem w_1412 : Cond.static yX10_fold ∈ am_GT := wc_30_ok _ (List.mem_of_getElem? (i := 27) rfl)
theorem w_1413 : Cond.code yX10_fold prog_12_method_27_code 1 (some .int) ∈ am_GT := wc_30_ok _ (List.mem_of_getElem? (i := 28) rfl)
theorem w_1414 : Cond.methodLink "CaveEchoesModel" 140 yX10_letterLength ∈ am_GT := wc_30_ok _ (List.mem_of_getElem? (i := 29) rfl)
def wc_31 : List Cond := [Cond.instanceMethod yX10_letterLength, Cond.code yX10_letterLength prog_12_method_50_code 3 (some .int), Cond.methodLink "CaveEchoesLaw" 177 yX10_tamper, Cond.instanceMethod yX10_tamper, Cond.selects "CaveEchoesModel" yX10_tamper yX10_tamper, Cond.code yX10_tamper prog_12_method_53_code 3 (some .int), Cond.methodLink "CaveEchoesModel" 147 yX10_isTold, Cond.instanceMethod yX10_isTold, Cond.code yX10_isTold prog_12_method_11_code 2 (some .boolean), Cond.methodLink "CaveEchoesLaw" 286 yX10_heard, Cond.instanceMethod yX10_heard, Cond.selects "CaveEchoesModel" yX10_heard yX10_heard, Cond.code yX10_heard prog_12_method_56_code 2 (some .int), Cond.methodLink "CaveEchoesModel" 153 yX10_heardOf, Cond.instanceMethod yX10_heardOf, Cond.code yX10_heardOf prog_12_method_55_code 2 (some .int), Cond.methodLink "CaveEchoesModel" 150 yX10_hears, Cond.instanceMethod yX10_hears, Cond.code yX10_hears prog_12_method_54_code 5 (some .int), Cond.methodLink "CaveEchoesLaw" 289 yX10_heardByBits, Cond.instanceMethod yX10_heardByBits, Cond.selects "CaveEchoesModel" yX10_heardByBits yX10_heardByBits, Cond.code yX10_heardByBits prog_12_method_57_code 2 (some .int), Cond.methodLink "CaveEchoesLaw" 293 yX10_unlike, Cond.instanceMethod yX10_unlike, Cond.selects "CaveEchoesModel" yX10_unlike yX10_unlike, Cond.code yX10_unlike prog_12_method_58_code 1 (some .int), Cond.methodLink "CaveEchoesLaw" 297 yX10_firstUnlike, Cond.instanceMethod yX10_firstUnlike, Cond.selects "CaveEchoesModel" yX10_firstUnlike yX10_firstUnlike]
theorem wc_31_ok : ∀ w ∈ wc_31, w ∈ am_GT := am_sub wc_31 1416 (by decide +kernel)
theorem w_1416 : Cond.instanceMethod yX10_letterLength ∈ am_GT := wc_31_ok _ (List.mem_of_getElem? (i := 0) rfl)
theorem w_1417 : Cond.code yX10_letterLength prog_12_method_50_code 3 (some .int) ∈ am_GT := wc_31_ok _ (List.mem_of_getElem? (i := 1) rfl)
theorem w_1418 : Cond.methodLink "CaveEchoesLaw" 177 yX10_tamper ∈ am_GT := wc_31_ok _ (List.mem_of_getElem? (i := 2) rfl)
theorem w_1419 : Cond.instanceMethod yX10_tamper ∈ am_GT := wc_31_ok _ (List.mem_of_getElem? (i := 3) rfl)
theorem w_1420 : Cond.selects "CaveEchoesModel" yX10_tamper yX10_tamper ∈ am_GT := wc_31_ok _ (List.mem_of_getElem? (i := 4) rfl)
theorem w_1421 : Cond.code yX10_tamper prog_12_method_53_code 3 (some .int) ∈ am_GT := wc_31_ok _ (List.mem_of_getElem? (i := 5) rfl)
theorem w_1422 : Cond.methodLink "CaveEchoesModel" 147 yX10_isTold ∈ am_GT := wc_31_ok _ (List.mem_of_getElem? (i := 6) rfl)
theorem w_1424 : Cond.instanceMethod yX10_isTold ∈ am_GT := wc_31_ok _ (List.mem_of_getElem? (i := 7) rfl)
theorem w_1425 : Cond.code yX10_isTold prog_12_method_11_code 2 (some .boolean) ∈ am_GT := wc_31_ok _ (List.mem_of_getElem? (i := 8) rfl)
theorem w_1426 : Cond.methodLink "CaveEchoesLaw" 286 yX10_heard ∈ am_GT := wc_31_ok _ (List.mem_of_getElem? (i := 9) rfl)
theorem w_1427 : Cond.instanceMethod yX10_heard ∈ am_GT := wc_31_ok _ (List.mem_of_getElem? (i := 10) rfl)
theorem w_1428 : Cond.selects "CaveEchoesModel" yX10_heard yX10_heard ∈ am_GT := wc_31_ok _ (List.mem_of_getElem? (i := 11) rfl)
theorem w_1429 : Cond.code yX10_heard prog_12_method_56_code 2 (some .int) ∈ am_GT := wc_31_ok _ (List.mem_of_getElem? (i := 12) rfl)
theorem w_1430 : Cond.methodLink "CaveEchoesModel" 153 yX10_heardOf ∈ am_GT := wc_31_ok _ (List.mem_of_getElem? (i := 13) rfl)
theorem w_1432 : Cond.instanceMethod yX10_heardOf ∈ am_GT := wc_31_ok _ (List.mem_of_getElem? (i := 14) rfl)
theorem w_1433 : Cond.code yX10_heardOf prog_12_method_55_code 2 (some .int) ∈ am_GT := wc_31_ok _ (List.mem_of_getElem? (i := 15) rfl)
theorem w_1434 : Cond.methodLink "CaveEchoesModel" 150 yX10_hears ∈ am_GT := wc_31_ok _ (List.mem_of_getElem? (i := 16) rfl)
theorem w_1436 : Cond.instanceMethod yX10_hears ∈ am_GT := wc_31_ok _ (List.mem_of_getElem? (i := 17) rfl)
theorem w_1437 : Cond.code yX10_hears prog_12_method_54_code 5 (some .int) ∈ am_GT := wc_31_ok _ (List.mem_of_getElem? (i := 18) rfl)
theorem w_1438 : Cond.methodLink "CaveEchoesLaw" 289 yX10_heardByBits ∈ am_GT := wc_31_ok _ (List.mem_of_getElem? (i := 19) rfl)
theorem w_1439 : Cond.instanceMethod yX10_heardByBits ∈ am_GT := wc_31_ok _ (List.mem_of_getElem? (i := 20) rfl)
theorem w_1440 : Cond.selects "CaveEchoesModel" yX10_heardByBits yX10_heardByBits ∈ am_GT := wc_31_ok _ (List.mem_of_getElem? (i := 21) rfl)
theorem w_1441 : Cond.code yX10_heardByBits prog_12_method_57_code 2 (some .int) ∈ am_GT := wc_31_ok _ (List.mem_of_getElem? (i := 22) rfl)
theorem w_1442 : Cond.methodLink "CaveEchoesLaw" 293 yX10_unlike ∈ am_GT := wc_31_ok _ (List.mem_of_getElem? (i := 23) rfl)
theorem w_1443 : Cond.instanceMethod yX10_unlike ∈ am_GT := wc_31_ok _ (List.mem_of_getElem? (i := 24) rfl)
theorem w_1444 : Cond.selects "CaveEchoesModel" yX10_unlike yX10_unlike ∈ am_GT := wc_31_ok _ (List.mem_of_getElem? (i := 25) rfl)
theorem w_1445 : Cond.code yX10_unlike prog_12_method_58_code 1 (some .int) ∈ am_GT := wc_31_ok _ (List.mem_of_getElem? (i := 26) rfl)
theorem w_1446 : Cond.methodLink "CaveEchoesLaw" 297 yX10_firstUnlike ∈ am_GT := wc_31_ok _ (List.mem_of_getElem? (i := 27) rfl)
theorem w_1447 : Cond.instanceMethod yX10_firstUnlike ∈ am_GT := wc_31_ok _ (List.mem_of_getElem? (i := 28) rfl)
theorem w_1448 : Cond.selects "CaveEchoesModel" yX10_firstUnlike yX10_firstUnlike ∈ am_GT := wc_31_ok _ (List.mem_of_getElem? (i := 29) rfl)
def wc_32 : List Cond := [Cond.code yX10_firstUnlike prog_12_method_60_code 1 (some .int), Cond.methodLink "CaveEchoesModel" 156 yX10_firstOther, Cond.instanceMethod yX10_firstOther, Cond.code yX10_firstOther prog_12_method_59_code 3 (some .int), Cond.methodLink "CaveEchoesLaw" 300 yX10_harm, Cond.instanceMethod yX10_harm, Cond.selects "CaveEchoesModel" yX10_harm yX10_harm, Cond.code yX10_harm prog_12_method_61_code 2 (some .int), Cond.methodLink "CaveEchoesLaw" 304 yX10_worst, Cond.instanceMethod yX10_worst, Cond.selects "CaveEchoesModel" yX10_worst yX10_worst, Cond.code yX10_worst prog_12_method_63_code 1 (some .int), Cond.methodLink "CaveEchoesModel" 159 yX10_mostHarm, Cond.instanceMethod yX10_mostHarm, Cond.code yX10_mostHarm prog_12_method_62_code 6 (some .int), Cond.methodLink "CaveEchoesLaw" 308 yX10_sent, Cond.instanceMethod yX10_sent, Cond.selects "CaveEchoesModel" yX10_sent yX10_sent, Cond.code yX10_sent prog_12_method_64_code 1 (some .int), Cond.methodLink "CaveEchoesLaw" 181 yX10_samples, Cond.instanceMethod yX10_samples, Cond.selects "CaveEchoesModel" yX10_samples yX10_samples, Cond.code yX10_samples prog_12_method_65_code 1 (some .int), Cond.methodLink "CaveEchoesLaw" 184 yX10_sampleAt, Cond.instanceMethod yX10_sampleAt, Cond.selects "CaveEchoesModel" yX10_sampleAt yX10_sampleAt, Cond.code yX10_sampleAt prog_12_method_66_code 2 (some .int), Cond.methodLink "CaveEchoesLaw" 188 yX10_blocks, Cond.instanceMethod yX10_blocks, Cond.selects "CaveEchoesModel" yX10_blocks yX10_blocks]
theorem wc_32_ok : ∀ w ∈ wc_32, w ∈ am_GT := am_sub wc_32 1449 (by decide +kernel)
theorem w_1449 : Cond.code yX10_firstUnlike prog_12_method_60_code 1 (some .int) ∈ am_GT := wc_32_ok _ (List.mem_of_getElem? (i := 0) rfl)
theorem w_1450 : Cond.methodLink "CaveEchoesModel" 156 yX10_firstOther ∈ am_GT := wc_32_ok _ (List.mem_of_getElem? (i := 1) rfl)
theorem w_1452 : Cond.instanceMethod yX10_firstOther ∈ am_GT := wc_32_ok _ (List.mem_of_getElem? (i := 2) rfl)
theorem w_1453 : Cond.code yX10_firstOther prog_12_method_59_code 3 (some .int) ∈ am_GT := wc_32_ok _ (List.mem_of_getElem? (i := 3) rfl)
theorem w_1454 : Cond.methodLink "CaveEchoesLaw" 300 yX10_harm ∈ am_GT := wc_32_ok _ (List.mem_of_getElem? (i := 4) rfl)
theorem w_1455 : Cond.instanceMethod yX10_harm ∈ am_GT := wc_32_ok _ (List.mem_of_getElem? (i := 5) rfl)
theorem w_1456 : Cond.selects "CaveEchoesModel" yX10_harm yX10_harm ∈ am_GT := wc_32_ok _ (List.mem_of_getElem? (i := 6) rfl)
theorem w_1457 : Cond.code yX10_harm prog_12_method_61_code 2 (some .int) ∈ am_GT := wc_32_ok _ (List.mem_of_getElem? (i := 7) rfl)
theorem w_1458 : Cond.methodLink "CaveEchoesLaw" 304 yX10_worst ∈ am_GT := wc_32_ok _ (List.mem_of_getElem? (i := 8) rfl)
theorem w_1459 : Cond.instanceMethod yX10_worst ∈ am_GT := wc_32_ok _ (List.mem_of_getElem? (i := 9) rfl)
theorem w_1460 : Cond.selects "CaveEchoesModel" yX10_worst yX10_worst ∈ am_GT := wc_32_ok _ (List.mem_of_getElem? (i := 10) rfl)
theorem w_1461 : Cond.code yX10_worst prog_12_method_63_code 1 (some .int) ∈ am_GT := wc_32_ok _ (List.mem_of_getElem? (i := 11) rfl)
theorem w_1462 : Cond.methodLink "CaveEchoesModel" 159 yX10_mostHarm ∈ am_GT := wc_32_ok _ (List.mem_of_getElem? (i := 12) rfl)
theorem w_1464 : Cond.instanceMethod yX10_mostHarm ∈ am_GT := wc_32_ok _ (List.mem_of_getElem? (i := 13) rfl)
theorem w_1465 : Cond.code yX10_mostHarm prog_12_method_62_code 6 (some .int) ∈ am_GT := wc_32_ok _ (List.mem_of_getElem? (i := 14) rfl)
theorem w_1466 : Cond.methodLink "CaveEchoesLaw" 308 yX10_sent ∈ am_GT := wc_32_ok _ (List.mem_of_getElem? (i := 15) rfl)
theorem w_1467 : Cond.instanceMethod yX10_sent ∈ am_GT := wc_32_ok _ (List.mem_of_getElem? (i := 16) rfl)
theorem w_1468 : Cond.selects "CaveEchoesModel" yX10_sent yX10_sent ∈ am_GT := wc_32_ok _ (List.mem_of_getElem? (i := 17) rfl)
theorem w_1469 : Cond.code yX10_sent prog_12_method_64_code 1 (some .int) ∈ am_GT := wc_32_ok _ (List.mem_of_getElem? (i := 18) rfl)
theorem w_1470 : Cond.methodLink "CaveEchoesLaw" 181 yX10_samples ∈ am_GT := wc_32_ok _ (List.mem_of_getElem? (i := 19) rfl)
theorem w_1471 : Cond.instanceMethod yX10_samples ∈ am_GT := wc_32_ok _ (List.mem_of_getElem? (i := 20) rfl)
theorem w_1472 : Cond.selects "CaveEchoesModel" yX10_samples yX10_samples ∈ am_GT := wc_32_ok _ (List.mem_of_getElem? (i := 21) rfl)
theorem w_1473 : Cond.code yX10_samples prog_12_method_65_code 1 (some .int) ∈ am_GT := wc_32_ok _ (List.mem_of_getElem? (i := 22) rfl)
theorem w_1474 : Cond.methodLink "CaveEchoesLaw" 184 yX10_sampleAt ∈ am_GT := wc_32_ok _ (List.mem_of_getElem? (i := 23) rfl)
theorem w_1475 : Cond.instanceMethod yX10_sampleAt ∈ am_GT := wc_32_ok _ (List.mem_of_getElem? (i := 24) rfl)
theorem w_1476 : Cond.selects "CaveEchoesModel" yX10_sampleAt yX10_sampleAt ∈ am_GT := wc_32_ok _ (List.mem_of_getElem? (i := 25) rfl)
theorem w_1477 : Cond.code yX10_sampleAt prog_12_method_66_code 2 (some .int) ∈ am_GT := wc_32_ok _ (List.mem_of_getElem? (i := 26) rfl)
theorem w_1478 : Cond.methodLink "CaveEchoesLaw" 188 yX10_blocks ∈ am_GT := wc_32_ok _ (List.mem_of_getElem? (i := 27) rfl)
theorem w_1479 : Cond.instanceMethod yX10_blocks ∈ am_GT := wc_32_ok _ (List.mem_of_getElem? (i := 28) rfl)
theorem w_1480 : Cond.selects "CaveEchoesModel" yX10_blocks yX10_blocks ∈ am_GT := wc_32_ok _ (List.mem_of_getElem? (i := 29) rfl)
def wc_33 : List Cond := [Cond.code yX10_blocks prog_12_method_67_code 1 (some .int), Cond.methodLink "CaveEchoesLaw" 192 yX10_delay, Cond.instanceMethod yX10_delay, Cond.selects "CaveEchoesModel" yX10_delay yX10_delay, Cond.code yX10_delay prog_12_method_68_code 1 (some .int), Cond.methodLink "CaveEchoesLaw" 196 yX10_speed, Cond.instanceMethod yX10_speed, Cond.selects "CaveEchoesModel" yX10_speed yX10_speed, Cond.code yX10_speed prog_12_method_69_code 1 (some .int), Cond.methodLink "CaveEchoesLaw" 200 yX10_allowed, Cond.instanceMethod yX10_allowed, Cond.selects "CaveEchoesModel" yX10_allowed yX10_allowed, Cond.code yX10_allowed prog_12_method_70_code 1 (some .int), Cond.methodLink "CaveEchoesLaw" 203 yX10_firstWeight, Cond.instanceMethod yX10_firstWeight, Cond.selects "CaveEchoesModel" yX10_firstWeight yX10_firstWeight, Cond.code yX10_firstWeight prog_12_method_71_code 2 (some .int), Cond.methodLink "CaveEchoesLaw" 208 yX10_loudness, Cond.instanceMethod yX10_loudness, Cond.selects "CaveEchoesModel" yX10_loudness yX10_loudness, Cond.code yX10_loudness prog_12_method_73_code 1 (some .double), Cond.methodLink "CaveEchoesModel" 162 yX10_mean, Cond.instanceMethod yX10_mean, Cond.code yX10_mean prog_12_method_72_code 3 (some .double), Cond.methodLink "CaveEchoesLaw" 211 yX10_weightAt, Cond.instanceMethod yX10_weightAt, Cond.selects "CaveEchoesModel" yX10_weightAt yX10_weightAt, Cond.code yX10_weightAt prog_12_method_75_code 3 (some .int), Cond.methodLink "CaveEchoesModel" 166 yX10_weightAsked, Cond.instanceMethod yX10_weightAsked]
theorem wc_33_ok : ∀ w ∈ wc_33, w ∈ am_GT := am_sub wc_33 1481 (by decide +kernel)
theorem w_1481 : Cond.code yX10_blocks prog_12_method_67_code 1 (some .int) ∈ am_GT := wc_33_ok _ (List.mem_of_getElem? (i := 0) rfl)
theorem w_1482 : Cond.methodLink "CaveEchoesLaw" 192 yX10_delay ∈ am_GT := wc_33_ok _ (List.mem_of_getElem? (i := 1) rfl)
theorem w_1483 : Cond.instanceMethod yX10_delay ∈ am_GT := wc_33_ok _ (List.mem_of_getElem? (i := 2) rfl)
theorem w_1484 : Cond.selects "CaveEchoesModel" yX10_delay yX10_delay ∈ am_GT := wc_33_ok _ (List.mem_of_getElem? (i := 3) rfl)
theorem w_1485 : Cond.code yX10_delay prog_12_method_68_code 1 (some .int) ∈ am_GT := wc_33_ok _ (List.mem_of_getElem? (i := 4) rfl)
theorem w_1486 : Cond.methodLink "CaveEchoesLaw" 196 yX10_speed ∈ am_GT := wc_33_ok _ (List.mem_of_getElem? (i := 5) rfl)
theorem w_1487 : Cond.instanceMethod yX10_speed ∈ am_GT := wc_33_ok _ (List.mem_of_getElem? (i := 6) rfl)
theorem w_1488 : Cond.selects "CaveEchoesModel" yX10_speed yX10_speed ∈ am_GT := wc_33_ok _ (List.mem_of_getElem? (i := 7) rfl)
theorem w_1489 : Cond.code yX10_speed prog_12_method_69_code 1 (some .int) ∈ am_GT := wc_33_ok _ (List.mem_of_getElem? (i := 8) rfl)
theorem w_1490 : Cond.methodLink "CaveEchoesLaw" 200 yX10_allowed ∈ am_GT := wc_33_ok _ (List.mem_of_getElem? (i := 9) rfl)
theorem w_1491 : Cond.instanceMethod yX10_allowed ∈ am_GT := wc_33_ok _ (List.mem_of_getElem? (i := 10) rfl)
theorem w_1492 : Cond.selects "CaveEchoesModel" yX10_allowed yX10_allowed ∈ am_GT := wc_33_ok _ (List.mem_of_getElem? (i := 11) rfl)
theorem w_1493 : Cond.code yX10_allowed prog_12_method_70_code 1 (some .int) ∈ am_GT := wc_33_ok _ (List.mem_of_getElem? (i := 12) rfl)
theorem w_1494 : Cond.methodLink "CaveEchoesLaw" 203 yX10_firstWeight ∈ am_GT := wc_33_ok _ (List.mem_of_getElem? (i := 13) rfl)
theorem w_1495 : Cond.instanceMethod yX10_firstWeight ∈ am_GT := wc_33_ok _ (List.mem_of_getElem? (i := 14) rfl)
theorem w_1496 : Cond.selects "CaveEchoesModel" yX10_firstWeight yX10_firstWeight ∈ am_GT := wc_33_ok _ (List.mem_of_getElem? (i := 15) rfl)
theorem w_1497 : Cond.code yX10_firstWeight prog_12_method_71_code 2 (some .int) ∈ am_GT := wc_33_ok _ (List.mem_of_getElem? (i := 16) rfl)
theorem w_1498 : Cond.methodLink "CaveEchoesLaw" 208 yX10_loudness ∈ am_GT := wc_33_ok _ (List.mem_of_getElem? (i := 17) rfl)
theorem w_1499 : Cond.instanceMethod yX10_loudness ∈ am_GT := wc_33_ok _ (List.mem_of_getElem? (i := 18) rfl)
theorem w_1500 : Cond.selects "CaveEchoesModel" yX10_loudness yX10_loudness ∈ am_GT := wc_33_ok _ (List.mem_of_getElem? (i := 19) rfl)
theorem w_1501 : Cond.code yX10_loudness prog_12_method_73_code 1 (some .double) ∈ am_GT := wc_33_ok _ (List.mem_of_getElem? (i := 20) rfl)
theorem w_1502 : Cond.methodLink "CaveEchoesModel" 162 yX10_mean ∈ am_GT := wc_33_ok _ (List.mem_of_getElem? (i := 21) rfl)
theorem w_1504 : Cond.instanceMethod yX10_mean ∈ am_GT := wc_33_ok _ (List.mem_of_getElem? (i := 22) rfl)
theorem w_1505 : Cond.code yX10_mean prog_12_method_72_code 3 (some .double) ∈ am_GT := wc_33_ok _ (List.mem_of_getElem? (i := 23) rfl)
theorem w_1506 : Cond.methodLink "CaveEchoesLaw" 211 yX10_weightAt ∈ am_GT := wc_33_ok _ (List.mem_of_getElem? (i := 24) rfl)
theorem w_1507 : Cond.instanceMethod yX10_weightAt ∈ am_GT := wc_33_ok _ (List.mem_of_getElem? (i := 25) rfl)
theorem w_1508 : Cond.selects "CaveEchoesModel" yX10_weightAt yX10_weightAt ∈ am_GT := wc_33_ok _ (List.mem_of_getElem? (i := 26) rfl)
theorem w_1509 : Cond.code yX10_weightAt prog_12_method_75_code 3 (some .int) ∈ am_GT := wc_33_ok _ (List.mem_of_getElem? (i := 27) rfl)
theorem w_1510 : Cond.methodLink "CaveEchoesModel" 166 yX10_weightAsked ∈ am_GT := wc_33_ok _ (List.mem_of_getElem? (i := 28) rfl)
theorem w_1512 : Cond.instanceMethod yX10_weightAsked ∈ am_GT := wc_33_ok _ (List.mem_of_getElem? (i := 29) rfl)
def wc_34 : List Cond := [Cond.code yX10_weightAsked prog_12_method_74_code 3 (some .int), Cond.methodLink "CaveEchoesModel" 90 yX10_weightsAhead, Cond.instanceMethod yX10_weightsAhead, Cond.code yX10_weightsAhead prog_12_method_25_code 3 none, Cond.methodLink "CaveEchoesLaw" 214 yX10_weightByCounting, Cond.instanceMethod yX10_weightByCounting, Cond.selects "CaveEchoesModel" yX10_weightByCounting yX10_weightByCounting, Cond.code yX10_weightByCounting prog_12_method_76_code 3 (some .int), Cond.methodLink "CaveEchoesLaw" 217 yX10_foretold, Cond.instanceMethod yX10_foretold, Cond.selects "CaveEchoesModel" yX10_foretold yX10_foretold, Cond.code yX10_foretold prog_12_method_77_code 3 (some .int), Cond.methodLink "CaveEchoesModel" 169 yX10_foretoldOf, Cond.instanceMethod yX10_foretoldOf, Cond.code yX10_foretoldOf prog_12_method_26_code 3 (some .int), Cond.methodLink "CaveEchoesLaw" 220 yX10_leftOver, Cond.instanceMethod yX10_leftOver, Cond.selects "CaveEchoesModel" yX10_leftOver yX10_leftOver, Cond.code yX10_leftOver prog_12_method_78_code 3 (some .int), Cond.methodLink "CaveEchoesLaw" 223 yX10_sumOf, Cond.instanceMethod yX10_sumOf, Cond.selects "CaveEchoesModel" yX10_sumOf yX10_sumOf, Cond.code yX10_sumOf prog_12_method_79_code 2 (some .int), Cond.methodLink "CaveEchoesLaw" 226 yX10_sumWithDelay, Cond.instanceMethod yX10_sumWithDelay, Cond.selects "CaveEchoesModel" yX10_sumWithDelay yX10_sumWithDelay, Cond.code yX10_sumWithDelay prog_12_method_81_code 2 (some .int), Cond.methodLink "CaveEchoesModel" 172 yX10_sumBehind, Cond.instanceMethod yX10_sumBehind, Cond.code yX10_sumBehind prog_12_method_80_code 2 (some .int)]
theorem wc_34_ok : ∀ w ∈ wc_34, w ∈ am_GT := am_sub wc_34 1513 (by decide +kernel)
theorem w_1513 : Cond.code yX10_weightAsked prog_12_method_74_code 3 (some .int) ∈ am_GT := wc_34_ok _ (List.mem_of_getElem? (i := 0) rfl)
theorem w_1514 : Cond.methodLink "CaveEchoesModel" 90 yX10_weightsAhead ∈ am_GT := wc_34_ok _ (List.mem_of_getElem? (i := 1) rfl)
theorem w_1516 : Cond.instanceMethod yX10_weightsAhead ∈ am_GT := wc_34_ok _ (List.mem_of_getElem? (i := 2) rfl)
theorem w_1517 : Cond.code yX10_weightsAhead prog_12_method_25_code 3 none ∈ am_GT := wc_34_ok _ (List.mem_of_getElem? (i := 3) rfl)
theorem w_1518 : Cond.methodLink "CaveEchoesLaw" 214 yX10_weightByCounting ∈ am_GT := wc_34_ok _ (List.mem_of_getElem? (i := 4) rfl)
theorem w_1519 : Cond.instanceMethod yX10_weightByCounting ∈ am_GT := wc_34_ok _ (List.mem_of_getElem? (i := 5) rfl)
theorem w_1520 : Cond.selects "CaveEchoesModel" yX10_weightByCounting yX10_weightByCounting ∈ am_GT := wc_34_ok _ (List.mem_of_getElem? (i := 6) rfl)
theorem w_1521 : Cond.code yX10_weightByCounting prog_12_method_76_code 3 (some .int) ∈ am_GT := wc_34_ok _ (List.mem_of_getElem? (i := 7) rfl)
theorem w_1522 : Cond.methodLink "CaveEchoesLaw" 217 yX10_foretold ∈ am_GT := wc_34_ok _ (List.mem_of_getElem? (i := 8) rfl)
theorem w_1523 : Cond.instanceMethod yX10_foretold ∈ am_GT := wc_34_ok _ (List.mem_of_getElem? (i := 9) rfl)
theorem w_1524 : Cond.selects "CaveEchoesModel" yX10_foretold yX10_foretold ∈ am_GT := wc_34_ok _ (List.mem_of_getElem? (i := 10) rfl)
theorem w_1525 : Cond.code yX10_foretold prog_12_method_77_code 3 (some .int) ∈ am_GT := wc_34_ok _ (List.mem_of_getElem? (i := 11) rfl)
theorem w_1526 : Cond.methodLink "CaveEchoesModel" 169 yX10_foretoldOf ∈ am_GT := wc_34_ok _ (List.mem_of_getElem? (i := 12) rfl)
theorem w_1528 : Cond.instanceMethod yX10_foretoldOf ∈ am_GT := wc_34_ok _ (List.mem_of_getElem? (i := 13) rfl)
theorem w_1529 : Cond.code yX10_foretoldOf prog_12_method_26_code 3 (some .int) ∈ am_GT := wc_34_ok _ (List.mem_of_getElem? (i := 14) rfl)
theorem w_1530 : Cond.methodLink "CaveEchoesLaw" 220 yX10_leftOver ∈ am_GT := wc_34_ok _ (List.mem_of_getElem? (i := 15) rfl)
theorem w_1531 : Cond.instanceMethod yX10_leftOver ∈ am_GT := wc_34_ok _ (List.mem_of_getElem? (i := 16) rfl)
theorem w_1532 : Cond.selects "CaveEchoesModel" yX10_leftOver yX10_leftOver ∈ am_GT := wc_34_ok _ (List.mem_of_getElem? (i := 17) rfl)
theorem w_1533 : Cond.code yX10_leftOver prog_12_method_78_code 3 (some .int) ∈ am_GT := wc_34_ok _ (List.mem_of_getElem? (i := 18) rfl)
theorem w_1534 : Cond.methodLink "CaveEchoesLaw" 223 yX10_sumOf ∈ am_GT := wc_34_ok _ (List.mem_of_getElem? (i := 19) rfl)
theorem w_1535 : Cond.instanceMethod yX10_sumOf ∈ am_GT := wc_34_ok _ (List.mem_of_getElem? (i := 20) rfl)
theorem w_1536 : Cond.selects "CaveEchoesModel" yX10_sumOf yX10_sumOf ∈ am_GT := wc_34_ok _ (List.mem_of_getElem? (i := 21) rfl)
theorem w_1537 : Cond.code yX10_sumOf prog_12_method_79_code 2 (some .int) ∈ am_GT := wc_34_ok _ (List.mem_of_getElem? (i := 22) rfl)
theorem w_1538 : Cond.methodLink "CaveEchoesLaw" 226 yX10_sumWithDelay ∈ am_GT := wc_34_ok _ (List.mem_of_getElem? (i := 23) rfl)
theorem w_1539 : Cond.instanceMethod yX10_sumWithDelay ∈ am_GT := wc_34_ok _ (List.mem_of_getElem? (i := 24) rfl)
theorem w_1540 : Cond.selects "CaveEchoesModel" yX10_sumWithDelay yX10_sumWithDelay ∈ am_GT := wc_34_ok _ (List.mem_of_getElem? (i := 25) rfl)
theorem w_1541 : Cond.code yX10_sumWithDelay prog_12_method_81_code 2 (some .int) ∈ am_GT := wc_34_ok _ (List.mem_of_getElem? (i := 26) rfl)
theorem w_1542 : Cond.methodLink "CaveEchoesModel" 172 yX10_sumBehind ∈ am_GT := wc_34_ok _ (List.mem_of_getElem? (i := 27) rfl)
theorem w_1544 : Cond.instanceMethod yX10_sumBehind ∈ am_GT := wc_34_ok _ (List.mem_of_getElem? (i := 28) rfl)
theorem w_1545 : Cond.code yX10_sumBehind prog_12_method_80_code 2 (some .int) ∈ am_GT := wc_34_ok _ (List.mem_of_getElem? (i := 29) rfl)
def wc_35 : List Cond := [Cond.methodLink "CaveEchoesLaw" 230 yX10_bestDelay, Cond.instanceMethod yX10_bestDelay, Cond.selects "CaveEchoesModel" yX10_bestDelay yX10_bestDelay, Cond.code yX10_bestDelay prog_12_method_83_code 1 (some .int), Cond.methodLink "CaveEchoesModel" 175 yX10_delayFor, Cond.instanceMethod yX10_delayFor, Cond.code yX10_delayFor prog_12_method_82_code 3 (some .int), Cond.methodLink "CaveEchoesLaw" 234 yX10_bestSpeed, Cond.instanceMethod yX10_bestSpeed, Cond.selects "CaveEchoesModel" yX10_bestSpeed yX10_bestSpeed, Cond.code yX10_bestSpeed prog_12_method_85_code 1 (some .int), Cond.methodLink "CaveEchoesModel" 178 yX10_speedFor, Cond.instanceMethod yX10_speedFor, Cond.code yX10_speedFor prog_12_method_84_code 6 (some .int), Cond.methodLink "CaveEchoesLaw" 237 yX10_bestFirst, Cond.instanceMethod yX10_bestFirst, Cond.selects "CaveEchoesModel" yX10_bestFirst yX10_bestFirst, Cond.code yX10_bestFirst prog_12_method_87_code 2 (some .int), Cond.methodLink "CaveEchoesModel" 181 yX10_firstFor, Cond.instanceMethod yX10_firstFor, Cond.code yX10_firstFor prog_12_method_86_code 7 (some .int), Cond.methodLink "CaveEchoesLaw" 240 yX10_bitsWith, Cond.instanceMethod yX10_bitsWith, Cond.selects "CaveEchoesModel" yX10_bitsWith yX10_bitsWith, Cond.code yX10_bitsWith prog_12_method_88_code 4 (some .int), Cond.methodLink "CaveEchoesModel" 184 yX10_isBlock, Cond.instanceMethod yX10_isBlock, Cond.code yX10_isBlock prog_12_method_10_code 2 (some .boolean), Cond.methodLink "CaveEchoesLaw" 243 yX10_bestParameter, Cond.instanceMethod yX10_bestParameter]
theorem wc_35_ok : ∀ w ∈ wc_35, w ∈ am_GT := am_sub wc_35 1546 (by decide +kernel)
theorem w_1546 : Cond.methodLink "CaveEchoesLaw" 230 yX10_bestDelay ∈ am_GT := wc_35_ok _ (List.mem_of_getElem? (i := 0) rfl)
theorem w_1547 : Cond.instanceMethod yX10_bestDelay ∈ am_GT := wc_35_ok _ (List.mem_of_getElem? (i := 1) rfl)
theorem w_1548 : Cond.selects "CaveEchoesModel" yX10_bestDelay yX10_bestDelay ∈ am_GT := wc_35_ok _ (List.mem_of_getElem? (i := 2) rfl)
theorem w_1549 : Cond.code yX10_bestDelay prog_12_method_83_code 1 (some .int) ∈ am_GT := wc_35_ok _ (List.mem_of_getElem? (i := 3) rfl)
theorem w_1550 : Cond.methodLink "CaveEchoesModel" 175 yX10_delayFor ∈ am_GT := wc_35_ok _ (List.mem_of_getElem? (i := 4) rfl)
theorem w_1552 : Cond.instanceMethod yX10_delayFor ∈ am_GT := wc_35_ok _ (List.mem_of_getElem? (i := 5) rfl)
theorem w_1553 : Cond.code yX10_delayFor prog_12_method_82_code 3 (some .int) ∈ am_GT := wc_35_ok _ (List.mem_of_getElem? (i := 6) rfl)
theorem w_1554 : Cond.methodLink "CaveEchoesLaw" 234 yX10_bestSpeed ∈ am_GT := wc_35_ok _ (List.mem_of_getElem? (i := 7) rfl)
theorem w_1555 : Cond.instanceMethod yX10_bestSpeed ∈ am_GT := wc_35_ok _ (List.mem_of_getElem? (i := 8) rfl)
theorem w_1556 : Cond.selects "CaveEchoesModel" yX10_bestSpeed yX10_bestSpeed ∈ am_GT := wc_35_ok _ (List.mem_of_getElem? (i := 9) rfl)
theorem w_1557 : Cond.code yX10_bestSpeed prog_12_method_85_code 1 (some .int) ∈ am_GT := wc_35_ok _ (List.mem_of_getElem? (i := 10) rfl)
theorem w_1558 : Cond.methodLink "CaveEchoesModel" 178 yX10_speedFor ∈ am_GT := wc_35_ok _ (List.mem_of_getElem? (i := 11) rfl)
theorem w_1560 : Cond.instanceMethod yX10_speedFor ∈ am_GT := wc_35_ok _ (List.mem_of_getElem? (i := 12) rfl)
theorem w_1561 : Cond.code yX10_speedFor prog_12_method_84_code 6 (some .int) ∈ am_GT := wc_35_ok _ (List.mem_of_getElem? (i := 13) rfl)
theorem w_1562 : Cond.methodLink "CaveEchoesLaw" 237 yX10_bestFirst ∈ am_GT := wc_35_ok _ (List.mem_of_getElem? (i := 14) rfl)
theorem w_1563 : Cond.instanceMethod yX10_bestFirst ∈ am_GT := wc_35_ok _ (List.mem_of_getElem? (i := 15) rfl)
theorem w_1564 : Cond.selects "CaveEchoesModel" yX10_bestFirst yX10_bestFirst ∈ am_GT := wc_35_ok _ (List.mem_of_getElem? (i := 16) rfl)
theorem w_1565 : Cond.code yX10_bestFirst prog_12_method_87_code 2 (some .int) ∈ am_GT := wc_35_ok _ (List.mem_of_getElem? (i := 17) rfl)
theorem w_1566 : Cond.methodLink "CaveEchoesModel" 181 yX10_firstFor ∈ am_GT := wc_35_ok _ (List.mem_of_getElem? (i := 18) rfl)
theorem w_1568 : Cond.instanceMethod yX10_firstFor ∈ am_GT := wc_35_ok _ (List.mem_of_getElem? (i := 19) rfl)
theorem w_1569 : Cond.code yX10_firstFor prog_12_method_86_code 7 (some .int) ∈ am_GT := wc_35_ok _ (List.mem_of_getElem? (i := 20) rfl)
theorem w_1570 : Cond.methodLink "CaveEchoesLaw" 240 yX10_bitsWith ∈ am_GT := wc_35_ok _ (List.mem_of_getElem? (i := 21) rfl)
theorem w_1571 : Cond.instanceMethod yX10_bitsWith ∈ am_GT := wc_35_ok _ (List.mem_of_getElem? (i := 22) rfl)
theorem w_1572 : Cond.selects "CaveEchoesModel" yX10_bitsWith yX10_bitsWith ∈ am_GT := wc_35_ok _ (List.mem_of_getElem? (i := 23) rfl)
theorem w_1573 : Cond.code yX10_bitsWith prog_12_method_88_code 4 (some .int) ∈ am_GT := wc_35_ok _ (List.mem_of_getElem? (i := 24) rfl)
theorem w_1574 : Cond.methodLink "CaveEchoesModel" 184 yX10_isBlock ∈ am_GT := wc_35_ok _ (List.mem_of_getElem? (i := 25) rfl)
theorem w_1576 : Cond.instanceMethod yX10_isBlock ∈ am_GT := wc_35_ok _ (List.mem_of_getElem? (i := 26) rfl)
theorem w_1577 : Cond.code yX10_isBlock prog_12_method_10_code 2 (some .boolean) ∈ am_GT := wc_35_ok _ (List.mem_of_getElem? (i := 27) rfl)
theorem w_1578 : Cond.methodLink "CaveEchoesLaw" 243 yX10_bestParameter ∈ am_GT := wc_35_ok _ (List.mem_of_getElem? (i := 28) rfl)
theorem w_1579 : Cond.instanceMethod yX10_bestParameter ∈ am_GT := wc_35_ok _ (List.mem_of_getElem? (i := 29) rfl)
def wc_36 : List Cond := [Cond.selects "CaveEchoesModel" yX10_bestParameter yX10_bestParameter, Cond.code yX10_bestParameter prog_12_method_90_code 3 (some .int), Cond.methodLink "CaveEchoesModel" 187 yX10_parameterBy, Cond.instanceMethod yX10_parameterBy, Cond.code yX10_parameterBy prog_12_method_89_code 3 (some .int), Cond.methodLink "CaveEchoesLaw" 246 yX10_bestKind, Cond.instanceMethod yX10_bestKind, Cond.selects "CaveEchoesModel" yX10_bestKind yX10_bestKind, Cond.code yX10_bestKind prog_12_method_91_code 2 (some .int), Cond.methodLink "CaveEchoesLaw" 249 yX10_whyBest, Cond.instanceMethod yX10_whyBest, Cond.selects "CaveEchoesModel" yX10_whyBest yX10_whyBest, Cond.code yX10_whyBest prog_12_method_92_code 2 (some .int), Cond.methodLink "CaveEchoesModel" 190 yX10_whyFor, Cond.instanceMethod yX10_whyFor, Cond.code yX10_whyFor prog_12_method_34_code 7 (some .int), Cond.methodLink "CaveEchoesLaw" 253 yX10_bits, Cond.instanceMethod yX10_bits, Cond.selects "CaveEchoesModel" yX10_bits yX10_bits, Cond.code yX10_bits prog_12_method_93_code 1 (some .int), Cond.methodLink "CaveEchoesModel" 193 yX10_allBits, Cond.instanceMethod yX10_allBits, Cond.code yX10_allBits prog_12_method_35_code 3 (some .int), Cond.methodLink "CaveEchoesLaw" 257 yX10_bitsByKinds, Cond.instanceMethod yX10_bitsByKinds, Cond.selects "CaveEchoesModel" yX10_bitsByKinds yX10_bitsByKinds, Cond.code yX10_bitsByKinds prog_12_method_94_code 1 (some .int), Cond.methodLink "CaveEchoesLaw" 260 yX10_blocksWith, Cond.instanceMethod yX10_blocksWith, Cond.selects "CaveEchoesModel" yX10_blocksWith yX10_blocksWith]
theorem wc_36_ok : ∀ w ∈ wc_36, w ∈ am_GT := am_sub wc_36 1580 (by decide +kernel)
theorem w_1580 : Cond.selects "CaveEchoesModel" yX10_bestParameter yX10_bestParameter ∈ am_GT := wc_36_ok _ (List.mem_of_getElem? (i := 0) rfl)
theorem w_1581 : Cond.code yX10_bestParameter prog_12_method_90_code 3 (some .int) ∈ am_GT := wc_36_ok _ (List.mem_of_getElem? (i := 1) rfl)
theorem w_1582 : Cond.methodLink "CaveEchoesModel" 187 yX10_parameterBy ∈ am_GT := wc_36_ok _ (List.mem_of_getElem? (i := 2) rfl)
theorem w_1584 : Cond.instanceMethod yX10_parameterBy ∈ am_GT := wc_36_ok _ (List.mem_of_getElem? (i := 3) rfl)
theorem w_1585 : Cond.code yX10_parameterBy prog_12_method_89_code 3 (some .int) ∈ am_GT := wc_36_ok _ (List.mem_of_getElem? (i := 4) rfl)
theorem w_1586 : Cond.methodLink "CaveEchoesLaw" 246 yX10_bestKind ∈ am_GT := wc_36_ok _ (List.mem_of_getElem? (i := 5) rfl)
theorem w_1587 : Cond.instanceMethod yX10_bestKind ∈ am_GT := wc_36_ok _ (List.mem_of_getElem? (i := 6) rfl)
theorem w_1588 : Cond.selects "CaveEchoesModel" yX10_bestKind yX10_bestKind ∈ am_GT := wc_36_ok _ (List.mem_of_getElem? (i := 7) rfl)
theorem w_1589 : Cond.code yX10_bestKind prog_12_method_91_code 2 (some .int) ∈ am_GT := wc_36_ok _ (List.mem_of_getElem? (i := 8) rfl)
theorem w_1590 : Cond.methodLink "CaveEchoesLaw" 249 yX10_whyBest ∈ am_GT := wc_36_ok _ (List.mem_of_getElem? (i := 9) rfl)
theorem w_1591 : Cond.instanceMethod yX10_whyBest ∈ am_GT := wc_36_ok _ (List.mem_of_getElem? (i := 10) rfl)
theorem w_1592 : Cond.selects "CaveEchoesModel" yX10_whyBest yX10_whyBest ∈ am_GT := wc_36_ok _ (List.mem_of_getElem? (i := 11) rfl)
theorem w_1593 : Cond.code yX10_whyBest prog_12_method_92_code 2 (some .int) ∈ am_GT := wc_36_ok _ (List.mem_of_getElem? (i := 12) rfl)
theorem w_1594 : Cond.methodLink "CaveEchoesModel" 190 yX10_whyFor ∈ am_GT := wc_36_ok _ (List.mem_of_getElem? (i := 13) rfl)
theorem w_1596 : Cond.instanceMethod yX10_whyFor ∈ am_GT := wc_36_ok _ (List.mem_of_getElem? (i := 14) rfl)
theorem w_1597 : Cond.code yX10_whyFor prog_12_method_34_code 7 (some .int) ∈ am_GT := wc_36_ok _ (List.mem_of_getElem? (i := 15) rfl)
theorem w_1598 : Cond.methodLink "CaveEchoesLaw" 253 yX10_bits ∈ am_GT := wc_36_ok _ (List.mem_of_getElem? (i := 16) rfl)
theorem w_1599 : Cond.instanceMethod yX10_bits ∈ am_GT := wc_36_ok _ (List.mem_of_getElem? (i := 17) rfl)
theorem w_1600 : Cond.selects "CaveEchoesModel" yX10_bits yX10_bits ∈ am_GT := wc_36_ok _ (List.mem_of_getElem? (i := 18) rfl)
theorem w_1601 : Cond.code yX10_bits prog_12_method_93_code 1 (some .int) ∈ am_GT := wc_36_ok _ (List.mem_of_getElem? (i := 19) rfl)
theorem w_1602 : Cond.methodLink "CaveEchoesModel" 193 yX10_allBits ∈ am_GT := wc_36_ok _ (List.mem_of_getElem? (i := 20) rfl)
theorem w_1604 : Cond.instanceMethod yX10_allBits ∈ am_GT := wc_36_ok _ (List.mem_of_getElem? (i := 21) rfl)
theorem w_1605 : Cond.code yX10_allBits prog_12_method_35_code 3 (some .int) ∈ am_GT := wc_36_ok _ (List.mem_of_getElem? (i := 22) rfl)
theorem w_1606 : Cond.methodLink "CaveEchoesLaw" 257 yX10_bitsByKinds ∈ am_GT := wc_36_ok _ (List.mem_of_getElem? (i := 23) rfl)
theorem w_1607 : Cond.instanceMethod yX10_bitsByKinds ∈ am_GT := wc_36_ok _ (List.mem_of_getElem? (i := 24) rfl)
theorem w_1608 : Cond.selects "CaveEchoesModel" yX10_bitsByKinds yX10_bitsByKinds ∈ am_GT := wc_36_ok _ (List.mem_of_getElem? (i := 25) rfl)
theorem w_1609 : Cond.code yX10_bitsByKinds prog_12_method_94_code 1 (some .int) ∈ am_GT := wc_36_ok _ (List.mem_of_getElem? (i := 26) rfl)
theorem w_1610 : Cond.methodLink "CaveEchoesLaw" 260 yX10_blocksWith ∈ am_GT := wc_36_ok _ (List.mem_of_getElem? (i := 27) rfl)
theorem w_1611 : Cond.instanceMethod yX10_blocksWith ∈ am_GT := wc_36_ok _ (List.mem_of_getElem? (i := 28) rfl)
theorem w_1612 : Cond.selects "CaveEchoesModel" yX10_blocksWith yX10_blocksWith ∈ am_GT := wc_36_ok _ (List.mem_of_getElem? (i := 29) rfl)
def wc_37 : List Cond := [Cond.code yX10_blocksWith prog_12_method_95_code 2 (some .int), Cond.methodLink "CaveEchoesModel" 196 yX10_blocksBy, Cond.instanceMethod yX10_blocksBy, Cond.code yX10_blocksBy prog_12_method_37_code 4 (some .int), Cond.methodLink "CaveEchoesLaw" 263 yX10_bitsIfOnly, Cond.instanceMethod yX10_bitsIfOnly, Cond.selects "CaveEchoesModel" yX10_bitsIfOnly yX10_bitsIfOnly, Cond.code yX10_bitsIfOnly prog_12_method_96_code 2 (some .int), Cond.methodLink "CaveEchoesModel" 199 yX10_bitsOnly, Cond.instanceMethod yX10_bitsOnly, Cond.code yX10_bitsOnly prog_12_method_36_code 4 (some .int), Cond.methodLink "CaveEchoesLaw" 267 yX10_told, Cond.instanceMethod yX10_told, Cond.selects "CaveEchoesModel" yX10_told yX10_told, Cond.code yX10_told prog_12_method_97_code 1 (some .int), Cond.methodLink "CaveEchoesLaw" 270 yX10_letterKind, Cond.instanceMethod yX10_letterKind, Cond.selects "CaveEchoesModel" yX10_letterKind yX10_letterKind, Cond.code yX10_letterKind prog_12_method_99_code 2 (some .int), Cond.methodLink "CaveEchoesModel" 202 yX10_isLetterBlock, Cond.instanceMethod yX10_isLetterBlock, Cond.code yX10_isLetterBlock prog_12_method_98_code 2 (some .boolean), Cond.methodLink "CaveEchoesLaw" 273 yX10_letterParameter, Cond.instanceMethod yX10_letterParameter, Cond.selects "CaveEchoesModel" yX10_letterParameter yX10_letterParameter, Cond.code yX10_letterParameter prog_12_method_100_code 2 (some .int), Cond.methodLink "CaveEchoesLaw" 276 yX10_letterLeft, Cond.instanceMethod yX10_letterLeft, Cond.selects "CaveEchoesModel" yX10_letterLeft yX10_letterLeft, Cond.code yX10_letterLeft prog_12_method_101_code 2 (some .int)]
theorem wc_37_ok : ∀ w ∈ wc_37, w ∈ am_GT := am_sub wc_37 1613 (by decide +kernel)
theorem w_1613 : Cond.code yX10_blocksWith prog_12_method_95_code 2 (some .int) ∈ am_GT := wc_37_ok _ (List.mem_of_getElem? (i := 0) rfl)
theorem w_1614 : Cond.methodLink "CaveEchoesModel" 196 yX10_blocksBy ∈ am_GT := wc_37_ok _ (List.mem_of_getElem? (i := 1) rfl)
theorem w_1616 : Cond.instanceMethod yX10_blocksBy ∈ am_GT := wc_37_ok _ (List.mem_of_getElem? (i := 2) rfl)
theorem w_1617 : Cond.code yX10_blocksBy prog_12_method_37_code 4 (some .int) ∈ am_GT := wc_37_ok _ (List.mem_of_getElem? (i := 3) rfl)
theorem w_1618 : Cond.methodLink "CaveEchoesLaw" 263 yX10_bitsIfOnly ∈ am_GT := wc_37_ok _ (List.mem_of_getElem? (i := 4) rfl)
theorem w_1619 : Cond.instanceMethod yX10_bitsIfOnly ∈ am_GT := wc_37_ok _ (List.mem_of_getElem? (i := 5) rfl)
theorem w_1620 : Cond.selects "CaveEchoesModel" yX10_bitsIfOnly yX10_bitsIfOnly ∈ am_GT := wc_37_ok _ (List.mem_of_getElem? (i := 6) rfl)
theorem w_1621 : Cond.code yX10_bitsIfOnly prog_12_method_96_code 2 (some .int) ∈ am_GT := wc_37_ok _ (List.mem_of_getElem? (i := 7) rfl)
theorem w_1622 : Cond.methodLink "CaveEchoesModel" 199 yX10_bitsOnly ∈ am_GT := wc_37_ok _ (List.mem_of_getElem? (i := 8) rfl)
theorem w_1624 : Cond.instanceMethod yX10_bitsOnly ∈ am_GT := wc_37_ok _ (List.mem_of_getElem? (i := 9) rfl)
theorem w_1625 : Cond.code yX10_bitsOnly prog_12_method_36_code 4 (some .int) ∈ am_GT := wc_37_ok _ (List.mem_of_getElem? (i := 10) rfl)
theorem w_1626 : Cond.methodLink "CaveEchoesLaw" 267 yX10_told ∈ am_GT := wc_37_ok _ (List.mem_of_getElem? (i := 11) rfl)
theorem w_1627 : Cond.instanceMethod yX10_told ∈ am_GT := wc_37_ok _ (List.mem_of_getElem? (i := 12) rfl)
theorem w_1628 : Cond.selects "CaveEchoesModel" yX10_told yX10_told ∈ am_GT := wc_37_ok _ (List.mem_of_getElem? (i := 13) rfl)
theorem w_1629 : Cond.code yX10_told prog_12_method_97_code 1 (some .int) ∈ am_GT := wc_37_ok _ (List.mem_of_getElem? (i := 14) rfl)
theorem w_1630 : Cond.methodLink "CaveEchoesLaw" 270 yX10_letterKind ∈ am_GT := wc_37_ok _ (List.mem_of_getElem? (i := 15) rfl)
theorem w_1631 : Cond.instanceMethod yX10_letterKind ∈ am_GT := wc_37_ok _ (List.mem_of_getElem? (i := 16) rfl)
theorem w_1632 : Cond.selects "CaveEchoesModel" yX10_letterKind yX10_letterKind ∈ am_GT := wc_37_ok _ (List.mem_of_getElem? (i := 17) rfl)
theorem w_1633 : Cond.code yX10_letterKind prog_12_method_99_code 2 (some .int) ∈ am_GT := wc_37_ok _ (List.mem_of_getElem? (i := 18) rfl)
theorem w_1634 : Cond.methodLink "CaveEchoesModel" 202 yX10_isLetterBlock ∈ am_GT := wc_37_ok _ (List.mem_of_getElem? (i := 19) rfl)
theorem w_1636 : Cond.instanceMethod yX10_isLetterBlock ∈ am_GT := wc_37_ok _ (List.mem_of_getElem? (i := 20) rfl)
theorem w_1637 : Cond.code yX10_isLetterBlock prog_12_method_98_code 2 (some .boolean) ∈ am_GT := wc_37_ok _ (List.mem_of_getElem? (i := 21) rfl)
theorem w_1638 : Cond.methodLink "CaveEchoesLaw" 273 yX10_letterParameter ∈ am_GT := wc_37_ok _ (List.mem_of_getElem? (i := 22) rfl)
theorem w_1639 : Cond.instanceMethod yX10_letterParameter ∈ am_GT := wc_37_ok _ (List.mem_of_getElem? (i := 23) rfl)
theorem w_1640 : Cond.selects "CaveEchoesModel" yX10_letterParameter yX10_letterParameter ∈ am_GT := wc_37_ok _ (List.mem_of_getElem? (i := 24) rfl)
theorem w_1641 : Cond.code yX10_letterParameter prog_12_method_100_code 2 (some .int) ∈ am_GT := wc_37_ok _ (List.mem_of_getElem? (i := 25) rfl)
theorem w_1642 : Cond.methodLink "CaveEchoesLaw" 276 yX10_letterLeft ∈ am_GT := wc_37_ok _ (List.mem_of_getElem? (i := 26) rfl)
theorem w_1643 : Cond.instanceMethod yX10_letterLeft ∈ am_GT := wc_37_ok _ (List.mem_of_getElem? (i := 27) rfl)
theorem w_1644 : Cond.selects "CaveEchoesModel" yX10_letterLeft yX10_letterLeft ∈ am_GT := wc_37_ok _ (List.mem_of_getElem? (i := 28) rfl)
theorem w_1645 : Cond.code yX10_letterLeft prog_12_method_101_code 2 (some .int) ∈ am_GT := wc_37_ok _ (List.mem_of_getElem? (i := 29) rfl)
def wc_38 : List Cond := [Cond.methodLink "CaveEchoesLaw" 280 yX10_letterBits, Cond.instanceMethod yX10_letterBits, Cond.selects "CaveEchoesModel" yX10_letterBits yX10_letterBits, Cond.code yX10_letterBits prog_12_method_102_code 1 (some .int), Cond.methodLink "CaveEchoesLaw" 283 yX10_letterBit, Cond.instanceMethod yX10_letterBit, Cond.selects "CaveEchoesModel" yX10_letterBit yX10_letterBit, Cond.code yX10_letterBit prog_12_method_105_code 2 (some .boolean), Cond.methodLink "CaveEchoesModel" 208 yX10_bitAt, Cond.instanceMethod yX10_bitAt, Cond.code yX10_bitAt prog_12_method_104_code 6 (some .int), Cond.methodLink "CaveEchoesModel" 205 yX10_bitOf, Cond.static yX10_bitOf, Cond.code yX10_bitOf prog_12_method_103_code 4 (some .int), Cond.methodLink "CaveEchoesLaw" 317 yX10_append, Cond.instanceMethod yX10_append, Cond.selects "CaveEchoesModel" yX10_append yX10_append, Cond.code yX10_append prog_12_method_106_code 2 (some .int), Cond.methodLink "CaveEchoesLaw" 321 yX10_clearText, Cond.instanceMethod yX10_clearText, Cond.selects "CaveEchoesModel" yX10_clearText yX10_clearText, Cond.code yX10_clearText prog_12_method_107_code 2 (some .int), Cond.methodLink "CaveEchoesLaw" 325 yX10_firstError, Cond.instanceMethod yX10_firstError, Cond.selects "CaveEchoesModel" yX10_firstError yX10_firstError, Cond.code yX10_firstError prog_12_method_115_code 1 (some .int), Cond.methodLink "CaveEchoesModel" 242 yX10_tells, Cond.instanceMethod yX10_tells, Cond.code yX10_tells prog_12_method_114_code 2 (some .int), Cond.methodLink "CaveEchoesModel" 239 yX10_readWork]
theorem wc_38_ok : ∀ w ∈ wc_38, w ∈ am_GT := am_sub wc_38 1646 (by decide +kernel)
theorem w_1646 : Cond.methodLink "CaveEchoesLaw" 280 yX10_letterBits ∈ am_GT := wc_38_ok _ (List.mem_of_getElem? (i := 0) rfl)
theorem w_1647 : Cond.instanceMethod yX10_letterBits ∈ am_GT := wc_38_ok _ (List.mem_of_getElem? (i := 1) rfl)
theorem w_1648 : Cond.selects "CaveEchoesModel" yX10_letterBits yX10_letterBits ∈ am_GT := wc_38_ok _ (List.mem_of_getElem? (i := 2) rfl)
theorem w_1649 : Cond.code yX10_letterBits prog_12_method_102_code 1 (some .int) ∈ am_GT := wc_38_ok _ (List.mem_of_getElem? (i := 3) rfl)
theorem w_1650 : Cond.methodLink "CaveEchoesLaw" 283 yX10_letterBit ∈ am_GT := wc_38_ok _ (List.mem_of_getElem? (i := 4) rfl)
theorem w_1651 : Cond.instanceMethod yX10_letterBit ∈ am_GT := wc_38_ok _ (List.mem_of_getElem? (i := 5) rfl)
theorem w_1652 : Cond.selects "CaveEchoesModel" yX10_letterBit yX10_letterBit ∈ am_GT := wc_38_ok _ (List.mem_of_getElem? (i := 6) rfl)
theorem w_1653 : Cond.code yX10_letterBit prog_12_method_105_code 2 (some .boolean) ∈ am_GT := wc_38_ok _ (List.mem_of_getElem? (i := 7) rfl)
theorem w_1654 : Cond.methodLink "CaveEchoesModel" 208 yX10_bitAt ∈ am_GT := wc_38_ok _ (List.mem_of_getElem? (i := 8) rfl)
theorem w_1656 : Cond.instanceMethod yX10_bitAt ∈ am_GT := wc_38_ok _ (List.mem_of_getElem? (i := 9) rfl)
theorem w_1657 : Cond.code yX10_bitAt prog_12_method_104_code 6 (some .int) ∈ am_GT := wc_38_ok _ (List.mem_of_getElem? (i := 10) rfl)
theorem w_1658 : Cond.methodLink "CaveEchoesModel" 205 yX10_bitOf ∈ am_GT := wc_38_ok _ (List.mem_of_getElem? (i := 11) rfl)
theorem w_1659 : Cond.static yX10_bitOf ∈ am_GT := wc_38_ok _ (List.mem_of_getElem? (i := 12) rfl)
theorem w_1660 : Cond.code yX10_bitOf prog_12_method_103_code 4 (some .int) ∈ am_GT := wc_38_ok _ (List.mem_of_getElem? (i := 13) rfl)
theorem w_1661 : Cond.methodLink "CaveEchoesLaw" 317 yX10_append ∈ am_GT := wc_38_ok _ (List.mem_of_getElem? (i := 14) rfl)
theorem w_1662 : Cond.instanceMethod yX10_append ∈ am_GT := wc_38_ok _ (List.mem_of_getElem? (i := 15) rfl)
theorem w_1663 : Cond.selects "CaveEchoesModel" yX10_append yX10_append ∈ am_GT := wc_38_ok _ (List.mem_of_getElem? (i := 16) rfl)
theorem w_1664 : Cond.code yX10_append prog_12_method_106_code 2 (some .int) ∈ am_GT := wc_38_ok _ (List.mem_of_getElem? (i := 17) rfl)
theorem w_1665 : Cond.methodLink "CaveEchoesLaw" 321 yX10_clearText ∈ am_GT := wc_38_ok _ (List.mem_of_getElem? (i := 18) rfl)
theorem w_1666 : Cond.instanceMethod yX10_clearText ∈ am_GT := wc_38_ok _ (List.mem_of_getElem? (i := 19) rfl)
theorem w_1667 : Cond.selects "CaveEchoesModel" yX10_clearText yX10_clearText ∈ am_GT := wc_38_ok _ (List.mem_of_getElem? (i := 20) rfl)
theorem w_1668 : Cond.code yX10_clearText prog_12_method_107_code 2 (some .int) ∈ am_GT := wc_38_ok _ (List.mem_of_getElem? (i := 21) rfl)
theorem w_1669 : Cond.methodLink "CaveEchoesLaw" 325 yX10_firstError ∈ am_GT := wc_38_ok _ (List.mem_of_getElem? (i := 22) rfl)
theorem w_1670 : Cond.instanceMethod yX10_firstError ∈ am_GT := wc_38_ok _ (List.mem_of_getElem? (i := 23) rfl)
theorem w_1671 : Cond.selects "CaveEchoesModel" yX10_firstError yX10_firstError ∈ am_GT := wc_38_ok _ (List.mem_of_getElem? (i := 24) rfl)
theorem w_1672 : Cond.code yX10_firstError prog_12_method_115_code 1 (some .int) ∈ am_GT := wc_38_ok _ (List.mem_of_getElem? (i := 25) rfl)
theorem w_1673 : Cond.methodLink "CaveEchoesModel" 242 yX10_tells ∈ am_GT := wc_38_ok _ (List.mem_of_getElem? (i := 26) rfl)
theorem w_1675 : Cond.instanceMethod yX10_tells ∈ am_GT := wc_38_ok _ (List.mem_of_getElem? (i := 27) rfl)
theorem w_1676 : Cond.code yX10_tells prog_12_method_114_code 2 (some .int) ∈ am_GT := wc_38_ok _ (List.mem_of_getElem? (i := 28) rfl)
theorem w_1677 : Cond.methodLink "CaveEchoesModel" 239 yX10_readWork ∈ am_GT := wc_38_ok _ (List.mem_of_getElem? (i := 29) rfl)
def wc_39 : List Cond := [Cond.instanceMethod yX10_readWork, Cond.code yX10_readWork prog_12_method_113_code 4 none, Cond.methodLink "CaveEchoesModel" 220 yX10_sign, Cond.instanceMethod yX10_sign, Cond.code yX10_sign prog_12_method_108_code 1 (some .int), Cond.methodLink "CaveEchoesModel" 223 yX10_needs, Cond.instanceMethod yX10_needs, Cond.code yX10_needs prog_12_method_109_code 2 none, Cond.methodLink "CaveEchoesModel" 230 yX10_number, Cond.instanceMethod yX10_number, Cond.code yX10_number prog_12_method_111_code 5 (some .int), Cond.methodLink "CaveEchoesModel" 227 yX10_digit, Cond.instanceMethod yX10_digit, Cond.code yX10_digit prog_12_method_110_code 4 (some .int), Cond.methodLink "CaveEchoesModel" 236 yX10_signed, Cond.instanceMethod yX10_signed, Cond.code yX10_signed prog_12_method_112_code 4 (some .int), Cond.methodLink "CaveEchoesLaw" 328 yX10_doWorks, Cond.instanceMethod yX10_doWorks, Cond.selects "CaveEchoesModel" yX10_doWorks yX10_doWorks, Cond.code yX10_doWorks prog_12_method_118_code 2 (some .int), Cond.methodLink "CaveEchoesModel" 245 yX10_isPossible, Cond.instanceMethod yX10_isPossible, Cond.code yX10_isPossible prog_12_method_116_code 3 (some .boolean), Cond.methodLink "CaveEchoesModel" 249 yX10_does, Cond.instanceMethod yX10_does, Cond.code yX10_does prog_12_method_117_code 4 none, Cond.methodLink "CaveEchoesLaw" 336 yX10_digest, Cond.instanceMethod yX10_digest, Cond.selects "CaveEchoesModel" yX10_digest yX10_digest]
theorem wc_39_ok : ∀ w ∈ wc_39, w ∈ am_GT := am_sub wc_39 1679 (by decide +kernel)
theorem w_1679 : Cond.instanceMethod yX10_readWork ∈ am_GT := wc_39_ok _ (List.mem_of_getElem? (i := 0) rfl)
theorem w_1680 : Cond.code yX10_readWork prog_12_method_113_code 4 none ∈ am_GT := wc_39_ok _ (List.mem_of_getElem? (i := 1) rfl)
theorem w_1681 : Cond.methodLink "CaveEchoesModel" 220 yX10_sign ∈ am_GT := wc_39_ok _ (List.mem_of_getElem? (i := 2) rfl)
theorem w_1683 : Cond.instanceMethod yX10_sign ∈ am_GT := wc_39_ok _ (List.mem_of_getElem? (i := 3) rfl)
theorem w_1684 : Cond.code yX10_sign prog_12_method_108_code 1 (some .int) ∈ am_GT := wc_39_ok _ (List.mem_of_getElem? (i := 4) rfl)
theorem w_1685 : Cond.methodLink "CaveEchoesModel" 223 yX10_needs ∈ am_GT := wc_39_ok _ (List.mem_of_getElem? (i := 5) rfl)
theorem w_1687 : Cond.instanceMethod yX10_needs ∈ am_GT := wc_39_ok _ (List.mem_of_getElem? (i := 6) rfl)
theorem w_1688 : Cond.code yX10_needs prog_12_method_109_code 2 none ∈ am_GT := wc_39_ok _ (List.mem_of_getElem? (i := 7) rfl)
theorem w_1689 : Cond.methodLink "CaveEchoesModel" 230 yX10_number ∈ am_GT := wc_39_ok _ (List.mem_of_getElem? (i := 8) rfl)
theorem w_1691 : Cond.instanceMethod yX10_number ∈ am_GT := wc_39_ok _ (List.mem_of_getElem? (i := 9) rfl)
theorem w_1692 : Cond.code yX10_number prog_12_method_111_code 5 (some .int) ∈ am_GT := wc_39_ok _ (List.mem_of_getElem? (i := 10) rfl)
theorem w_1693 : Cond.methodLink "CaveEchoesModel" 227 yX10_digit ∈ am_GT := wc_39_ok _ (List.mem_of_getElem? (i := 11) rfl)
theorem w_1695 : Cond.instanceMethod yX10_digit ∈ am_GT := wc_39_ok _ (List.mem_of_getElem? (i := 12) rfl)
theorem w_1696 : Cond.code yX10_digit prog_12_method_110_code 4 (some .int) ∈ am_GT := wc_39_ok _ (List.mem_of_getElem? (i := 13) rfl)
theorem w_1697 : Cond.methodLink "CaveEchoesModel" 236 yX10_signed ∈ am_GT := wc_39_ok _ (List.mem_of_getElem? (i := 14) rfl)
theorem w_1699 : Cond.instanceMethod yX10_signed ∈ am_GT := wc_39_ok _ (List.mem_of_getElem? (i := 15) rfl)
theorem w_1700 : Cond.code yX10_signed prog_12_method_112_code 4 (some .int) ∈ am_GT := wc_39_ok _ (List.mem_of_getElem? (i := 16) rfl)
theorem w_1701 : Cond.methodLink "CaveEchoesLaw" 328 yX10_doWorks ∈ am_GT := wc_39_ok _ (List.mem_of_getElem? (i := 17) rfl)
theorem w_1702 : Cond.instanceMethod yX10_doWorks ∈ am_GT := wc_39_ok _ (List.mem_of_getElem? (i := 18) rfl)
theorem w_1703 : Cond.selects "CaveEchoesModel" yX10_doWorks yX10_doWorks ∈ am_GT := wc_39_ok _ (List.mem_of_getElem? (i := 19) rfl)
theorem w_1704 : Cond.code yX10_doWorks prog_12_method_118_code 2 (some .int) ∈ am_GT := wc_39_ok _ (List.mem_of_getElem? (i := 20) rfl)
theorem w_1705 : Cond.methodLink "CaveEchoesModel" 245 yX10_isPossible ∈ am_GT := wc_39_ok _ (List.mem_of_getElem? (i := 21) rfl)
theorem w_1707 : Cond.instanceMethod yX10_isPossible ∈ am_GT := wc_39_ok _ (List.mem_of_getElem? (i := 22) rfl)
theorem w_1708 : Cond.code yX10_isPossible prog_12_method_116_code 3 (some .boolean) ∈ am_GT := wc_39_ok _ (List.mem_of_getElem? (i := 23) rfl)
theorem w_1709 : Cond.methodLink "CaveEchoesModel" 249 yX10_does ∈ am_GT := wc_39_ok _ (List.mem_of_getElem? (i := 24) rfl)
theorem w_1711 : Cond.instanceMethod yX10_does ∈ am_GT := wc_39_ok _ (List.mem_of_getElem? (i := 25) rfl)
theorem w_1712 : Cond.code yX10_does prog_12_method_117_code 4 none ∈ am_GT := wc_39_ok _ (List.mem_of_getElem? (i := 26) rfl)
theorem w_1713 : Cond.methodLink "CaveEchoesLaw" 336 yX10_digest ∈ am_GT := wc_39_ok _ (List.mem_of_getElem? (i := 27) rfl)
theorem w_1714 : Cond.instanceMethod yX10_digest ∈ am_GT := wc_39_ok _ (List.mem_of_getElem? (i := 28) rfl)
theorem w_1715 : Cond.selects "CaveEchoesModel" yX10_digest yX10_digest ∈ am_GT := wc_39_ok _ (List.mem_of_getElem? (i := 29) rfl)
def wc_40 : List Cond := [Cond.code yX10_digest prog_12_method_122_code 3 (some .long), Cond.constantLong "CaveEchoesModel" 259 (798 : Int64), Cond.methodLink "CaveEchoesModel" 255 yX10_on, Cond.static yX10_on, Cond.code yX10_on prog_12_method_119_code 4 (some .long), Cond.constantLong "CaveEchoesModel" 253 (31 : Int64), Cond.methodLink "CaveEchoesModel" 261 yJxe99ae_doubleToLongBits_ccdee, Cond.static yJxe99ae_doubleToLongBits_ccdee, Cond.code yJxe99ae_doubleToLongBits_ccdee prog_13_method_23_code 2 (some .long), Cond.methodLink "java/lang/Double" 122 yJxe99ae_isNaN_b9ae7, Cond.static yJxe99ae_isNaN_b9ae7, Cond.code yJxe99ae_isNaN_b9ae7 prog_13_method_6_code 2 (some .boolean), Cond.constantLong "java/lang/Double" 137 (9221120237041090560 : Int64), Cond.methodLink "CaveEchoesModel" 267 yX10_soundOn, Cond.instanceMethod yX10_soundOn, Cond.code yX10_soundOn prog_12_method_120_code 7 (some .long), Cond.methodLink "CaveEchoesModel" 271 yX10_letterOn, Cond.instanceMethod yX10_letterOn, Cond.code yX10_letterOn prog_12_method_121_code 9 (some .long)]
theorem wc_40_ok : ∀ w ∈ wc_40, w ∈ am_GT := am_sub wc_40 1716 (by decide +kernel)
theorem w_1716 : Cond.code yX10_digest prog_12_method_122_code 3 (some .long) ∈ am_GT := wc_40_ok _ (List.mem_of_getElem? (i := 0) rfl)
theorem w_1717 : Cond.constantLong "CaveEchoesModel" 259 (798 : Int64) ∈ am_GT := wc_40_ok _ (List.mem_of_getElem? (i := 1) rfl)
theorem w_1718 : Cond.methodLink "CaveEchoesModel" 255 yX10_on ∈ am_GT := wc_40_ok _ (List.mem_of_getElem? (i := 2) rfl)
theorem w_1719 : Cond.static yX10_on ∈ am_GT := wc_40_ok _ (List.mem_of_getElem? (i := 3) rfl)
theorem w_1720 : Cond.code yX10_on prog_12_method_119_code 4 (some .long) ∈ am_GT := wc_40_ok _ (List.mem_of_getElem? (i := 4) rfl)
theorem w_1721 : Cond.constantLong "CaveEchoesModel" 253 (31 : Int64) ∈ am_GT := wc_40_ok _ (List.mem_of_getElem? (i := 5) rfl)
theorem w_1722 : Cond.methodLink "CaveEchoesModel" 261 yJxe99ae_doubleToLongBits_ccdee ∈ am_GT := wc_40_ok _ (List.mem_of_getElem? (i := 6) rfl)
theorem w_1723 : Cond.static yJxe99ae_doubleToLongBits_ccdee ∈ am_GT := wc_40_ok _ (List.mem_of_getElem? (i := 7) rfl)
theorem w_1724 : Cond.code yJxe99ae_doubleToLongBits_ccdee prog_13_method_23_code 2 (some .long) ∈ am_GT := wc_40_ok _ (List.mem_of_getElem? (i := 8) rfl)
theorem w_1725 : Cond.methodLink "java/lang/Double" 122 yJxe99ae_isNaN_b9ae7 ∈ am_GT := wc_40_ok _ (List.mem_of_getElem? (i := 9) rfl)
theorem w_1726 : Cond.static yJxe99ae_isNaN_b9ae7 ∈ am_GT := wc_40_ok _ (List.mem_of_getElem? (i := 10) rfl)
theorem w_1727 : Cond.code yJxe99ae_isNaN_b9ae7 prog_13_method_6_code 2 (some .boolean) ∈ am_GT := wc_40_ok _ (List.mem_of_getElem? (i := 11) rfl)
theorem w_1731 : Cond.constantLong "java/lang/Double" 137 (9221120237041090560 : Int64) ∈ am_GT := wc_40_ok _ (List.mem_of_getElem? (i := 12) rfl)
theorem w_1732 : Cond.methodLink "CaveEchoesModel" 267 yX10_soundOn ∈ am_GT := wc_40_ok _ (List.mem_of_getElem? (i := 13) rfl)
theorem w_1734 : Cond.instanceMethod yX10_soundOn ∈ am_GT := wc_40_ok _ (List.mem_of_getElem? (i := 14) rfl)
theorem w_1735 : Cond.code yX10_soundOn prog_12_method_120_code 7 (some .long) ∈ am_GT := wc_40_ok _ (List.mem_of_getElem? (i := 15) rfl)
theorem w_1736 : Cond.methodLink "CaveEchoesModel" 271 yX10_letterOn ∈ am_GT := wc_40_ok _ (List.mem_of_getElem? (i := 16) rfl)
theorem w_1738 : Cond.instanceMethod yX10_letterOn ∈ am_GT := wc_40_ok _ (List.mem_of_getElem? (i := 17) rfl)
theorem w_1739 : Cond.code yX10_letterOn prog_12_method_121_code 9 (some .long) ∈ am_GT := wc_40_ok _ (List.mem_of_getElem? (i := 18) rfl)
theorem w_454 : Cond.methodLinkNest "CaveEchoes$Foreteller" 44 yX9_limit "CaveEchoes" ∈ am_NW := am_nw 454 (by decide +kernel) (by decide +kernel)
theorem w_471 : Cond.methodLinkNest "CaveEchoes$Foreteller" 57 yX9_haveSameSign "CaveEchoes" ∈ am_NW := am_nw 471 (by decide +kernel) (by decide +kernel)
theorem w_498 : Cond.methodLinkNest "CaveEchoes$Study" 106 yX9_blocksOf "CaveEchoes" ∈ am_NW := am_nw 498 (by decide +kernel) (by decide +kernel)
theorem w_514 : Cond.methodLinkNest "CaveEchoes$Study" 120 yX9_fold "CaveEchoes" ∈ am_NW := am_nw 514 (by decide +kernel) (by decide +kernel)
theorem w_517 : Cond.methodLinkNest "CaveEchoes$Study" 123 yX9_bitsOfFolded "CaveEchoes" ∈ am_NW := am_nw 517 (by decide +kernel) (by decide +kernel)
theorem w_552 : Cond.methodLinkNest "CaveEchoes$Letter" 43 yX9_blocksOf "CaveEchoes" ∈ am_NW := am_nw 552 (by decide +kernel) (by decide +kernel)
theorem w_553 : Cond.methodLinkNest "CaveEchoes$Letter" 47 yX9_fold "CaveEchoes" ∈ am_NW := am_nw 553 (by decide +kernel) (by decide +kernel)
theorem w_554 : Cond.methodLinkNest "CaveEchoes$Letter" 50 yX9_bitsOfFolded "CaveEchoes" ∈ am_NW := am_nw 554 (by decide +kernel) (by decide +kernel)
theorem w_565 : Cond.methodLinkNest "CaveEchoes$Reader" 48 yX9_limit "CaveEchoes" ∈ am_NW := am_nw 565 (by decide +kernel) (by decide +kernel)
theorem w_711 : Cond.methodLinkNest "CaveEchoes$Paper" 41 yX9_fold "CaveEchoes" ∈ am_NW := am_nw 711 (by decide +kernel) (by decide +kernel)
theorem w_970 : Cond.methodLinkNest "CaveEchoes$Study" 80 yX9_haveSameSign "CaveEchoes" ∈ am_NW := am_nw 970 (by decide +kernel) (by decide +kernel)
theorem w_1114 : Cond.methodLinkNest "CaveEchoes$Reader" 66 yX9_unfold "CaveEchoes" ∈ am_NW := am_nw 1114 (by decide +kernel) (by decide +kernel)
theorem k_Jxe99ae_doubleToLongBits_ccdee_122 : am_csS M_Jxe99ae_doubleToLongBits_ccdee 122 M_Jxe99ae_isNaN_b9ae7 1 := ⟨⟨by decide +kernel, w_86, w_1727⟩, w_1725, w_1726⟩
theorem k_X0_adapt_40 : am_csV M_X0_adapt 40 M_X0_shownBefore 1 := ⟨⟨by decide +kernel, w_71, w_450⟩, w_447, w_448, w_449⟩
theorem k_X0_adapt_57 : am_csN M_X0_adapt 57 M_X9_haveSameSign 2 := ⟨⟨by decide +kernel, w_67, w_473⟩, w_471, w_472⟩
theorem k_X0_foretell_40 : am_csV M_X0_foretell 40 M_X0_shownBefore 1 := ⟨⟨by decide +kernel, w_71, w_450⟩, w_447, w_448, w_449⟩
theorem k_X0_foretell_44 : am_csN M_X0_foretell 44 M_X9_limit 1 := ⟨⟨by decide +kernel, w_67, w_456⟩, w_454, w_455⟩
theorem k_X0_weigh_40 : am_csV M_X0_weigh 40 M_X0_shownBefore 1 := ⟨⟨by decide +kernel, w_71, w_450⟩, w_447, w_448, w_449⟩
theorem k_X0_weigh_51 : am_csS M_X0_weigh 51 M_J9_floorDiv_7cf53 2 := ⟨⟨by decide +kernel, w_84, w_453⟩, w_451, w_452⟩
theorem k_X0_weigh_44 : am_csN M_X0_weigh 44 M_X9_limit 1 := ⟨⟨by decide +kernel, w_67, w_456⟩, w_454, w_455⟩
theorem k_X10_add_42 : am_csS M_X10_add 42 M_X10_in 3 := ⟨⟨by decide +kernel, w_77, w_1273⟩, w_1271, w_1272⟩
theorem k_X10_add_53 : am_csV M_X10_add 53 M_X10_asks 1 := ⟨⟨by decide +kernel, w_77, w_1266⟩, w_1263, w_1265, w_14⟩
theorem k_X10_add_57 : am_csV M_X10_add 57 M_X10_asksThen 2 := ⟨⟨by decide +kernel, w_77, w_1281⟩, w_1278, w_1280, w_15⟩
theorem k_X10_add_61 : am_csV M_X10_add 61 M_X10_record 0 := ⟨⟨by decide +kernel, w_77, w_1285⟩, w_1282, w_1284, w_16⟩
theorem k_X10_add_119 : am_csV M_X10_add 119 M_X10_adds 1 := ⟨⟨by decide +kernel, w_77, w_1293⟩, w_1290, w_1292, w_17⟩
theorem k_X10_allowed_125 : am_csV M_X10_allowed 125 M_X10_says 1 := ⟨⟨by decide +kernel, w_77, w_1320⟩, w_1317, w_1319, w_19⟩
theorem k_X10_append_42 : am_csS M_X10_append 42 M_X10_in 3 := ⟨⟨by decide +kernel, w_77, w_1273⟩, w_1271, w_1272⟩
theorem k_X10_append_53 : am_csV M_X10_append 53 M_X10_asks 1 := ⟨⟨by decide +kernel, w_77, w_1266⟩, w_1263, w_1265, w_14⟩
theorem k_X10_append_57 : am_csV M_X10_append 57 M_X10_asksThen 2 := ⟨⟨by decide +kernel, w_77, w_1281⟩, w_1278, w_1280, w_15⟩
theorem k_X10_bitOf_93 : am_csS M_X10_bitOf 93 M_X10_fold 1 := ⟨⟨by decide +kernel, w_77, w_1413⟩, w_1411, w_1412⟩
theorem k_X10_bitsOf_93 : am_csS M_X10_bitsOf 93 M_X10_fold 1 := ⟨⟨by decide +kernel, w_77, w_1413⟩, w_1411, w_1412⟩
theorem k_X10_blocks_46 : am_csS M_X10_blocks 46 M_X10_blocksOf 1 := ⟨⟨by decide +kernel, w_77, w_1365⟩, w_1363, w_1364⟩
theorem k_X10_blocks_125 : am_csV M_X10_blocks 125 M_X10_says 1 := ⟨⟨by decide +kernel, w_77, w_1320⟩, w_1317, w_1319, w_19⟩
theorem k_X10_clearText_125 : am_csV M_X10_clearText 125 M_X10_says 1 := ⟨⟨by decide +kernel, w_77, w_1320⟩, w_1317, w_1319, w_19⟩
theorem k_X10_delay_125 : am_csV M_X10_delay 125 M_X10_says 1 := ⟨⟨by decide +kernel, w_77, w_1320⟩, w_1317, w_1319, w_19⟩
theorem k_X10_digit_220 : am_csV M_X10_digit 220 M_X10_sign 0 := ⟨⟨by decide +kernel, w_77, w_1684⟩, w_1681, w_1683, w_57⟩
theorem k_X10_digit_42 : am_csS M_X10_digit 42 M_X10_in 3 := ⟨⟨by decide +kernel, w_77, w_1273⟩, w_1271, w_1272⟩
theorem k_X10_digit_223 : am_csV M_X10_digit 223 M_X10_needs 1 := ⟨⟨by decide +kernel, w_77, w_1688⟩, w_1685, w_1687, w_58⟩
theorem k_X10_drop_53 : am_csV M_X10_drop 53 M_X10_asks 1 := ⟨⟨by decide +kernel, w_77, w_1266⟩, w_1263, w_1265, w_14⟩
theorem k_X10_drop_61 : am_csV M_X10_drop 61 M_X10_record 0 := ⟨⟨by decide +kernel, w_77, w_1285⟩, w_1282, w_1284, w_16⟩
theorem k_X10_echo_42 : am_csS M_X10_echo 42 M_X10_in 3 := ⟨⟨by decide +kernel, w_77, w_1273⟩, w_1271, w_1272⟩
theorem k_X10_echo_53 : am_csV M_X10_echo 53 M_X10_asks 1 := ⟨⟨by decide +kernel, w_77, w_1266⟩, w_1263, w_1265, w_14⟩
theorem k_X10_echo_57 : am_csV M_X10_echo 57 M_X10_asksThen 2 := ⟨⟨by decide +kernel, w_77, w_1281⟩, w_1278, w_1280, w_15⟩
theorem k_X10_echo_61 : am_csV M_X10_echo 61 M_X10_record 0 := ⟨⟨by decide +kernel, w_77, w_1285⟩, w_1282, w_1284, w_16⟩
theorem k_X10_echo_64 : am_csS M_X10_echo 64 M_X10_sample 2 := ⟨⟨by decide +kernel, w_77, w_1300⟩, w_1298, w_1299⟩
theorem k_X10_echo_119 : am_csV M_X10_echo 119 M_X10_adds 1 := ⟨⟨by decide +kernel, w_77, w_1293⟩, w_1290, w_1292, w_17⟩
theorem k_X10_empty_61 : am_csV M_X10_empty 61 M_X10_record 0 := ⟨⟨by decide +kernel, w_77, w_1285⟩, w_1282, w_1284, w_16⟩
theorem k_X10_empty_125 : am_csV M_X10_empty 125 M_X10_says 1 := ⟨⟨by decide +kernel, w_77, w_1320⟩, w_1317, w_1319, w_19⟩
theorem k_X10_foretell_64 : am_csS M_X10_foretell 64 M_X10_sample 2 := ⟨⟨by decide +kernel, w_77, w_1300⟩, w_1298, w_1299⟩
theorem k_X10_foretell_68 : am_csS M_X10_foretell 68 M_X10_cut 1 := ⟨⟨by decide +kernel, w_77, w_1392⟩, w_1390, w_1391⟩
theorem k_X10_goBack_42 : am_csS M_X10_goBack 42 M_X10_in 3 := ⟨⟨by decide +kernel, w_77, w_1273⟩, w_1271, w_1272⟩
theorem k_X10_goBack_53 : am_csV M_X10_goBack 53 M_X10_asks 1 := ⟨⟨by decide +kernel, w_77, w_1266⟩, w_1263, w_1265, w_14⟩
theorem k_X10_goBack_57 : am_csV M_X10_goBack 57 M_X10_asksThen 2 := ⟨⟨by decide +kernel, w_77, w_1281⟩, w_1278, w_1280, w_15⟩
theorem k_X10_goBack_61 : am_csV M_X10_goBack 61 M_X10_record 0 := ⟨⟨by decide +kernel, w_77, w_1285⟩, w_1282, w_1284, w_16⟩
theorem k_X10_isBlock_46 : am_csS M_X10_isBlock 46 M_X10_blocksOf 1 := ⟨⟨by decide +kernel, w_77, w_1365⟩, w_1363, w_1364⟩
theorem k_X10_isBlock_42 : am_csS M_X10_isBlock 42 M_X10_in 3 := ⟨⟨by decide +kernel, w_77, w_1273⟩, w_1271, w_1272⟩
theorem k_X10_isKind_42 : am_csS M_X10_isKind 42 M_X10_in 3 := ⟨⟨by decide +kernel, w_77, w_1273⟩, w_1271, w_1272⟩
theorem k_X10_isLetterBlock_46 : am_csS M_X10_isLetterBlock 46 M_X10_blocksOf 1 := ⟨⟨by decide +kernel, w_77, w_1365⟩, w_1363, w_1364⟩
theorem k_X10_isLetterBlock_42 : am_csS M_X10_isLetterBlock 42 M_X10_in 3 := ⟨⟨by decide +kernel, w_77, w_1273⟩, w_1271, w_1272⟩
theorem k_X10_isSample_42 : am_csS M_X10_isSample 42 M_X10_in 3 := ⟨⟨by decide +kernel, w_77, w_1273⟩, w_1271, w_1272⟩
theorem k_X10_isTold_42 : am_csS M_X10_isTold 42 M_X10_in 3 := ⟨⟨by decide +kernel, w_77, w_1273⟩, w_1271, w_1272⟩
theorem k_X10_isWeight_42 : am_csS M_X10_isWeight 42 M_X10_in 3 := ⟨⟨by decide +kernel, w_77, w_1273⟩, w_1271, w_1272⟩
theorem k_X10_keep_42 : am_csS M_X10_keep 42 M_X10_in 3 := ⟨⟨by decide +kernel, w_77, w_1273⟩, w_1271, w_1272⟩
theorem k_X10_keep_53 : am_csV M_X10_keep 53 M_X10_asks 1 := ⟨⟨by decide +kernel, w_77, w_1266⟩, w_1263, w_1265, w_14⟩
theorem k_X10_mean_75 : am_csS M_X10_mean 75 M_X10_size 1 := ⟨⟨by decide +kernel, w_77, w_1395⟩, w_1393, w_1394⟩
theorem k_X10_samples_125 : am_csV M_X10_samples 125 M_X10_says 1 := ⟨⟨by decide +kernel, w_77, w_1320⟩, w_1317, w_1319, w_19⟩
theorem k_X10_sent_125 : am_csV M_X10_sent 125 M_X10_says 1 := ⟨⟨by decide +kernel, w_77, w_1320⟩, w_1317, w_1319, w_19⟩
theorem k_X10_sets_61 : am_csV M_X10_sets 61 M_X10_record 0 := ⟨⟨by decide +kernel, w_77, w_1285⟩, w_1282, w_1284, w_16⟩
theorem k_X10_speed_125 : am_csV M_X10_speed 125 M_X10_says 1 := ⟨⟨by decide +kernel, w_77, w_1320⟩, w_1317, w_1319, w_19⟩
theorem k_X10_told_125 : am_csV M_X10_told 125 M_X10_says 1 := ⟨⟨by decide +kernel, w_77, w_1320⟩, w_1317, w_1319, w_19⟩
theorem k_X10_undo_53 : am_csV M_X10_undo 53 M_X10_asks 1 := ⟨⟨by decide +kernel, w_77, w_1266⟩, w_1263, w_1265, w_14⟩
theorem k_X2_countBits_43 : am_csN M_X2_countBits 43 M_X9_blocksOf 1 := ⟨⟨by decide +kernel, w_67, w_401⟩, w_552, w_400⟩
theorem k_X2_countBits_47 : am_csN M_X2_countBits 47 M_X9_fold 1 := ⟨⟨by decide +kernel, w_67, w_516⟩, w_553, w_515⟩
theorem k_X2_countBits_50 : am_csN M_X2_countBits 50 M_X9_bitsOfFolded 2 := ⟨⟨by decide +kernel, w_67, w_519⟩, w_554, w_518⟩
theorem k_X3_readBit_52 : am_csV M_X3_readBit 52 M_X3_isOne 1 := ⟨⟨by decide +kernel, w_76, w_719⟩, w_1108, w_717, w_718⟩
theorem k_X3_writeNumber_48 : am_csV M_X3_writeNumber 48 M_X3_writeBit 1 := ⟨⟨by decide +kernel, w_76, w_710⟩, w_707, w_708, w_709⟩
theorem k_X4_countUnlike_73 : am_csV M_X4_countUnlike 73 M_X4_heardAt 1 := ⟨⟨by decide +kernel, w_75, w_574⟩, w_571, w_572, w_573⟩
theorem k_X4_findUnlike_73 : am_csV M_X4_findUnlike 73 M_X4_heardAt 1 := ⟨⟨by decide +kernel, w_75, w_574⟩, w_571, w_572, w_573⟩
theorem k_X6_put_51 : am_csV M_X6_put 51 M_X6_hasRoomFor 1 := ⟨⟨by decide +kernel, w_69, w_806⟩, w_830, w_804, w_805⟩
theorem k_X7_countBits_117 : am_csS M_X7_countBits 117 M_J9_min_7cf53 2 := ⟨⟨by decide +kernel, w_84, w_509⟩, w_507, w_508⟩
theorem k_X7_countBits_76 : am_csV M_X7_countBits 76 M_X7_leftBy 2 := ⟨⟨by decide +kernel, w_68, w_513⟩, w_510, w_511, w_512⟩
theorem k_X7_countBits_120 : am_csN M_X7_countBits 120 M_X9_fold 1 := ⟨⟨by decide +kernel, w_67, w_516⟩, w_514, w_515⟩
theorem k_X7_countBits_123 : am_csN M_X7_countBits 123 M_X9_bitsOfFolded 2 := ⟨⟨by decide +kernel, w_67, w_519⟩, w_517, w_518⟩
theorem k_X7_countRises_76 : am_csV M_X7_countRises 76 M_X7_leftBy 2 := ⟨⟨by decide +kernel, w_68, w_513⟩, w_510, w_511, w_512⟩
theorem k_X7_countRises_66 : am_csV M_X7_countRises 66 M_X6_soundAt 1 := ⟨⟨by decide +kernel, w_69, w_421⟩, w_457, w_419, w_420⟩
theorem k_X7_countRises_80 : am_csN M_X7_countRises 80 M_X9_haveSameSign 2 := ⟨⟨by decide +kernel, w_67, w_473⟩, w_970, w_472⟩
theorem k_X7_kindFor_126 : am_csV M_X7_kindFor 126 M_X6_allows 1 := ⟨⟨by decide +kernel, w_69, w_531⟩, w_528, w_529, w_530⟩
theorem k_X7_sumIfOnly_106 : am_csN M_X7_sumIfOnly 106 M_X9_blocksOf 1 := ⟨⟨by decide +kernel, w_67, w_401⟩, w_498, w_400⟩
theorem k_X8_digitHere_39 : am_csV M_X8_digitHere 39 M_X8_codeHere 0 := ⟨⟨by decide +kernel, w_74, w_610⟩, w_607, w_608, w_609⟩
theorem k_X8_take_39 : am_csV M_X8_take 39 M_X8_codeHere 0 := ⟨⟨by decide +kernel, w_74, w_610⟩, w_607, w_608, w_609⟩
theorem k_X9_blocks_145 : am_csS M_X9_blocks 145 M_X9_blocksOf 1 := ⟨⟨by decide +kernel, w_67, w_401⟩, w_399, w_400⟩
theorem k_X9_hashOfSamples_87 : am_csV M_X9_hashOfSamples 87 M_X6_soundAt 1 := ⟨⟨by decide +kernel, w_69, w_421⟩, w_418, w_419, w_420⟩
theorem k_X9_hashOfSamples_353 : am_csS M_X9_hashOfSamples 353 M_X9_mix 2 := ⟨⟨by decide +kernel, w_67, w_646⟩, w_644, w_645⟩
theorem k_X9_hashOfSamples_167 : am_csV M_X9_hashOfSamples 167 M_X7_leftBy 2 := ⟨⟨by decide +kernel, w_68, w_513⟩, w_684, w_511, w_512⟩
theorem k_X9_isBlock_145 : am_csS M_X9_isBlock 145 M_X9_blocksOf 1 := ⟨⟨by decide +kernel, w_67, w_401⟩, w_399, w_400⟩
theorem k_X9_isBlock_58 : am_csS M_X9_isBlock 58 M_X9_isWithin 3 := ⟨⟨by decide +kernel, w_67, w_731⟩, w_729, w_730⟩
theorem k_X9_isKind_58 : am_csS M_X9_isKind 58 M_X9_isWithin 3 := ⟨⟨by decide +kernel, w_67, w_731⟩, w_729, w_730⟩
theorem k_X9_isTold_58 : am_csS M_X9_isTold 58 M_X9_isWithin 3 := ⟨⟨by decide +kernel, w_67, w_731⟩, w_729, w_730⟩
theorem k_X9_loudness_87 : am_csV M_X9_loudness 87 M_X6_soundAt 1 := ⟨⟨by decide +kernel, w_69, w_421⟩, w_418, w_419, w_420⟩
theorem k_X9_loudness_151 : am_csS M_X9_loudness 151 M_J9_abs_0f7a4 1 := ⟨⟨by decide +kernel, w_84, w_424⟩, w_422, w_423⟩
theorem k_X9_setFirst_58 : am_csS M_X9_setFirst 58 M_X9_isWithin 3 := ⟨⟨by decide +kernel, w_67, w_731⟩, w_729, w_730⟩
theorem k_X9_turnIfPossible_116 : am_csV M_X9_turnIfPossible 116 M_X6_canTurn 1 := ⟨⟨by decide +kernel, w_69, w_907⟩, w_904, w_905, w_906⟩
theorem k_X9_turnIfPossible_119 : am_csV M_X9_turnIfPossible 119 M_X6_turn 1 := ⟨⟨by decide +kernel, w_69, w_911⟩, w_908, w_909, w_910⟩
theorem k_X0_begin_37 : am_csV M_X0_begin 37 M_X0_weigh 0 := ⟨⟨by decide +kernel, w_71, w_446⟩, w_443, w_444, w_445⟩
theorem k_X0_show_47 : am_csV M_X0_show 47 M_X0_adapt 1 := ⟨⟨by decide +kernel, w_71, w_470⟩, w_467, w_468, w_469⟩
theorem k_X0_show_37 : am_csV M_X0_show 37 M_X0_weigh 0 := ⟨⟨by decide +kernel, w_71, w_446⟩, w_443, w_444, w_445⟩
theorem k_X10_adapts_71 : am_csV M_X10_adapts 71 M_X10_foretell 4 := ⟨⟨by decide +kernel, w_77, w_1389⟩, w_1386, w_1388, w_29⟩
theorem k_X10_adapts_64 : am_csS M_X10_adapts 64 M_X10_sample 2 := ⟨⟨by decide +kernel, w_77, w_1300⟩, w_1298, w_1299⟩
theorem k_X10_bitAt_96 : am_csS M_X10_bitAt 96 M_X10_bitsOf 2 := ⟨⟨by decide +kernel, w_77, w_1410⟩, w_1408, w_1409⟩
theorem k_X10_bitAt_205 : am_csS M_X10_bitAt 205 M_X10_bitOf 3 := ⟨⟨by decide +kernel, w_77, w_1660⟩, w_1658, w_1659⟩
theorem k_X10_blockBits_96 : am_csS M_X10_blockBits 96 M_X10_bitsOf 2 := ⟨⟨by decide +kernel, w_77, w_1410⟩, w_1408, w_1409⟩
theorem k_X10_change_122 : am_csV M_X10_change 122 M_X10_isSample 1 := ⟨⟨by decide +kernel, w_77, w_1308⟩, w_1305, w_1307, w_18⟩
theorem k_X10_change_53 : am_csV M_X10_change 53 M_X10_asks 1 := ⟨⟨by decide +kernel, w_77, w_1266⟩, w_1263, w_1265, w_14⟩
theorem k_X10_change_42 : am_csS M_X10_change 42 M_X10_in 3 := ⟨⟨by decide +kernel, w_77, w_1273⟩, w_1271, w_1272⟩
theorem k_X10_change_57 : am_csV M_X10_change 57 M_X10_asksThen 2 := ⟨⟨by decide +kernel, w_77, w_1281⟩, w_1278, w_1280, w_15⟩
theorem k_X10_change_61 : am_csV M_X10_change 61 M_X10_record 0 := ⟨⟨by decide +kernel, w_77, w_1285⟩, w_1282, w_1284, w_16⟩
theorem k_X10_firstWeight_131 : am_csS M_X10_firstWeight 131 M_X10_isWeight 1 := ⟨⟨by decide +kernel, w_77, w_1339⟩, w_1337, w_1338⟩
theorem k_X10_firstWeight_53 : am_csV M_X10_firstWeight 53 M_X10_asks 1 := ⟨⟨by decide +kernel, w_77, w_1266⟩, w_1263, w_1265, w_14⟩
theorem k_X10_isPossible_137 : am_csV M_X10_isPossible 137 M_X10_canTurn 1 := ⟨⟨by decide +kernel, w_77, w_1350⟩, w_1347, w_1349, w_21⟩
theorem k_X10_isPossible_147 : am_csV M_X10_isPossible 147 M_X10_isTold 1 := ⟨⟨by decide +kernel, w_77, w_1425⟩, w_1422, w_1424, w_34⟩
theorem k_X10_letterKind_202 : am_csV M_X10_letterKind 202 M_X10_isLetterBlock 1 := ⟨⟨by decide +kernel, w_77, w_1637⟩, w_1634, w_1636, w_53⟩
theorem k_X10_letterKind_53 : am_csV M_X10_letterKind 53 M_X10_asks 1 := ⟨⟨by decide +kernel, w_77, w_1266⟩, w_1263, w_1265, w_14⟩
theorem k_X10_letterLeft_147 : am_csV M_X10_letterLeft 147 M_X10_isTold 1 := ⟨⟨by decide +kernel, w_77, w_1425⟩, w_1422, w_1424, w_34⟩
theorem k_X10_letterLeft_53 : am_csV M_X10_letterLeft 53 M_X10_asks 1 := ⟨⟨by decide +kernel, w_77, w_1266⟩, w_1263, w_1265, w_14⟩
theorem k_X10_letterLength_96 : am_csS M_X10_letterLength 96 M_X10_bitsOf 2 := ⟨⟨by decide +kernel, w_77, w_1410⟩, w_1408, w_1409⟩
theorem k_X10_letterParameter_202 : am_csV M_X10_letterParameter 202 M_X10_isLetterBlock 1 := ⟨⟨by decide +kernel, w_77, w_1637⟩, w_1634, w_1636, w_53⟩
theorem k_X10_letterParameter_53 : am_csV M_X10_letterParameter 53 M_X10_asks 1 := ⟨⟨by decide +kernel, w_77, w_1266⟩, w_1263, w_1265, w_14⟩
theorem k_X10_loudness_162 : am_csV M_X10_loudness 162 M_X10_mean 0 := ⟨⟨by decide +kernel, w_77, w_1505⟩, w_1502, w_1504, w_39⟩
theorem k_X10_number_227 : am_csV M_X10_number 227 M_X10_digit 2 := ⟨⟨by decide +kernel, w_77, w_1696⟩, w_1693, w_1695, w_60⟩
theorem k_X10_number_220 : am_csV M_X10_number 220 M_X10_sign 0 := ⟨⟨by decide +kernel, w_77, w_1684⟩, w_1681, w_1683, w_57⟩
theorem k_X10_number_42 : am_csS M_X10_number 42 M_X10_in 3 := ⟨⟨by decide +kernel, w_77, w_1273⟩, w_1271, w_1272⟩
theorem k_X10_number_223 : am_csV M_X10_number 223 M_X10_needs 1 := ⟨⟨by decide +kernel, w_77, w_1688⟩, w_1685, w_1687, w_58⟩
theorem k_X10_sampleAt_122 : am_csV M_X10_sampleAt 122 M_X10_isSample 1 := ⟨⟨by decide +kernel, w_77, w_1308⟩, w_1305, w_1307, w_18⟩
theorem k_X10_sampleAt_53 : am_csV M_X10_sampleAt 53 M_X10_asks 1 := ⟨⟨by decide +kernel, w_77, w_1266⟩, w_1263, w_1265, w_14⟩
theorem k_X10_setDelay_42 : am_csS M_X10_setDelay 42 M_X10_in 3 := ⟨⟨by decide +kernel, w_77, w_1273⟩, w_1271, w_1272⟩
theorem k_X10_setDelay_53 : am_csV M_X10_setDelay 53 M_X10_asks 1 := ⟨⟨by decide +kernel, w_77, w_1266⟩, w_1263, w_1265, w_14⟩
theorem k_X10_setDelay_128 : am_csV M_X10_setDelay 128 M_X10_sets 2 := ⟨⟨by decide +kernel, w_77, w_1328⟩, w_1325, w_1327, w_20⟩
theorem k_X10_setSpeed_42 : am_csS M_X10_setSpeed 42 M_X10_in 3 := ⟨⟨by decide +kernel, w_77, w_1273⟩, w_1271, w_1272⟩
theorem k_X10_setSpeed_53 : am_csV M_X10_setSpeed 53 M_X10_asks 1 := ⟨⟨by decide +kernel, w_77, w_1266⟩, w_1263, w_1265, w_14⟩
theorem k_X10_setSpeed_128 : am_csV M_X10_setSpeed 128 M_X10_sets 2 := ⟨⟨by decide +kernel, w_77, w_1328⟩, w_1325, w_1327, w_20⟩
theorem k_X10_setWeight_131 : am_csS M_X10_setWeight 131 M_X10_isWeight 1 := ⟨⟨by decide +kernel, w_77, w_1339⟩, w_1337, w_1338⟩
theorem k_X10_setWeight_42 : am_csS M_X10_setWeight 42 M_X10_in 3 := ⟨⟨by decide +kernel, w_77, w_1273⟩, w_1271, w_1272⟩
theorem k_X10_setWeight_53 : am_csV M_X10_setWeight 53 M_X10_asks 1 := ⟨⟨by decide +kernel, w_77, w_1266⟩, w_1263, w_1265, w_14⟩
theorem k_X10_setWeight_128 : am_csV M_X10_setWeight 128 M_X10_sets 2 := ⟨⟨by decide +kernel, w_77, w_1328⟩, w_1325, w_1327, w_20⟩
theorem k_X10_tamper_147 : am_csV M_X10_tamper 147 M_X10_isTold 1 := ⟨⟨by decide +kernel, w_77, w_1425⟩, w_1422, w_1424, w_34⟩
theorem k_X10_tamper_53 : am_csV M_X10_tamper 53 M_X10_asks 1 := ⟨⟨by decide +kernel, w_77, w_1266⟩, w_1263, w_1265, w_14⟩
theorem k_X10_tamper_42 : am_csS M_X10_tamper 42 M_X10_in 3 := ⟨⟨by decide +kernel, w_77, w_1273⟩, w_1271, w_1272⟩
theorem k_X10_tamper_57 : am_csV M_X10_tamper 57 M_X10_asksThen 2 := ⟨⟨by decide +kernel, w_77, w_1281⟩, w_1278, w_1280, w_15⟩
theorem k_X10_tamper_128 : am_csV M_X10_tamper 128 M_X10_sets 2 := ⟨⟨by decide +kernel, w_77, w_1328⟩, w_1325, w_1327, w_20⟩
theorem k_X10_turnKind_134 : am_csS M_X10_turnKind 134 M_X10_isKind 1 := ⟨⟨by decide +kernel, w_77, w_1346⟩, w_1344, w_1345⟩
theorem k_X10_turnKind_53 : am_csV M_X10_turnKind 53 M_X10_asks 1 := ⟨⟨by decide +kernel, w_77, w_1266⟩, w_1263, w_1265, w_14⟩
theorem k_X10_turnKind_137 : am_csV M_X10_turnKind 137 M_X10_canTurn 1 := ⟨⟨by decide +kernel, w_77, w_1350⟩, w_1347, w_1349, w_21⟩
theorem k_X10_turnKind_57 : am_csV M_X10_turnKind 57 M_X10_asksThen 2 := ⟨⟨by decide +kernel, w_77, w_1281⟩, w_1278, w_1280, w_15⟩
theorem k_X10_turnKind_61 : am_csV M_X10_turnKind 61 M_X10_record 0 := ⟨⟨by decide +kernel, w_77, w_1285⟩, w_1282, w_1284, w_16⟩
theorem k_X10_turnKind_112 : am_csV M_X10_turnKind 112 M_X10_isAllowed 1 := ⟨⟨by decide +kernel, w_77, w_1354⟩, w_1351, w_1353, w_22⟩
theorem k_X3_readNumber_56 : am_csV M_X3_readNumber 56 M_X3_readBit 0 := ⟨⟨by decide +kernel, w_76, w_1107⟩, w_1104, w_1105, w_1106⟩
theorem k_X3_writeFolded_48 : am_csV M_X3_writeFolded 48 M_X3_writeBit 1 := ⟨⟨by decide +kernel, w_76, w_710⟩, w_707, w_708, w_709⟩
theorem k_X3_writeFolded_31 : am_csV M_X3_writeFolded 31 M_X3_writeNumber 2 := ⟨⟨by decide +kernel, w_76, w_706⟩, w_703, w_704, w_705⟩
theorem k_X6_copyFrom_47 : am_csV M_X6_copyFrom 47 M_X2_copyFrom 1 := ⟨⟨by decide +kernel, w_70, w_389⟩, w_386, w_387, w_388⟩
theorem k_X7_countBlocksWith_106 : am_csN M_X7_countBlocksWith 106 M_X9_blocksOf 1 := ⟨⟨by decide +kernel, w_67, w_401⟩, w_498, w_400⟩
theorem k_X7_countBlocksWith_130 : am_csV M_X7_countBlocksWith 130 M_X7_kindFor 1 := ⟨⟨by decide +kernel, w_68, w_527⟩, w_524, w_525, w_526⟩
theorem k_X7_findParameter_113 : am_csV M_X7_findParameter 113 M_X7_countBits 3 := ⟨⟨by decide +kernel, w_68, w_506⟩, w_503, w_504, w_505⟩
theorem k_X7_reasonFor_130 : am_csV M_X7_reasonFor 130 M_X7_kindFor 1 := ⟨⟨by decide +kernel, w_68, w_527⟩, w_524, w_525, w_526⟩
theorem k_X7_reasonFor_126 : am_csV M_X7_reasonFor 126 M_X6_allows 1 := ⟨⟨by decide +kernel, w_69, w_531⟩, w_528, w_529, w_530⟩
theorem k_X7_sumOfBlocks_106 : am_csN M_X7_sumOfBlocks 106 M_X9_blocksOf 1 := ⟨⟨by decide +kernel, w_67, w_401⟩, w_498, w_400⟩
theorem k_X7_sumOfBlocks_130 : am_csV M_X7_sumOfBlocks 130 M_X7_kindFor 1 := ⟨⟨by decide +kernel, w_68, w_527⟩, w_524, w_525, w_526⟩
theorem k_X7_sumOfBlocksWith_106 : am_csN M_X7_sumOfBlocksWith 106 M_X9_blocksOf 1 := ⟨⟨by decide +kernel, w_67, w_401⟩, w_498, w_400⟩
theorem k_X7_sumOfBlocksWith_130 : am_csV M_X7_sumOfBlocksWith 130 M_X7_kindFor 1 := ⟨⟨by decide +kernel, w_68, w_527⟩, w_524, w_525, w_526⟩
theorem k_X8_readNumber_57 : am_csV M_X8_readNumber 57 M_X8_digitHere 0 := ⟨⟨by decide +kernel, w_74, w_626⟩, w_623, w_624, w_625⟩
theorem k_X9_addIfPossible_66 : am_csV M_X9_addIfPossible 66 M_X6_hasRoomFor 1 := ⟨⟨by decide +kernel, w_69, w_806⟩, w_803, w_804, w_805⟩
theorem k_X9_addIfPossible_79 : am_csV M_X9_addIfPossible 79 M_X6_put 1 := ⟨⟨by decide +kernel, w_69, w_829⟩, w_826, w_827, w_828⟩
theorem k_X9_letterBits_133 : am_csV M_X9_letterBits 133 M_X2_countBits 0 := ⟨⟨by decide +kernel, w_70, w_551⟩, w_548, w_549, w_550⟩
theorem k_X9_tamperIfPossible_139 : am_csV M_X9_tamperIfPossible 139 M_X9_isTold 1 := ⟨⟨by decide +kernel, w_67, w_937⟩, w_934, w_936, w_7⟩
theorem k_X10_hears_82 : am_csV M_X10_hears 82 M_X10_begins 1 := ⟨⟨by decide +kernel, w_77, w_1381⟩, w_1378, w_1380, w_27⟩
theorem k_X10_hears_71 : am_csV M_X10_hears 71 M_X10_foretell 4 := ⟨⟨by decide +kernel, w_77, w_1389⟩, w_1386, w_1388, w_29⟩
theorem k_X10_hears_68 : am_csS M_X10_hears 68 M_X10_cut 1 := ⟨⟨by decide +kernel, w_77, w_1392⟩, w_1390, w_1391⟩
theorem k_X10_hears_78 : am_csV M_X10_hears 78 M_X10_adapts 3 := ⟨⟨by decide +kernel, w_77, w_1399⟩, w_1396, w_1398, w_30⟩
theorem k_X10_leaves_71 : am_csV M_X10_leaves 71 M_X10_foretell 4 := ⟨⟨by decide +kernel, w_77, w_1389⟩, w_1386, w_1388, w_29⟩
theorem k_X10_leaves_75 : am_csS M_X10_leaves 75 M_X10_size 1 := ⟨⟨by decide +kernel, w_77, w_1395⟩, w_1393, w_1394⟩
theorem k_X10_leaves_78 : am_csV M_X10_leaves 78 M_X10_adapts 3 := ⟨⟨by decide +kernel, w_77, w_1399⟩, w_1396, w_1398, w_30⟩
theorem k_X10_letterBit_140 : am_csV M_X10_letterBit 140 M_X10_letterLength 0 := ⟨⟨by decide +kernel, w_77, w_1417⟩, w_1414, w_1416, w_33⟩
theorem k_X10_letterBit_42 : am_csS M_X10_letterBit 42 M_X10_in 3 := ⟨⟨by decide +kernel, w_77, w_1273⟩, w_1271, w_1272⟩
theorem k_X10_letterBit_53 : am_csV M_X10_letterBit 53 M_X10_asks 1 := ⟨⟨by decide +kernel, w_77, w_1266⟩, w_1263, w_1265, w_14⟩
theorem k_X10_letterBit_208 : am_csV M_X10_letterBit 208 M_X10_bitAt 1 := ⟨⟨by decide +kernel, w_77, w_1657⟩, w_1654, w_1656, w_54⟩
theorem k_X10_letterBits_140 : am_csV M_X10_letterBits 140 M_X10_letterLength 0 := ⟨⟨by decide +kernel, w_77, w_1417⟩, w_1414, w_1416, w_33⟩
theorem k_X10_letterBits_125 : am_csV M_X10_letterBits 125 M_X10_says 1 := ⟨⟨by decide +kernel, w_77, w_1320⟩, w_1317, w_1319, w_19⟩
theorem k_X10_parameterFor_100 : am_csV M_X10_parameterFor 100 M_X10_blockBits 2 := ⟨⟨by decide +kernel, w_77, w_1407⟩, w_1404, w_1406, w_32⟩
theorem k_X10_signed_220 : am_csV M_X10_signed 220 M_X10_sign 0 := ⟨⟨by decide +kernel, w_77, w_1684⟩, w_1681, w_1683, w_57⟩
theorem k_X10_signed_223 : am_csV M_X10_signed 223 M_X10_needs 1 := ⟨⟨by decide +kernel, w_77, w_1688⟩, w_1685, w_1687, w_58⟩
theorem k_X10_signed_230 : am_csV M_X10_signed 230 M_X10_number 2 := ⟨⟨by decide +kernel, w_77, w_1692⟩, w_1689, w_1691, w_59⟩
theorem k_X10_weightsAhead_82 : am_csV M_X10_weightsAhead 82 M_X10_begins 1 := ⟨⟨by decide +kernel, w_77, w_1381⟩, w_1378, w_1380, w_27⟩
theorem k_X10_weightsAhead_78 : am_csV M_X10_weightsAhead 78 M_X10_adapts 3 := ⟨⟨by decide +kernel, w_77, w_1399⟩, w_1396, w_1398, w_30⟩
theorem k_X1_restore_25 : am_csV M_X1_restore 25 M_X6_copyFrom 1 := ⟨⟨by decide +kernel, w_69, w_382⟩, w_379, w_380, w_381⟩
theorem k_X1_save_22 : am_csV M_X1_save 22 M_X1_forgetOldest 0 := ⟨⟨by decide +kernel, w_72, w_378⟩, w_375, w_376, w_377⟩
theorem k_X1_save_25 : am_csV M_X1_save 25 M_X6_copyFrom 1 := ⟨⟨by decide +kernel, w_69, w_382⟩, w_379, w_380, w_381⟩
theorem k_X3_readFolded_56 : am_csV M_X3_readFolded 56 M_X3_readBit 0 := ⟨⟨by decide +kernel, w_76, w_1107⟩, w_1104, w_1105, w_1106⟩
theorem k_X3_readFolded_60 : am_csV M_X3_readFolded 60 M_X3_readNumber 1 := ⟨⟨by decide +kernel, w_76, w_1103⟩, w_1113, w_1101, w_1102⟩
theorem k_X3_write_31 : am_csV M_X3_write 31 M_X3_writeNumber 2 := ⟨⟨by decide +kernel, w_76, w_706⟩, w_703, w_704, w_705⟩
theorem k_X3_write_41 : am_csN M_X3_write 41 M_X9_fold 1 := ⟨⟨by decide +kernel, w_67, w_516⟩, w_711, w_515⟩
theorem k_X3_write_45 : am_csV M_X3_write 45 M_X3_writeFolded 2 := ⟨⟨by decide +kernel, w_76, w_715⟩, w_712, w_713, w_714⟩
theorem k_X4_read_31 : am_csV M_X4_read 31 M_X0_begin 3 := ⟨⟨by decide +kernel, w_71, w_441⟩, w_563, w_439, w_440⟩
theorem k_X4_read_44 : am_csV M_X4_read 44 M_X0_foretell 1 := ⟨⟨by decide +kernel, w_71, w_461⟩, w_564, w_459, w_460⟩
theorem k_X4_read_48 : am_csN M_X4_read 48 M_X9_limit 1 := ⟨⟨by decide +kernel, w_67, w_456⟩, w_565, w_455⟩
theorem k_X4_read_51 : am_csV M_X4_read 51 M_X0_show 1 := ⟨⟨by decide +kernel, w_71, w_466⟩, w_566, w_464, w_465⟩
theorem k_X5_put_22 : am_csV M_X5_put 22 M_X6_copyFrom 1 := ⟨⟨by decide +kernel, w_69, w_382⟩, w_1135, w_380, w_381⟩
theorem k_X5_restore_22 : am_csV M_X5_restore 22 M_X6_copyFrom 1 := ⟨⟨by decide +kernel, w_69, w_382⟩, w_1135, w_380, w_381⟩
theorem k_X7_findParameters_106 : am_csN M_X7_findParameters 106 M_X9_blocksOf 1 := ⟨⟨by decide +kernel, w_67, w_401⟩, w_498, w_400⟩
theorem k_X7_findParameters_109 : am_csV M_X7_findParameters 109 M_X7_findParameter 2 := ⟨⟨by decide +kernel, w_68, w_502⟩, w_499, w_500, w_501⟩
theorem k_X7_follow_53 : am_csV M_X7_follow 53 M_X0_begin 3 := ⟨⟨by decide +kernel, w_71, w_441⟩, w_438, w_439, w_440⟩
theorem k_X7_follow_60 : am_csV M_X7_follow 60 M_X0_foretell 1 := ⟨⟨by decide +kernel, w_71, w_461⟩, w_458, w_459, w_460⟩
theorem k_X7_follow_66 : am_csV M_X7_follow 66 M_X6_soundAt 1 := ⟨⟨by decide +kernel, w_69, w_421⟩, w_457, w_419, w_420⟩
theorem k_X7_follow_69 : am_csV M_X7_follow 69 M_X0_show 1 := ⟨⟨by decide +kernel, w_71, w_466⟩, w_463, w_464, w_465⟩
theorem k_X7_sumIf_53 : am_csV M_X7_sumIf 53 M_X0_begin 3 := ⟨⟨by decide +kernel, w_71, w_441⟩, w_438, w_439, w_440⟩
theorem k_X7_sumIf_66 : am_csV M_X7_sumIf 66 M_X6_soundAt 1 := ⟨⟨by decide +kernel, w_69, w_421⟩, w_457, w_419, w_420⟩
theorem k_X7_sumIf_60 : am_csV M_X7_sumIf 60 M_X0_foretell 1 := ⟨⟨by decide +kernel, w_71, w_461⟩, w_458, w_459, w_460⟩
theorem k_X7_sumIf_88 : am_csS M_X7_sumIf 88 M_J9_abs_0f7a4 1 := ⟨⟨by decide +kernel, w_84, w_424⟩, w_462, w_423⟩
theorem k_X7_sumIf_69 : am_csV M_X7_sumIf 69 M_X0_show 1 := ⟨⟨by decide +kernel, w_71, w_466⟩, w_463, w_464, w_465⟩
theorem k_X8_readPlace_53 : am_csV M_X8_readPlace 53 M_X8_readNumber 2 := ⟨⟨by decide +kernel, w_74, w_622⟩, w_619, w_620, w_621⟩
theorem k_X8_readPlace_35 : am_csV M_X8_readPlace 35 M_X8_take 1 := ⟨⟨by decide +kernel, w_74, w_614⟩, w_611, w_612, w_613⟩
theorem k_X8_readSigned_35 : am_csV M_X8_readSigned 35 M_X8_take 1 := ⟨⟨by decide +kernel, w_74, w_614⟩, w_611, w_612, w_613⟩
theorem k_X8_readSigned_53 : am_csV M_X8_readSigned 53 M_X8_readNumber 2 := ⟨⟨by decide +kernel, w_74, w_622⟩, w_619, w_620, w_621⟩
theorem k_X8_readValue_53 : am_csV M_X8_readValue 53 M_X8_readNumber 2 := ⟨⟨by decide +kernel, w_74, w_622⟩, w_619, w_620, w_621⟩
theorem k_X9_hashOfBlocks_145 : am_csS M_X9_hashOfBlocks 145 M_X9_blocksOf 1 := ⟨⟨by decide +kernel, w_67, w_401⟩, w_399, w_400⟩
theorem k_X9_hashOfBlocks_198 : am_csV M_X9_hashOfBlocks 198 M_X7_kindFor 1 := ⟨⟨by decide +kernel, w_68, w_527⟩, w_689, w_525, w_526⟩
theorem k_X9_hashOfBlocks_353 : am_csS M_X9_hashOfBlocks 353 M_X9_mix 2 := ⟨⟨by decide +kernel, w_67, w_646⟩, w_644, w_645⟩
theorem k_X9_hashOfBlocks_201 : am_csV M_X9_hashOfBlocks 201 M_X7_reasonFor 1 := ⟨⟨by decide +kernel, w_68, w_693⟩, w_690, w_691, w_692⟩
theorem k_X10_firstFor_82 : am_csV M_X10_firstFor 82 M_X10_begins 1 := ⟨⟨by decide +kernel, w_77, w_1381⟩, w_1378, w_1380, w_27⟩
theorem k_X10_firstFor_86 : am_csV M_X10_firstFor 86 M_X10_leaves 3 := ⟨⟨by decide +kernel, w_77, w_1385⟩, w_1382, w_1384, w_28⟩
theorem k_X10_firstOther_150 : am_csV M_X10_firstOther 150 M_X10_hears 1 := ⟨⟨by decide +kernel, w_77, w_1437⟩, w_1434, w_1436, w_36⟩
theorem k_X10_foretoldOf_90 : am_csV M_X10_foretoldOf 90 M_X10_weightsAhead 1 := ⟨⟨by decide +kernel, w_77, w_1517⟩, w_1514, w_1516, w_41⟩
theorem k_X10_foretoldOf_71 : am_csV M_X10_foretoldOf 71 M_X10_foretell 4 := ⟨⟨by decide +kernel, w_77, w_1389⟩, w_1386, w_1388, w_29⟩
theorem k_X10_harm_147 : am_csV M_X10_harm 147 M_X10_isTold 1 := ⟨⟨by decide +kernel, w_77, w_1425⟩, w_1422, w_1424, w_34⟩
theorem k_X10_harm_53 : am_csV M_X10_harm 53 M_X10_asks 1 := ⟨⟨by decide +kernel, w_77, w_1266⟩, w_1263, w_1265, w_14⟩
theorem k_X10_harm_150 : am_csV M_X10_harm 150 M_X10_hears 1 := ⟨⟨by decide +kernel, w_77, w_1437⟩, w_1434, w_1436, w_36⟩
theorem k_X10_heardOf_147 : am_csV M_X10_heardOf 147 M_X10_isTold 1 := ⟨⟨by decide +kernel, w_77, w_1425⟩, w_1422, w_1424, w_34⟩
theorem k_X10_heardOf_53 : am_csV M_X10_heardOf 53 M_X10_asks 1 := ⟨⟨by decide +kernel, w_77, w_1266⟩, w_1263, w_1265, w_14⟩
theorem k_X10_heardOf_150 : am_csV M_X10_heardOf 150 M_X10_hears 1 := ⟨⟨by decide +kernel, w_77, w_1437⟩, w_1434, w_1436, w_36⟩
theorem k_X10_leavesBy_82 : am_csV M_X10_leavesBy 82 M_X10_begins 1 := ⟨⟨by decide +kernel, w_77, w_1381⟩, w_1378, w_1380, w_27⟩
theorem k_X10_leavesBy_86 : am_csV M_X10_leavesBy 86 M_X10_leaves 3 := ⟨⟨by decide +kernel, w_77, w_1385⟩, w_1382, w_1384, w_28⟩
theorem k_X10_letterOn_46 : am_csS M_X10_letterOn 46 M_X10_blocksOf 1 := ⟨⟨by decide +kernel, w_77, w_1365⟩, w_1363, w_1364⟩
theorem k_X10_letterOn_255 : am_csS M_X10_letterOn 255 M_X10_on 2 := ⟨⟨by decide +kernel, w_77, w_1720⟩, w_1718, w_1719⟩
theorem k_X10_letterOn_150 : am_csV M_X10_letterOn 150 M_X10_hears 1 := ⟨⟨by decide +kernel, w_77, w_1437⟩, w_1434, w_1436, w_36⟩
theorem k_X10_letterOn_96 : am_csS M_X10_letterOn 96 M_X10_bitsOf 2 := ⟨⟨by decide +kernel, w_77, w_1410⟩, w_1408, w_1409⟩
theorem k_X10_letterOn_205 : am_csS M_X10_letterOn 205 M_X10_bitOf 3 := ⟨⟨by decide +kernel, w_77, w_1660⟩, w_1658, w_1659⟩
theorem k_X10_mostHarm_150 : am_csV M_X10_mostHarm 150 M_X10_hears 1 := ⟨⟨by decide +kernel, w_77, w_1437⟩, w_1434, w_1436, w_36⟩
theorem k_X10_readWork_220 : am_csV M_X10_readWork 220 M_X10_sign 0 := ⟨⟨by decide +kernel, w_77, w_1684⟩, w_1681, w_1683, w_57⟩
theorem k_X10_readWork_223 : am_csV M_X10_readWork 223 M_X10_needs 1 := ⟨⟨by decide +kernel, w_77, w_1688⟩, w_1685, w_1687, w_58⟩
theorem k_X10_readWork_230 : am_csV M_X10_readWork 230 M_X10_number 2 := ⟨⟨by decide +kernel, w_77, w_1692⟩, w_1689, w_1691, w_59⟩
theorem k_X10_readWork_227 : am_csV M_X10_readWork 227 M_X10_digit 2 := ⟨⟨by decide +kernel, w_77, w_1696⟩, w_1693, w_1695, w_60⟩
theorem k_X10_readWork_236 : am_csV M_X10_readWork 236 M_X10_signed 1 := ⟨⟨by decide +kernel, w_77, w_1700⟩, w_1697, w_1699, w_61⟩
theorem k_X10_speedFor_82 : am_csV M_X10_speedFor 82 M_X10_begins 1 := ⟨⟨by decide +kernel, w_77, w_1381⟩, w_1378, w_1380, w_27⟩
theorem k_X10_speedFor_86 : am_csV M_X10_speedFor 86 M_X10_leaves 3 := ⟨⟨by decide +kernel, w_77, w_1385⟩, w_1382, w_1384, w_28⟩
theorem k_X10_sumBehind_82 : am_csV M_X10_sumBehind 82 M_X10_begins 1 := ⟨⟨by decide +kernel, w_77, w_1381⟩, w_1378, w_1380, w_27⟩
theorem k_X10_sumBehind_86 : am_csV M_X10_sumBehind 86 M_X10_leaves 3 := ⟨⟨by decide +kernel, w_77, w_1385⟩, w_1382, w_1384, w_28⟩
theorem k_X10_unlike_150 : am_csV M_X10_unlike 150 M_X10_hears 1 := ⟨⟨by decide +kernel, w_77, w_1437⟩, w_1434, w_1436, w_36⟩
theorem k_X10_unlike_125 : am_csV M_X10_unlike 125 M_X10_says 1 := ⟨⟨by decide +kernel, w_77, w_1320⟩, w_1317, w_1319, w_19⟩
theorem k_X10_weightAsked_42 : am_csS M_X10_weightAsked 42 M_X10_in 3 := ⟨⟨by decide +kernel, w_77, w_1273⟩, w_1271, w_1272⟩
theorem k_X10_weightAsked_53 : am_csV M_X10_weightAsked 53 M_X10_asks 1 := ⟨⟨by decide +kernel, w_77, w_1266⟩, w_1263, w_1265, w_14⟩
theorem k_X10_weightAsked_131 : am_csS M_X10_weightAsked 131 M_X10_isWeight 1 := ⟨⟨by decide +kernel, w_77, w_1339⟩, w_1337, w_1338⟩
theorem k_X10_weightAsked_57 : am_csV M_X10_weightAsked 57 M_X10_asksThen 2 := ⟨⟨by decide +kernel, w_77, w_1281⟩, w_1278, w_1280, w_15⟩
theorem k_X10_weightAsked_90 : am_csV M_X10_weightAsked 90 M_X10_weightsAhead 1 := ⟨⟨by decide +kernel, w_77, w_1517⟩, w_1514, w_1516, w_41⟩
theorem k_X4_readBits_31 : am_csV M_X4_readBits 31 M_X0_begin 3 := ⟨⟨by decide +kernel, w_71, w_441⟩, w_563, w_439, w_440⟩
theorem k_X4_readBits_60 : am_csV M_X4_readBits 60 M_X3_readNumber 1 := ⟨⟨by decide +kernel, w_76, w_1103⟩, w_1100, w_1101, w_1102⟩
theorem k_X4_readBits_63 : am_csV M_X4_readBits 63 M_X3_readFolded 1 := ⟨⟨by decide +kernel, w_76, w_1112⟩, w_1109, w_1110, w_1111⟩
theorem k_X4_readBits_66 : am_csN M_X4_readBits 66 M_X9_unfold 1 := ⟨⟨by decide +kernel, w_67, w_1116⟩, w_1114, w_1115⟩
theorem k_X4_readBits_44 : am_csV M_X4_readBits 44 M_X0_foretell 1 := ⟨⟨by decide +kernel, w_71, w_461⟩, w_564, w_459, w_460⟩
theorem k_X4_readBits_48 : am_csN M_X4_readBits 48 M_X9_limit 1 := ⟨⟨by decide +kernel, w_67, w_456⟩, w_565, w_455⟩
theorem k_X4_readBits_51 : am_csV M_X4_readBits 51 M_X0_show 1 := ⟨⟨by decide +kernel, w_71, w_466⟩, w_566, w_464, w_465⟩
theorem k_X7_findDelay_84 : am_csV M_X7_findDelay 84 M_X7_sumIf 4 := ⟨⟨by decide +kernel, w_68, w_437⟩, w_434, w_435, w_436⟩
theorem k_X7_findFirst_84 : am_csV M_X7_findFirst 84 M_X7_sumIf 4 := ⟨⟨by decide +kernel, w_68, w_437⟩, w_434, w_435, w_436⟩
theorem k_X7_findSpeed_84 : am_csV M_X7_findSpeed 84 M_X7_sumIf 4 := ⟨⟨by decide +kernel, w_68, w_437⟩, w_434, w_435, w_436⟩
theorem k_X7_sumBy_84 : am_csV M_X7_sumBy 84 M_X7_sumIf 4 := ⟨⟨by decide +kernel, w_68, w_437⟩, w_434, w_435, w_436⟩
theorem k_X7_weighBlocks_100 : am_csV M_X7_weighBlocks 100 M_X7_follow 0 := ⟨⟨by decide +kernel, w_68, w_493⟩, w_490, w_491, w_492⟩
theorem k_X7_weighBlocks_103 : am_csV M_X7_weighBlocks 103 M_X7_findParameters 0 := ⟨⟨by decide +kernel, w_68, w_497⟩, w_494, w_495, w_496⟩
theorem k_X8_readWork_39 : am_csV M_X8_readWork 39 M_X8_codeHere 0 := ⟨⟨by decide +kernel, w_74, w_610⟩, w_607, w_608, w_609⟩
theorem k_X8_readWork_35 : am_csV M_X8_readWork 35 M_X8_take 1 := ⟨⟨by decide +kernel, w_74, w_614⟩, w_611, w_612, w_613⟩
theorem k_X8_readWork_43 : am_csV M_X8_readWork 43 M_X8_readValue 2 := ⟨⟨by decide +kernel, w_74, w_618⟩, w_615, w_616, w_617⟩
theorem k_X8_readWork_47 : am_csV M_X8_readWork 47 M_X8_readPlace 2 := ⟨⟨by decide +kernel, w_74, w_630⟩, w_627, w_628, w_629⟩
theorem k_X8_readWork_50 : am_csV M_X8_readWork 50 M_X8_readSigned 1 := ⟨⟨by decide +kernel, w_74, w_634⟩, w_631, w_632, w_633⟩
theorem k_X9_empty_75 : am_csV M_X9_empty 75 M_X1_save 1 := ⟨⟨by decide +kernel, w_72, w_374⟩, w_371, w_372, w_373⟩
theorem k_X9_firstUnlike_229 : am_csV M_X9_firstUnlike 229 M_X4_read 2 := ⟨⟨by decide +kernel, w_75, w_562⟩, w_559, w_560, w_561⟩
theorem k_X9_firstUnlike_244 : am_csV M_X9_firstUnlike 244 M_X4_findUnlike 1 := ⟨⟨by decide +kernel, w_75, w_582⟩, w_579, w_580, w_581⟩
theorem k_X9_hashOfLetter_145 : am_csS M_X9_hashOfLetter 145 M_X9_blocksOf 1 := ⟨⟨by decide +kernel, w_67, w_401⟩, w_399, w_400⟩
theorem k_X9_hashOfLetter_353 : am_csS M_X9_hashOfLetter 353 M_X9_mix 2 := ⟨⟨by decide +kernel, w_67, w_646⟩, w_644, w_645⟩
theorem k_X9_hashOfLetter_229 : am_csV M_X9_hashOfLetter 229 M_X4_read 2 := ⟨⟨by decide +kernel, w_75, w_562⟩, w_559, w_560, w_561⟩
theorem k_X9_hashOfLetter_233 : am_csV M_X9_hashOfLetter 233 M_X4_heardAt 1 := ⟨⟨by decide +kernel, w_75, w_574⟩, w_698, w_572, w_573⟩
theorem k_X9_hashOfLetter_222 : am_csV M_X9_hashOfLetter 222 M_X3_write 1 := ⟨⟨by decide +kernel, w_76, w_702⟩, w_699, w_700, w_701⟩
theorem k_X9_hashOfLetter_226 : am_csV M_X9_hashOfLetter 226 M_X3_isOne 1 := ⟨⟨by decide +kernel, w_76, w_719⟩, w_716, w_717, w_718⟩
theorem k_X9_unlike_229 : am_csV M_X9_unlike 229 M_X4_read 2 := ⟨⟨by decide +kernel, w_75, w_562⟩, w_559, w_560, w_561⟩
theorem k_X9_unlike_240 : am_csV M_X9_unlike 240 M_X4_countUnlike 1 := ⟨⟨by decide +kernel, w_75, w_570⟩, w_567, w_568, w_569⟩
theorem k_X9_worst_229 : am_csV M_X9_worst 229 M_X4_read 2 := ⟨⟨by decide +kernel, w_75, w_562⟩, w_559, w_560, w_561⟩
theorem k_X9_worst_240 : am_csV M_X9_worst 240 M_X4_countUnlike 1 := ⟨⟨by decide +kernel, w_75, w_570⟩, w_567, w_568, w_569⟩
theorem k_X9_writeLetter_154 : am_csV M_X9_writeLetter 154 M_X7_follow 0 := ⟨⟨by decide +kernel, w_68, w_493⟩, w_924, w_491, w_492⟩
theorem k_X9_writeLetter_316 : am_csV M_X9_writeLetter 316 M_X7_findParameters 0 := ⟨⟨by decide +kernel, w_68, w_497⟩, w_925, w_495, w_496⟩
theorem k_X9_writeLetter_145 : am_csS M_X9_writeLetter 145 M_X9_blocksOf 1 := ⟨⟨by decide +kernel, w_67, w_401⟩, w_399, w_400⟩
theorem k_X9_writeLetter_198 : am_csV M_X9_writeLetter 198 M_X7_kindFor 1 := ⟨⟨by decide +kernel, w_68, w_527⟩, w_689, w_525, w_526⟩
theorem k_X9_writeLetter_167 : am_csV M_X9_writeLetter 167 M_X7_leftBy 2 := ⟨⟨by decide +kernel, w_68, w_513⟩, w_684, w_511, w_512⟩
theorem k_X10_bestFirst_131 : am_csS M_X10_bestFirst 131 M_X10_isWeight 1 := ⟨⟨by decide +kernel, w_77, w_1339⟩, w_1337, w_1338⟩
theorem k_X10_bestFirst_53 : am_csV M_X10_bestFirst 53 M_X10_asks 1 := ⟨⟨by decide +kernel, w_77, w_1266⟩, w_1263, w_1265, w_14⟩
theorem k_X10_bestFirst_181 : am_csV M_X10_bestFirst 181 M_X10_firstFor 1 := ⟨⟨by decide +kernel, w_77, w_1569⟩, w_1566, w_1568, w_46⟩
theorem k_X10_bestSpeed_178 : am_csV M_X10_bestSpeed 178 M_X10_speedFor 0 := ⟨⟨by decide +kernel, w_77, w_1561⟩, w_1558, w_1560, w_45⟩
theorem k_X10_bestSpeed_125 : am_csV M_X10_bestSpeed 125 M_X10_says 1 := ⟨⟨by decide +kernel, w_77, w_1320⟩, w_1317, w_1319, w_19⟩
theorem k_X10_bitsWith_184 : am_csV M_X10_bitsWith 184 M_X10_isBlock 1 := ⟨⟨by decide +kernel, w_77, w_1577⟩, w_1574, w_1576, w_47⟩
theorem k_X10_bitsWith_53 : am_csV M_X10_bitsWith 53 M_X10_asks 1 := ⟨⟨by decide +kernel, w_77, w_1266⟩, w_1263, w_1265, w_14⟩
theorem k_X10_bitsWith_134 : am_csS M_X10_bitsWith 134 M_X10_isKind 1 := ⟨⟨by decide +kernel, w_77, w_1346⟩, w_1344, w_1345⟩
theorem k_X10_bitsWith_42 : am_csS M_X10_bitsWith 42 M_X10_in 3 := ⟨⟨by decide +kernel, w_77, w_1273⟩, w_1271, w_1272⟩
theorem k_X10_bitsWith_57 : am_csV M_X10_bitsWith 57 M_X10_asksThen 2 := ⟨⟨by decide +kernel, w_77, w_1281⟩, w_1278, w_1280, w_15⟩
theorem k_X10_bitsWith_103 : am_csV M_X10_bitsWith 103 M_X10_leavesBy 1 := ⟨⟨by decide +kernel, w_77, w_1377⟩, w_1374, w_1376, w_26⟩
theorem k_X10_bitsWith_100 : am_csV M_X10_bitsWith 100 M_X10_blockBits 2 := ⟨⟨by decide +kernel, w_77, w_1407⟩, w_1404, w_1406, w_32⟩
theorem k_X10_delayFor_172 : am_csV M_X10_delayFor 172 M_X10_sumBehind 1 := ⟨⟨by decide +kernel, w_77, w_1545⟩, w_1542, w_1544, w_43⟩
theorem k_X10_fewest_103 : am_csV M_X10_fewest 103 M_X10_leavesBy 1 := ⟨⟨by decide +kernel, w_77, w_1377⟩, w_1374, w_1376, w_26⟩
theorem k_X10_fewest_106 : am_csV M_X10_fewest 106 M_X10_parameterFor 1 := ⟨⟨by decide +kernel, w_77, w_1403⟩, w_1400, w_1402, w_31⟩
theorem k_X10_fewest_100 : am_csV M_X10_fewest 100 M_X10_blockBits 2 := ⟨⟨by decide +kernel, w_77, w_1407⟩, w_1404, w_1406, w_32⟩
theorem k_X10_firstUnlike_156 : am_csV M_X10_firstUnlike 156 M_X10_firstOther 0 := ⟨⟨by decide +kernel, w_77, w_1453⟩, w_1450, w_1452, w_37⟩
theorem k_X10_firstUnlike_125 : am_csV M_X10_firstUnlike 125 M_X10_says 1 := ⟨⟨by decide +kernel, w_77, w_1320⟩, w_1317, w_1319, w_19⟩
theorem k_X10_foretold_42 : am_csS M_X10_foretold 42 M_X10_in 3 := ⟨⟨by decide +kernel, w_77, w_1273⟩, w_1271, w_1272⟩
theorem k_X10_foretold_53 : am_csV M_X10_foretold 53 M_X10_asks 1 := ⟨⟨by decide +kernel, w_77, w_1266⟩, w_1263, w_1265, w_14⟩
theorem k_X10_foretold_134 : am_csS M_X10_foretold 134 M_X10_isKind 1 := ⟨⟨by decide +kernel, w_77, w_1346⟩, w_1344, w_1345⟩
theorem k_X10_foretold_57 : am_csV M_X10_foretold 57 M_X10_asksThen 2 := ⟨⟨by decide +kernel, w_77, w_1281⟩, w_1278, w_1280, w_15⟩
theorem k_X10_foretold_169 : am_csV M_X10_foretold 169 M_X10_foretoldOf 2 := ⟨⟨by decide +kernel, w_77, w_1529⟩, w_1526, w_1528, w_42⟩
theorem k_X10_heard_153 : am_csV M_X10_heard 153 M_X10_heardOf 1 := ⟨⟨by decide +kernel, w_77, w_1433⟩, w_1430, w_1432, w_35⟩
theorem k_X10_heardByBits_153 : am_csV M_X10_heardByBits 153 M_X10_heardOf 1 := ⟨⟨by decide +kernel, w_77, w_1433⟩, w_1430, w_1432, w_35⟩
theorem k_X10_leftOver_122 : am_csV M_X10_leftOver 122 M_X10_isSample 1 := ⟨⟨by decide +kernel, w_77, w_1308⟩, w_1305, w_1307, w_18⟩
theorem k_X10_leftOver_53 : am_csV M_X10_leftOver 53 M_X10_asks 1 := ⟨⟨by decide +kernel, w_77, w_1266⟩, w_1263, w_1265, w_14⟩
theorem k_X10_leftOver_134 : am_csS M_X10_leftOver 134 M_X10_isKind 1 := ⟨⟨by decide +kernel, w_77, w_1346⟩, w_1344, w_1345⟩
theorem k_X10_leftOver_57 : am_csV M_X10_leftOver 57 M_X10_asksThen 2 := ⟨⟨by decide +kernel, w_77, w_1281⟩, w_1278, w_1280, w_15⟩
theorem k_X10_leftOver_169 : am_csV M_X10_leftOver 169 M_X10_foretoldOf 2 := ⟨⟨by decide +kernel, w_77, w_1529⟩, w_1526, w_1528, w_42⟩
theorem k_X10_parameterBy_103 : am_csV M_X10_parameterBy 103 M_X10_leavesBy 1 := ⟨⟨by decide +kernel, w_77, w_1377⟩, w_1374, w_1376, w_26⟩
theorem k_X10_parameterBy_106 : am_csV M_X10_parameterBy 106 M_X10_parameterFor 1 := ⟨⟨by decide +kernel, w_77, w_1403⟩, w_1400, w_1402, w_31⟩
theorem k_X10_sumOf_134 : am_csS M_X10_sumOf 134 M_X10_isKind 1 := ⟨⟨by decide +kernel, w_77, w_1346⟩, w_1344, w_1345⟩
theorem k_X10_sumOf_53 : am_csV M_X10_sumOf 53 M_X10_asks 1 := ⟨⟨by decide +kernel, w_77, w_1266⟩, w_1263, w_1265, w_14⟩
theorem k_X10_sumOf_103 : am_csV M_X10_sumOf 103 M_X10_leavesBy 1 := ⟨⟨by decide +kernel, w_77, w_1377⟩, w_1374, w_1376, w_26⟩
theorem k_X10_sumWithDelay_42 : am_csS M_X10_sumWithDelay 42 M_X10_in 3 := ⟨⟨by decide +kernel, w_77, w_1273⟩, w_1271, w_1272⟩
theorem k_X10_sumWithDelay_53 : am_csV M_X10_sumWithDelay 53 M_X10_asks 1 := ⟨⟨by decide +kernel, w_77, w_1266⟩, w_1263, w_1265, w_14⟩
theorem k_X10_sumWithDelay_172 : am_csV M_X10_sumWithDelay 172 M_X10_sumBehind 1 := ⟨⟨by decide +kernel, w_77, w_1545⟩, w_1542, w_1544, w_43⟩
theorem k_X10_tells_239 : am_csV M_X10_tells 239 M_X10_readWork 0 := ⟨⟨by decide +kernel, w_77, w_1680⟩, w_1677, w_1679, w_56⟩
theorem k_X10_tells_220 : am_csV M_X10_tells 220 M_X10_sign 0 := ⟨⟨by decide +kernel, w_77, w_1684⟩, w_1681, w_1683, w_57⟩
theorem k_X10_tells_223 : am_csV M_X10_tells 223 M_X10_needs 1 := ⟨⟨by decide +kernel, w_77, w_1688⟩, w_1685, w_1687, w_58⟩
theorem k_X10_weightAt_166 : am_csV M_X10_weightAt 166 M_X10_weightAsked 2 := ⟨⟨by decide +kernel, w_77, w_1513⟩, w_1510, w_1512, w_40⟩
theorem k_X10_weightByCounting_166 : am_csV M_X10_weightByCounting 166 M_X10_weightAsked 2 := ⟨⟨by decide +kernel, w_77, w_1513⟩, w_1510, w_1512, w_40⟩
theorem k_X10_worst_159 : am_csV M_X10_worst 159 M_X10_mostHarm 0 := ⟨⟨by decide +kernel, w_77, w_1465⟩, w_1462, w_1464, w_38⟩
theorem k_X10_worst_125 : am_csV M_X10_worst 125 M_X10_says 1 := ⟨⟨by decide +kernel, w_77, w_1320⟩, w_1317, w_1319, w_19⟩
theorem k_X8_findFault_31 : am_csV M_X8_findFault 31 M_X8_readWork 0 := ⟨⟨by decide +kernel, w_74, w_606⟩, w_603, w_604, w_605⟩
theorem k_X8_findFault_35 : am_csV M_X8_findFault 35 M_X8_take 1 := ⟨⟨by decide +kernel, w_74, w_614⟩, w_611, w_612, w_613⟩
theorem k_X9_bestDelay_177 : am_csV M_X9_bestDelay 177 M_X7_findDelay 0 := ⟨⟨by decide +kernel, w_68, w_432⟩, w_429, w_430, w_431⟩
theorem k_X9_bestSpeed_180 : am_csV M_X9_bestSpeed 180 M_X7_findSpeed 0 := ⟨⟨by decide +kernel, w_68, w_481⟩, w_478, w_479, w_480⟩
theorem k_X9_bits_192 : am_csV M_X9_bits 192 M_X7_weighBlocks 0 := ⟨⟨by decide +kernel, w_68, w_489⟩, w_486, w_487, w_488⟩
theorem k_X9_bits_204 : am_csV M_X9_bits 204 M_X7_sumOfBlocks 0 := ⟨⟨by decide +kernel, w_68, w_523⟩, w_520, w_521, w_522⟩
theorem k_X9_bitsByKinds_192 : am_csV M_X9_bitsByKinds 192 M_X7_weighBlocks 0 := ⟨⟨by decide +kernel, w_68, w_489⟩, w_486, w_487, w_488⟩
theorem k_X9_bitsByKinds_207 : am_csV M_X9_bitsByKinds 207 M_X7_sumOfBlocksWith 1 := ⟨⟨by decide +kernel, w_68, w_539⟩, w_536, w_537, w_538⟩
theorem k_X9_doWork_335 : am_csV M_X9_doWork 335 M_X9_addIfPossible 1 := ⟨⟨by decide +kernel, w_67, w_1177⟩, w_1174, w_1176, w_10⟩
theorem k_X9_doWork_338 : am_csV M_X9_doWork 338 M_X9_turnIfPossible 1 := ⟨⟨by decide +kernel, w_67, w_1181⟩, w_1178, w_1180, w_11⟩
theorem k_X9_doWork_125 : am_csV M_X9_doWork 125 M_X9_writeLetter 0 := ⟨⟨by decide +kernel, w_67, w_923⟩, w_920, w_922, w_6⟩
theorem k_X9_doWork_344 : am_csV M_X9_doWork 344 M_X9_tamperIfPossible 2 := ⟨⟨by decide +kernel, w_67, w_1185⟩, w_1182, w_1184, w_12⟩
theorem k_X9_doWork_348 : am_csV M_X9_doWork 348 M_X9_setFirst 2 := ⟨⟨by decide +kernel, w_67, w_1189⟩, w_1186, w_1188, w_13⟩
theorem k_X9_hashOfAll_353 : am_csS M_X9_hashOfAll 353 M_X9_mix 2 := ⟨⟨by decide +kernel, w_67, w_646⟩, w_644, w_645⟩
theorem k_X9_hashOfAll_204 : am_csV M_X9_hashOfAll 204 M_X7_sumOfBlocks 0 := ⟨⟨by decide +kernel, w_68, w_523⟩, w_520, w_521, w_522⟩
theorem k_X9_hashOfAll_177 : am_csV M_X9_hashOfAll 177 M_X7_findDelay 0 := ⟨⟨by decide +kernel, w_68, w_432⟩, w_429, w_430, w_431⟩
theorem k_X9_hashOfAll_180 : am_csV M_X9_hashOfAll 180 M_X7_findSpeed 0 := ⟨⟨by decide +kernel, w_68, w_481⟩, w_478, w_479, w_480⟩
theorem k_X9_hashOfAll_183 : am_csV M_X9_hashOfAll 183 M_X7_findFirst 1 := ⟨⟨by decide +kernel, w_68, w_651⟩, w_648, w_649, w_650⟩
theorem k_X9_hashOfAll_133 : am_csV M_X9_hashOfAll 133 M_X2_countBits 0 := ⟨⟨by decide +kernel, w_70, w_551⟩, w_548, w_549, w_550⟩
theorem k_X9_hashOfAll_357 : am_csV M_X9_hashOfAll 357 M_X9_unlike 0 := ⟨⟨by decide +kernel, w_67, w_558⟩, w_653, w_556, w_557⟩
theorem k_X9_hashOfAll_360 : am_csV M_X9_hashOfAll 360 M_X9_firstUnlike 0 := ⟨⟨by decide +kernel, w_67, w_578⟩, w_654, w_576, w_577⟩
theorem k_X9_hashOfAll_363 : am_csV M_X9_hashOfAll 363 M_X9_worst 0 := ⟨⟨by decide +kernel, w_67, w_586⟩, w_655, w_584, w_585⟩
theorem k_X9_hashOfAll_366 : am_csV M_X9_hashOfAll 366 M_X9_loudness 0 := ⟨⟨by decide +kernel, w_67, w_417⟩, w_656, w_415, w_416⟩
theorem k_X9_hashOfAll_370 : am_csS M_X9_hashOfAll 370 M_X9_bitsOfDouble 1 := ⟨⟨by decide +kernel, w_67, w_659⟩, w_657, w_658⟩
theorem k_X9_hashOfKinds_170 : am_csV M_X9_hashOfKinds 170 M_X7_sumBy 1 := ⟨⟨by decide +kernel, w_68, w_671⟩, w_668, w_669, w_670⟩
theorem k_X9_hashOfKinds_353 : am_csS M_X9_hashOfKinds 353 M_X9_mix 2 := ⟨⟨by decide +kernel, w_67, w_646⟩, w_644, w_645⟩
theorem k_X9_hashOfKinds_210 : am_csV M_X9_hashOfKinds 210 M_X7_countBlocksWith 1 := ⟨⟨by decide +kernel, w_68, w_675⟩, w_672, w_673, w_674⟩
theorem k_X9_hashOfKinds_213 : am_csV M_X9_hashOfKinds 213 M_X7_sumIfOnly 1 := ⟨⟨by decide +kernel, w_68, w_679⟩, w_676, w_677, w_678⟩
theorem k_X10_bestDelay_175 : am_csV M_X10_bestDelay 175 M_X10_delayFor 0 := ⟨⟨by decide +kernel, w_77, w_1553⟩, w_1550, w_1552, w_44⟩
theorem k_X10_bestDelay_125 : am_csV M_X10_bestDelay 125 M_X10_says 1 := ⟨⟨by decide +kernel, w_77, w_1320⟩, w_1317, w_1319, w_19⟩
theorem k_X10_bestParameter_184 : am_csV M_X10_bestParameter 184 M_X10_isBlock 1 := ⟨⟨by decide +kernel, w_77, w_1577⟩, w_1574, w_1576, w_47⟩
theorem k_X10_bestParameter_53 : am_csV M_X10_bestParameter 53 M_X10_asks 1 := ⟨⟨by decide +kernel, w_77, w_1266⟩, w_1263, w_1265, w_14⟩
theorem k_X10_bestParameter_134 : am_csS M_X10_bestParameter 134 M_X10_isKind 1 := ⟨⟨by decide +kernel, w_77, w_1346⟩, w_1344, w_1345⟩
theorem k_X10_bestParameter_57 : am_csV M_X10_bestParameter 57 M_X10_asksThen 2 := ⟨⟨by decide +kernel, w_77, w_1281⟩, w_1278, w_1280, w_15⟩
theorem k_X10_bestParameter_187 : am_csV M_X10_bestParameter 187 M_X10_parameterBy 2 := ⟨⟨by decide +kernel, w_77, w_1585⟩, w_1582, w_1584, w_48⟩
theorem k_X10_bitsOnly_46 : am_csS M_X10_bitsOnly 46 M_X10_blocksOf 1 := ⟨⟨by decide +kernel, w_77, w_1365⟩, w_1363, w_1364⟩
theorem k_X10_bitsOnly_109 : am_csV M_X10_bitsOnly 109 M_X10_fewest 2 := ⟨⟨by decide +kernel, w_77, w_1373⟩, w_1370, w_1372, w_25⟩
theorem k_X10_firstError_242 : am_csV M_X10_firstError 242 M_X10_tells 0 := ⟨⟨by decide +kernel, w_77, w_1676⟩, w_1673, w_1675, w_55⟩
theorem k_X10_firstError_125 : am_csV M_X10_firstError 125 M_X10_says 1 := ⟨⟨by decide +kernel, w_77, w_1320⟩, w_1317, w_1319, w_19⟩
theorem k_X10_kindFor_109 : am_csV M_X10_kindFor 109 M_X10_fewest 2 := ⟨⟨by decide +kernel, w_77, w_1373⟩, w_1370, w_1372, w_25⟩
theorem k_X10_kindFor_112 : am_csV M_X10_kindFor 112 M_X10_isAllowed 1 := ⟨⟨by decide +kernel, w_77, w_1354⟩, w_1351, w_1353, w_22⟩
theorem k_X9_digest_192 : am_csV M_X9_digest 192 M_X7_weighBlocks 0 := ⟨⟨by decide +kernel, w_68, w_489⟩, w_486, w_487, w_488⟩
theorem k_X9_digest_283 : am_csV M_X9_digest 283 M_X9_hashOfAll 1 := ⟨⟨by decide +kernel, w_67, w_643⟩, w_640, w_642, w_0⟩
theorem k_X9_digest_287 : am_csV M_X9_digest 287 M_X9_hashOfKinds 1 := ⟨⟨by decide +kernel, w_67, w_667⟩, w_664, w_666, w_1⟩
theorem k_X9_digest_290 : am_csV M_X9_digest 290 M_X9_hashOfSamples 1 := ⟨⟨by decide +kernel, w_67, w_683⟩, w_680, w_682, w_2⟩
theorem k_X9_digest_293 : am_csV M_X9_digest 293 M_X9_hashOfBlocks 1 := ⟨⟨by decide +kernel, w_67, w_688⟩, w_685, w_687, w_3⟩
theorem k_X9_digest_296 : am_csV M_X9_digest 296 M_X9_hashOfLetter 1 := ⟨⟨by decide +kernel, w_67, w_697⟩, w_694, w_696, w_4⟩
theorem k_X9_firstError_263 : am_csV M_X9_firstError 263 M_X8_findFault 0 := ⟨⟨by decide +kernel, w_74, w_602⟩, w_599, w_600, w_601⟩
theorem k_X10_allBits_46 : am_csS M_X10_allBits 46 M_X10_blocksOf 1 := ⟨⟨by decide +kernel, w_77, w_1365⟩, w_1363, w_1364⟩
theorem k_X10_allBits_116 : am_csV M_X10_allBits 116 M_X10_kindFor 1 := ⟨⟨by decide +kernel, w_77, w_1369⟩, w_1366, w_1368, w_24⟩
theorem k_X10_allBits_109 : am_csV M_X10_allBits 109 M_X10_fewest 2 := ⟨⟨by decide +kernel, w_77, w_1373⟩, w_1370, w_1372, w_25⟩
theorem k_X10_bestKind_184 : am_csV M_X10_bestKind 184 M_X10_isBlock 1 := ⟨⟨by decide +kernel, w_77, w_1577⟩, w_1574, w_1576, w_47⟩
theorem k_X10_bestKind_53 : am_csV M_X10_bestKind 53 M_X10_asks 1 := ⟨⟨by decide +kernel, w_77, w_1266⟩, w_1263, w_1265, w_14⟩
theorem k_X10_bestKind_116 : am_csV M_X10_bestKind 116 M_X10_kindFor 1 := ⟨⟨by decide +kernel, w_77, w_1369⟩, w_1366, w_1368, w_24⟩
theorem k_X10_bitsIfOnly_134 : am_csS M_X10_bitsIfOnly 134 M_X10_isKind 1 := ⟨⟨by decide +kernel, w_77, w_1346⟩, w_1344, w_1345⟩
theorem k_X10_bitsIfOnly_53 : am_csV M_X10_bitsIfOnly 53 M_X10_asks 1 := ⟨⟨by decide +kernel, w_77, w_1266⟩, w_1263, w_1265, w_14⟩
theorem k_X10_bitsIfOnly_199 : am_csV M_X10_bitsIfOnly 199 M_X10_bitsOnly 1 := ⟨⟨by decide +kernel, w_77, w_1625⟩, w_1622, w_1624, w_52⟩
theorem k_X10_blocksBy_46 : am_csS M_X10_blocksBy 46 M_X10_blocksOf 1 := ⟨⟨by decide +kernel, w_77, w_1365⟩, w_1363, w_1364⟩
theorem k_X10_blocksBy_116 : am_csV M_X10_blocksBy 116 M_X10_kindFor 1 := ⟨⟨by decide +kernel, w_77, w_1369⟩, w_1366, w_1368, w_24⟩
theorem k_X10_sends_46 : am_csS M_X10_sends 46 M_X10_blocksOf 1 := ⟨⟨by decide +kernel, w_77, w_1365⟩, w_1363, w_1364⟩
theorem k_X10_sends_116 : am_csV M_X10_sends 116 M_X10_kindFor 1 := ⟨⟨by decide +kernel, w_77, w_1369⟩, w_1366, w_1368, w_24⟩
theorem k_X10_sends_103 : am_csV M_X10_sends 103 M_X10_leavesBy 1 := ⟨⟨by decide +kernel, w_77, w_1377⟩, w_1374, w_1376, w_26⟩
theorem k_X10_sends_106 : am_csV M_X10_sends 106 M_X10_parameterFor 1 := ⟨⟨by decide +kernel, w_77, w_1403⟩, w_1400, w_1402, w_31⟩
theorem k_X10_sends_140 : am_csV M_X10_sends 140 M_X10_letterLength 0 := ⟨⟨by decide +kernel, w_77, w_1417⟩, w_1414, w_1416, w_33⟩
theorem k_X10_whyFor_116 : am_csV M_X10_whyFor 116 M_X10_kindFor 1 := ⟨⟨by decide +kernel, w_77, w_1369⟩, w_1366, w_1368, w_24⟩
theorem k_X10_whyFor_109 : am_csV M_X10_whyFor 109 M_X10_fewest 2 := ⟨⟨by decide +kernel, w_77, w_1373⟩, w_1370, w_1372, w_25⟩
theorem k_X10_whyFor_112 : am_csV M_X10_whyFor 112 M_X10_isAllowed 1 := ⟨⟨by decide +kernel, w_77, w_1354⟩, w_1351, w_1353, w_22⟩
theorem k_X9_add_58 : am_csS M_X9_add 58 M_X9_isWithin 3 := ⟨⟨by decide +kernel, w_67, w_731⟩, w_729, w_730⟩
theorem k_X9_add_62 : am_csS M_X9_add 62 M_X9_needArgument 1 := ⟨⟨by decide +kernel, w_67, w_734⟩, w_732, w_733⟩
theorem k_X9_add_66 : am_csV M_X9_add 66 M_X6_hasRoomFor 1 := ⟨⟨by decide +kernel, w_69, w_806⟩, w_803, w_804, w_805⟩
theorem k_X9_add_72 : am_csS M_X9_add 72 M_X9_needPossible 1 := ⟨⟨by decide +kernel, w_67, w_809⟩, w_807, w_808⟩
theorem k_X9_add_75 : am_csV M_X9_add 75 M_X1_save 1 := ⟨⟨by decide +kernel, w_72, w_374⟩, w_371, w_372, w_373⟩
theorem k_X9_add_79 : am_csV M_X9_add 79 M_X6_put 1 := ⟨⟨by decide +kernel, w_69, w_829⟩, w_826, w_827, w_828⟩
theorem k_X9_append_58 : am_csS M_X9_append 58 M_X9_isWithin 3 := ⟨⟨by decide +kernel, w_67, w_731⟩, w_729, w_730⟩
theorem k_X9_append_62 : am_csS M_X9_append 62 M_X9_needArgument 1 := ⟨⟨by decide +kernel, w_67, w_734⟩, w_732, w_733⟩
theorem k_X9_append_72 : am_csS M_X9_append 72 M_X9_needPossible 1 := ⟨⟨by decide +kernel, w_67, w_809⟩, w_807, w_808⟩
theorem k_X9_append_262 : am_csV M_X9_append 262 M_X8_put 1 := ⟨⟨by decide +kernel, w_74, w_1161⟩, w_1158, w_1159, w_1160⟩
theorem k_X9_bestFirst_58 : am_csS M_X9_bestFirst 58 M_X9_isWithin 3 := ⟨⟨by decide +kernel, w_67, w_731⟩, w_729, w_730⟩
theorem k_X9_bestFirst_62 : am_csS M_X9_bestFirst 62 M_X9_needArgument 1 := ⟨⟨by decide +kernel, w_67, w_734⟩, w_732, w_733⟩
theorem k_X9_bestFirst_183 : am_csV M_X9_bestFirst 183 M_X7_findFirst 1 := ⟨⟨by decide +kernel, w_68, w_651⟩, w_648, w_649, w_650⟩
theorem k_X9_bestKind_186 : am_csV M_X9_bestKind 186 M_X9_isBlock 1 := ⟨⟨by decide +kernel, w_67, w_1017⟩, w_1014, w_1016, w_8⟩
theorem k_X9_bestKind_97 : am_csS M_X9_bestKind 97 M_X9_needIndex 1 := ⟨⟨by decide +kernel, w_67, w_849⟩, w_847, w_848⟩
theorem k_X9_bestKind_192 : am_csV M_X9_bestKind 192 M_X7_weighBlocks 0 := ⟨⟨by decide +kernel, w_68, w_489⟩, w_486, w_487, w_488⟩
theorem k_X9_bestKind_198 : am_csV M_X9_bestKind 198 M_X7_kindFor 1 := ⟨⟨by decide +kernel, w_68, w_527⟩, w_689, w_525, w_526⟩
theorem k_X9_bestParameter_186 : am_csV M_X9_bestParameter 186 M_X9_isBlock 1 := ⟨⟨by decide +kernel, w_67, w_1017⟩, w_1014, w_1016, w_8⟩
theorem k_X9_bestParameter_97 : am_csS M_X9_bestParameter 97 M_X9_needIndex 1 := ⟨⟨by decide +kernel, w_67, w_849⟩, w_847, w_848⟩
theorem k_X9_bestParameter_113 : am_csS M_X9_bestParameter 113 M_X9_isKind 1 := ⟨⟨by decide +kernel, w_67, w_903⟩, w_901, w_902⟩
theorem k_X9_bestParameter_62 : am_csS M_X9_bestParameter 62 M_X9_needArgument 1 := ⟨⟨by decide +kernel, w_67, w_734⟩, w_732, w_733⟩
theorem k_X9_bestParameter_192 : am_csV M_X9_bestParameter 192 M_X7_weighBlocks 0 := ⟨⟨by decide +kernel, w_68, w_489⟩, w_486, w_487, w_488⟩
theorem k_X9_bitsIfOnly_113 : am_csS M_X9_bitsIfOnly 113 M_X9_isKind 1 := ⟨⟨by decide +kernel, w_67, w_903⟩, w_901, w_902⟩
theorem k_X9_bitsIfOnly_62 : am_csS M_X9_bitsIfOnly 62 M_X9_needArgument 1 := ⟨⟨by decide +kernel, w_67, w_734⟩, w_732, w_733⟩
theorem k_X9_bitsIfOnly_192 : am_csV M_X9_bitsIfOnly 192 M_X7_weighBlocks 0 := ⟨⟨by decide +kernel, w_68, w_489⟩, w_486, w_487, w_488⟩
theorem k_X9_bitsIfOnly_213 : am_csV M_X9_bitsIfOnly 213 M_X7_sumIfOnly 1 := ⟨⟨by decide +kernel, w_68, w_679⟩, w_676, w_677, w_678⟩
theorem k_X9_bitsWith_186 : am_csV M_X9_bitsWith 186 M_X9_isBlock 1 := ⟨⟨by decide +kernel, w_67, w_1017⟩, w_1014, w_1016, w_8⟩
theorem k_X9_bitsWith_97 : am_csS M_X9_bitsWith 97 M_X9_needIndex 1 := ⟨⟨by decide +kernel, w_67, w_849⟩, w_847, w_848⟩
theorem k_X9_bitsWith_113 : am_csS M_X9_bitsWith 113 M_X9_isKind 1 := ⟨⟨by decide +kernel, w_67, w_903⟩, w_901, w_902⟩
theorem k_X9_bitsWith_62 : am_csS M_X9_bitsWith 62 M_X9_needArgument 1 := ⟨⟨by decide +kernel, w_67, w_734⟩, w_732, w_733⟩
theorem k_X9_bitsWith_58 : am_csS M_X9_bitsWith 58 M_X9_isWithin 3 := ⟨⟨by decide +kernel, w_67, w_731⟩, w_729, w_730⟩
theorem k_X9_bitsWith_154 : am_csV M_X9_bitsWith 154 M_X7_follow 0 := ⟨⟨by decide +kernel, w_68, w_493⟩, w_924, w_491, w_492⟩
theorem k_X9_bitsWith_189 : am_csV M_X9_bitsWith 189 M_X7_countBits 3 := ⟨⟨by decide +kernel, w_68, w_506⟩, w_1018, w_504, w_505⟩
theorem k_X9_blocksWith_113 : am_csS M_X9_blocksWith 113 M_X9_isKind 1 := ⟨⟨by decide +kernel, w_67, w_903⟩, w_901, w_902⟩
theorem k_X9_blocksWith_62 : am_csS M_X9_blocksWith 62 M_X9_needArgument 1 := ⟨⟨by decide +kernel, w_67, w_734⟩, w_732, w_733⟩
theorem k_X9_blocksWith_192 : am_csV M_X9_blocksWith 192 M_X7_weighBlocks 0 := ⟨⟨by decide +kernel, w_68, w_489⟩, w_486, w_487, w_488⟩
theorem k_X9_blocksWith_210 : am_csV M_X9_blocksWith 210 M_X7_countBlocksWith 1 := ⟨⟨by decide +kernel, w_68, w_675⟩, w_672, w_673, w_674⟩
theorem k_X9_change_58 : am_csS M_X9_change 58 M_X9_isWithin 3 := ⟨⟨by decide +kernel, w_67, w_731⟩, w_729, w_730⟩
theorem k_X9_change_97 : am_csS M_X9_change 97 M_X9_needIndex 1 := ⟨⟨by decide +kernel, w_67, w_849⟩, w_847, w_848⟩
theorem k_X9_change_62 : am_csS M_X9_change 62 M_X9_needArgument 1 := ⟨⟨by decide +kernel, w_67, w_734⟩, w_732, w_733⟩
theorem k_X9_change_75 : am_csV M_X9_change 75 M_X1_save 1 := ⟨⟨by decide +kernel, w_72, w_374⟩, w_371, w_372, w_373⟩
theorem k_X9_change_87 : am_csV M_X9_change 87 M_X6_soundAt 1 := ⟨⟨by decide +kernel, w_69, w_421⟩, w_418, w_419, w_420⟩
theorem k_X9_doWorks_263 : am_csV M_X9_doWorks 263 M_X8_findFault 0 := ⟨⟨by decide +kernel, w_74, w_602⟩, w_599, w_600, w_601⟩
theorem k_X9_doWorks_72 : am_csS M_X9_doWorks 72 M_X9_needPossible 1 := ⟨⟨by decide +kernel, w_67, w_809⟩, w_807, w_808⟩
theorem k_X9_doWorks_75 : am_csV M_X9_doWorks 75 M_X1_save 1 := ⟨⟨by decide +kernel, w_72, w_374⟩, w_371, w_372, w_373⟩
theorem k_X9_doWorks_269 : am_csV M_X9_doWorks 269 M_X8_readWork 0 := ⟨⟨by decide +kernel, w_74, w_606⟩, w_1169, w_604, w_605⟩
theorem k_X9_doWorks_272 : am_csV M_X9_doWorks 272 M_X9_doWork 0 := ⟨⟨by decide +kernel, w_67, w_1173⟩, w_1170, w_1172, w_9⟩
theorem k_X9_doWorks_275 : am_csV M_X9_doWorks 275 M_X8_take 1 := ⟨⟨by decide +kernel, w_74, w_614⟩, w_1190, w_612, w_613⟩
theorem k_X9_drop_72 : am_csS M_X9_drop 72 M_X9_needPossible 1 := ⟨⟨by decide +kernel, w_67, w_809⟩, w_807, w_808⟩
theorem k_X9_drop_75 : am_csV M_X9_drop 75 M_X1_save 1 := ⟨⟨by decide +kernel, w_72, w_374⟩, w_371, w_372, w_373⟩
theorem k_X9_echo_58 : am_csS M_X9_echo 58 M_X9_isWithin 3 := ⟨⟨by decide +kernel, w_67, w_731⟩, w_729, w_730⟩
theorem k_X9_echo_62 : am_csS M_X9_echo 62 M_X9_needArgument 1 := ⟨⟨by decide +kernel, w_67, w_734⟩, w_732, w_733⟩
theorem k_X9_echo_66 : am_csV M_X9_echo 66 M_X6_hasRoomFor 1 := ⟨⟨by decide +kernel, w_69, w_806⟩, w_803, w_804, w_805⟩
theorem k_X9_echo_72 : am_csS M_X9_echo 72 M_X9_needPossible 1 := ⟨⟨by decide +kernel, w_67, w_809⟩, w_807, w_808⟩
theorem k_X9_echo_75 : am_csV M_X9_echo 75 M_X1_save 1 := ⟨⟨by decide +kernel, w_72, w_374⟩, w_371, w_372, w_373⟩
theorem k_X9_echo_87 : am_csV M_X9_echo 87 M_X6_soundAt 1 := ⟨⟨by decide +kernel, w_69, w_421⟩, w_418, w_419, w_420⟩
theorem k_X9_echo_91 : am_csS M_X9_echo 91 M_J9_floorDiv_7cf53 2 := ⟨⟨by decide +kernel, w_84, w_453⟩, w_838, w_452⟩
theorem k_X9_echo_79 : am_csV M_X9_echo 79 M_X6_put 1 := ⟨⟨by decide +kernel, w_69, w_829⟩, w_826, w_827, w_828⟩
theorem k_X9_firstWeight_58 : am_csS M_X9_firstWeight 58 M_X9_isWithin 3 := ⟨⟨by decide +kernel, w_67, w_731⟩, w_729, w_730⟩
theorem k_X9_firstWeight_62 : am_csS M_X9_firstWeight 62 M_X9_needArgument 1 := ⟨⟨by decide +kernel, w_67, w_734⟩, w_732, w_733⟩
theorem k_X9_foretold_58 : am_csS M_X9_foretold 58 M_X9_isWithin 3 := ⟨⟨by decide +kernel, w_67, w_731⟩, w_729, w_730⟩
theorem k_X9_foretold_97 : am_csS M_X9_foretold 97 M_X9_needIndex 1 := ⟨⟨by decide +kernel, w_67, w_849⟩, w_847, w_848⟩
theorem k_X9_foretold_113 : am_csS M_X9_foretold 113 M_X9_isKind 1 := ⟨⟨by decide +kernel, w_67, w_903⟩, w_901, w_902⟩
theorem k_X9_foretold_62 : am_csS M_X9_foretold 62 M_X9_needArgument 1 := ⟨⟨by decide +kernel, w_67, w_734⟩, w_732, w_733⟩
theorem k_X9_foretold_154 : am_csV M_X9_foretold 154 M_X7_follow 0 := ⟨⟨by decide +kernel, w_68, w_493⟩, w_924, w_491, w_492⟩
theorem k_X9_goBack_58 : am_csS M_X9_goBack 58 M_X9_isWithin 3 := ⟨⟨by decide +kernel, w_67, w_731⟩, w_729, w_730⟩
theorem k_X9_goBack_97 : am_csS M_X9_goBack 97 M_X9_needIndex 1 := ⟨⟨by decide +kernel, w_67, w_849⟩, w_847, w_848⟩
theorem k_X9_goBack_253 : am_csV M_X9_goBack 253 M_X5_has 1 := ⟨⟨by decide +kernel, w_73, w_1146⟩, w_1143, w_1144, w_1145⟩
theorem k_X9_goBack_72 : am_csS M_X9_goBack 72 M_X9_needPossible 1 := ⟨⟨by decide +kernel, w_67, w_809⟩, w_807, w_808⟩
theorem k_X9_goBack_75 : am_csV M_X9_goBack 75 M_X1_save 1 := ⟨⟨by decide +kernel, w_72, w_374⟩, w_371, w_372, w_373⟩
theorem k_X9_goBack_256 : am_csV M_X9_goBack 256 M_X5_restore 2 := ⟨⟨by decide +kernel, w_73, w_1150⟩, w_1147, w_1148, w_1149⟩
theorem k_X9_harm_139 : am_csV M_X9_harm 139 M_X9_isTold 1 := ⟨⟨by decide +kernel, w_67, w_937⟩, w_934, w_936, w_7⟩
theorem k_X9_harm_97 : am_csS M_X9_harm 97 M_X9_needIndex 1 := ⟨⟨by decide +kernel, w_67, w_849⟩, w_847, w_848⟩
theorem k_X9_harm_229 : am_csV M_X9_harm 229 M_X4_read 2 := ⟨⟨by decide +kernel, w_75, w_562⟩, w_559, w_560, w_561⟩
theorem k_X9_harm_240 : am_csV M_X9_harm 240 M_X4_countUnlike 1 := ⟨⟨by decide +kernel, w_75, w_570⟩, w_567, w_568, w_569⟩
theorem k_X9_heard_139 : am_csV M_X9_heard 139 M_X9_isTold 1 := ⟨⟨by decide +kernel, w_67, w_937⟩, w_934, w_936, w_7⟩
theorem k_X9_heard_97 : am_csS M_X9_heard 97 M_X9_needIndex 1 := ⟨⟨by decide +kernel, w_67, w_849⟩, w_847, w_848⟩
theorem k_X9_heard_229 : am_csV M_X9_heard 229 M_X4_read 2 := ⟨⟨by decide +kernel, w_75, w_562⟩, w_559, w_560, w_561⟩
theorem k_X9_heard_233 : am_csV M_X9_heard 233 M_X4_heardAt 1 := ⟨⟨by decide +kernel, w_75, w_574⟩, w_698, w_572, w_573⟩
theorem k_X9_heardByBits_139 : am_csV M_X9_heardByBits 139 M_X9_isTold 1 := ⟨⟨by decide +kernel, w_67, w_937⟩, w_934, w_936, w_7⟩
theorem k_X9_heardByBits_97 : am_csS M_X9_heardByBits 97 M_X9_needIndex 1 := ⟨⟨by decide +kernel, w_67, w_849⟩, w_847, w_848⟩
theorem k_X9_heardByBits_222 : am_csV M_X9_heardByBits 222 M_X3_write 1 := ⟨⟨by decide +kernel, w_76, w_702⟩, w_699, w_700, w_701⟩
theorem k_X9_heardByBits_236 : am_csV M_X9_heardByBits 236 M_X4_readBits 2 := ⟨⟨by decide +kernel, w_75, w_1099⟩, w_1096, w_1097, w_1098⟩
theorem k_X9_heardByBits_233 : am_csV M_X9_heardByBits 233 M_X4_heardAt 1 := ⟨⟨by decide +kernel, w_75, w_574⟩, w_698, w_572, w_573⟩
theorem k_X9_keep_58 : am_csS M_X9_keep 58 M_X9_isWithin 3 := ⟨⟨by decide +kernel, w_67, w_731⟩, w_729, w_730⟩
theorem k_X9_keep_97 : am_csS M_X9_keep 97 M_X9_needIndex 1 := ⟨⟨by decide +kernel, w_67, w_849⟩, w_847, w_848⟩
theorem k_X9_keep_250 : am_csV M_X9_keep 250 M_X5_put 2 := ⟨⟨by decide +kernel, w_73, w_1134⟩, w_1131, w_1132, w_1133⟩
theorem k_X9_leftOver_58 : am_csS M_X9_leftOver 58 M_X9_isWithin 3 := ⟨⟨by decide +kernel, w_67, w_731⟩, w_729, w_730⟩
theorem k_X9_leftOver_97 : am_csS M_X9_leftOver 97 M_X9_needIndex 1 := ⟨⟨by decide +kernel, w_67, w_849⟩, w_847, w_848⟩
theorem k_X9_leftOver_113 : am_csS M_X9_leftOver 113 M_X9_isKind 1 := ⟨⟨by decide +kernel, w_67, w_903⟩, w_901, w_902⟩
theorem k_X9_leftOver_62 : am_csS M_X9_leftOver 62 M_X9_needArgument 1 := ⟨⟨by decide +kernel, w_67, w_734⟩, w_732, w_733⟩
theorem k_X9_leftOver_154 : am_csV M_X9_leftOver 154 M_X7_follow 0 := ⟨⟨by decide +kernel, w_68, w_493⟩, w_924, w_491, w_492⟩
theorem k_X9_leftOver_167 : am_csV M_X9_leftOver 167 M_X7_leftBy 2 := ⟨⟨by decide +kernel, w_68, w_513⟩, w_684, w_511, w_512⟩
theorem k_X9_letterBit_133 : am_csV M_X9_letterBit 133 M_X2_countBits 0 := ⟨⟨by decide +kernel, w_70, w_551⟩, w_548, w_549, w_550⟩
theorem k_X9_letterBit_58 : am_csS M_X9_letterBit 58 M_X9_isWithin 3 := ⟨⟨by decide +kernel, w_67, w_731⟩, w_729, w_730⟩
theorem k_X9_letterBit_97 : am_csS M_X9_letterBit 97 M_X9_needIndex 1 := ⟨⟨by decide +kernel, w_67, w_849⟩, w_847, w_848⟩
theorem k_X9_letterBit_222 : am_csV M_X9_letterBit 222 M_X3_write 1 := ⟨⟨by decide +kernel, w_76, w_702⟩, w_699, w_700, w_701⟩
theorem k_X9_letterBit_226 : am_csV M_X9_letterBit 226 M_X3_isOne 1 := ⟨⟨by decide +kernel, w_76, w_719⟩, w_716, w_717, w_718⟩
theorem k_X9_letterKind_145 : am_csS M_X9_letterKind 145 M_X9_blocksOf 1 := ⟨⟨by decide +kernel, w_67, w_401⟩, w_399, w_400⟩
theorem k_X9_letterKind_58 : am_csS M_X9_letterKind 58 M_X9_isWithin 3 := ⟨⟨by decide +kernel, w_67, w_731⟩, w_729, w_730⟩
theorem k_X9_letterKind_97 : am_csS M_X9_letterKind 97 M_X9_needIndex 1 := ⟨⟨by decide +kernel, w_67, w_849⟩, w_847, w_848⟩
theorem k_X9_letterLeft_139 : am_csV M_X9_letterLeft 139 M_X9_isTold 1 := ⟨⟨by decide +kernel, w_67, w_937⟩, w_934, w_936, w_7⟩
theorem k_X9_letterLeft_97 : am_csS M_X9_letterLeft 97 M_X9_needIndex 1 := ⟨⟨by decide +kernel, w_67, w_849⟩, w_847, w_848⟩
theorem k_X9_letterParameter_145 : am_csS M_X9_letterParameter 145 M_X9_blocksOf 1 := ⟨⟨by decide +kernel, w_67, w_401⟩, w_399, w_400⟩
theorem k_X9_letterParameter_58 : am_csS M_X9_letterParameter 58 M_X9_isWithin 3 := ⟨⟨by decide +kernel, w_67, w_731⟩, w_729, w_730⟩
theorem k_X9_letterParameter_97 : am_csS M_X9_letterParameter 97 M_X9_needIndex 1 := ⟨⟨by decide +kernel, w_67, w_849⟩, w_847, w_848⟩
theorem k_X9_sampleAt_58 : am_csS M_X9_sampleAt 58 M_X9_isWithin 3 := ⟨⟨by decide +kernel, w_67, w_731⟩, w_729, w_730⟩
theorem k_X9_sampleAt_97 : am_csS M_X9_sampleAt 97 M_X9_needIndex 1 := ⟨⟨by decide +kernel, w_67, w_849⟩, w_847, w_848⟩
theorem k_X9_sampleAt_87 : am_csV M_X9_sampleAt 87 M_X6_soundAt 1 := ⟨⟨by decide +kernel, w_69, w_421⟩, w_418, w_419, w_420⟩
theorem k_X9_send_72 : am_csS M_X9_send 72 M_X9_needPossible 1 := ⟨⟨by decide +kernel, w_67, w_809⟩, w_807, w_808⟩
theorem k_X9_send_75 : am_csV M_X9_send 75 M_X1_save 1 := ⟨⟨by decide +kernel, w_72, w_374⟩, w_371, w_372, w_373⟩
theorem k_X9_send_125 : am_csV M_X9_send 125 M_X9_writeLetter 0 := ⟨⟨by decide +kernel, w_67, w_923⟩, w_920, w_922, w_6⟩
theorem k_X9_send_133 : am_csV M_X9_send 133 M_X2_countBits 0 := ⟨⟨by decide +kernel, w_70, w_551⟩, w_548, w_549, w_550⟩
theorem k_X9_setDelay_58 : am_csS M_X9_setDelay 58 M_X9_isWithin 3 := ⟨⟨by decide +kernel, w_67, w_731⟩, w_729, w_730⟩
theorem k_X9_setDelay_62 : am_csS M_X9_setDelay 62 M_X9_needArgument 1 := ⟨⟨by decide +kernel, w_67, w_734⟩, w_732, w_733⟩
theorem k_X9_setDelay_75 : am_csV M_X9_setDelay 75 M_X1_save 1 := ⟨⟨by decide +kernel, w_72, w_374⟩, w_371, w_372, w_373⟩
theorem k_X9_setSpeed_58 : am_csS M_X9_setSpeed 58 M_X9_isWithin 3 := ⟨⟨by decide +kernel, w_67, w_731⟩, w_729, w_730⟩
theorem k_X9_setSpeed_62 : am_csS M_X9_setSpeed 62 M_X9_needArgument 1 := ⟨⟨by decide +kernel, w_67, w_734⟩, w_732, w_733⟩
theorem k_X9_setSpeed_75 : am_csV M_X9_setSpeed 75 M_X1_save 1 := ⟨⟨by decide +kernel, w_72, w_374⟩, w_371, w_372, w_373⟩
theorem k_X9_setWeight_58 : am_csS M_X9_setWeight 58 M_X9_isWithin 3 := ⟨⟨by decide +kernel, w_67, w_731⟩, w_729, w_730⟩
theorem k_X9_setWeight_62 : am_csS M_X9_setWeight 62 M_X9_needArgument 1 := ⟨⟨by decide +kernel, w_67, w_734⟩, w_732, w_733⟩
theorem k_X9_setWeight_75 : am_csV M_X9_setWeight 75 M_X1_save 1 := ⟨⟨by decide +kernel, w_72, w_374⟩, w_371, w_372, w_373⟩
theorem k_X9_sumOf_113 : am_csS M_X9_sumOf 113 M_X9_isKind 1 := ⟨⟨by decide +kernel, w_67, w_903⟩, w_901, w_902⟩
theorem k_X9_sumOf_62 : am_csS M_X9_sumOf 62 M_X9_needArgument 1 := ⟨⟨by decide +kernel, w_67, w_734⟩, w_732, w_733⟩
theorem k_X9_sumOf_170 : am_csV M_X9_sumOf 170 M_X7_sumBy 1 := ⟨⟨by decide +kernel, w_68, w_671⟩, w_668, w_669, w_670⟩
theorem k_X9_sumWithDelay_58 : am_csS M_X9_sumWithDelay 58 M_X9_isWithin 3 := ⟨⟨by decide +kernel, w_67, w_731⟩, w_729, w_730⟩
theorem k_X9_sumWithDelay_62 : am_csS M_X9_sumWithDelay 62 M_X9_needArgument 1 := ⟨⟨by decide +kernel, w_67, w_734⟩, w_732, w_733⟩
theorem k_X9_sumWithDelay_173 : am_csV M_X9_sumWithDelay 173 M_X7_sumIf 4 := ⟨⟨by decide +kernel, w_68, w_437⟩, w_999, w_435, w_436⟩
theorem k_X9_tamper_139 : am_csV M_X9_tamper 139 M_X9_isTold 1 := ⟨⟨by decide +kernel, w_67, w_937⟩, w_934, w_936, w_7⟩
theorem k_X9_tamper_97 : am_csS M_X9_tamper 97 M_X9_needIndex 1 := ⟨⟨by decide +kernel, w_67, w_849⟩, w_847, w_848⟩
theorem k_X9_tamper_58 : am_csS M_X9_tamper 58 M_X9_isWithin 3 := ⟨⟨by decide +kernel, w_67, w_731⟩, w_729, w_730⟩
theorem k_X9_tamper_62 : am_csS M_X9_tamper 62 M_X9_needArgument 1 := ⟨⟨by decide +kernel, w_67, w_734⟩, w_732, w_733⟩
theorem k_X9_tamper_75 : am_csV M_X9_tamper 75 M_X1_save 1 := ⟨⟨by decide +kernel, w_72, w_374⟩, w_371, w_372, w_373⟩
theorem k_X9_turnKind_113 : am_csS M_X9_turnKind 113 M_X9_isKind 1 := ⟨⟨by decide +kernel, w_67, w_903⟩, w_901, w_902⟩
theorem k_X9_turnKind_62 : am_csS M_X9_turnKind 62 M_X9_needArgument 1 := ⟨⟨by decide +kernel, w_67, w_734⟩, w_732, w_733⟩
theorem k_X9_turnKind_116 : am_csV M_X9_turnKind 116 M_X6_canTurn 1 := ⟨⟨by decide +kernel, w_69, w_907⟩, w_904, w_905, w_906⟩
theorem k_X9_turnKind_72 : am_csS M_X9_turnKind 72 M_X9_needPossible 1 := ⟨⟨by decide +kernel, w_67, w_809⟩, w_807, w_808⟩
theorem k_X9_turnKind_75 : am_csV M_X9_turnKind 75 M_X1_save 1 := ⟨⟨by decide +kernel, w_72, w_374⟩, w_371, w_372, w_373⟩
theorem k_X9_turnKind_119 : am_csV M_X9_turnKind 119 M_X6_turn 1 := ⟨⟨by decide +kernel, w_69, w_911⟩, w_908, w_909, w_910⟩
theorem k_X9_turnKind_122 : am_csV M_X9_turnKind 122 M_X6_allows 1 := ⟨⟨by decide +kernel, w_69, w_531⟩, w_912, w_529, w_530⟩
theorem k_X9_undo_72 : am_csS M_X9_undo 72 M_X9_needPossible 1 := ⟨⟨by decide +kernel, w_67, w_809⟩, w_807, w_808⟩
theorem k_X9_undo_279 : am_csV M_X9_undo 279 M_X1_restore 1 := ⟨⟨by decide +kernel, w_72, w_1201⟩, w_1198, w_1199, w_1200⟩
theorem k_X9_weightAt_58 : am_csS M_X9_weightAt 58 M_X9_isWithin 3 := ⟨⟨by decide +kernel, w_67, w_731⟩, w_729, w_730⟩
theorem k_X9_weightAt_97 : am_csS M_X9_weightAt 97 M_X9_needIndex 1 := ⟨⟨by decide +kernel, w_67, w_849⟩, w_847, w_848⟩
theorem k_X9_weightAt_62 : am_csS M_X9_weightAt 62 M_X9_needArgument 1 := ⟨⟨by decide +kernel, w_67, w_734⟩, w_732, w_733⟩
theorem k_X9_weightAt_154 : am_csV M_X9_weightAt 154 M_X7_follow 0 := ⟨⟨by decide +kernel, w_68, w_493⟩, w_924, w_491, w_492⟩
theorem k_X9_weightByCounting_58 : am_csS M_X9_weightByCounting 58 M_X9_isWithin 3 := ⟨⟨by decide +kernel, w_67, w_731⟩, w_729, w_730⟩
theorem k_X9_weightByCounting_97 : am_csS M_X9_weightByCounting 97 M_X9_needIndex 1 := ⟨⟨by decide +kernel, w_67, w_849⟩, w_847, w_848⟩
theorem k_X9_weightByCounting_62 : am_csS M_X9_weightByCounting 62 M_X9_needArgument 1 := ⟨⟨by decide +kernel, w_67, w_734⟩, w_732, w_733⟩
theorem k_X9_weightByCounting_154 : am_csV M_X9_weightByCounting 154 M_X7_follow 0 := ⟨⟨by decide +kernel, w_68, w_493⟩, w_924, w_491, w_492⟩
theorem k_X9_weightByCounting_161 : am_csV M_X9_weightByCounting 161 M_X7_countRises 2 := ⟨⟨by decide +kernel, w_68, w_969⟩, w_966, w_967, w_968⟩
theorem k_X9_whyBest_186 : am_csV M_X9_whyBest 186 M_X9_isBlock 1 := ⟨⟨by decide +kernel, w_67, w_1017⟩, w_1014, w_1016, w_8⟩
theorem k_X9_whyBest_97 : am_csS M_X9_whyBest 97 M_X9_needIndex 1 := ⟨⟨by decide +kernel, w_67, w_849⟩, w_847, w_848⟩
theorem k_X9_whyBest_192 : am_csV M_X9_whyBest 192 M_X7_weighBlocks 0 := ⟨⟨by decide +kernel, w_68, w_489⟩, w_486, w_487, w_488⟩
theorem k_X9_whyBest_201 : am_csV M_X9_whyBest 201 M_X7_reasonFor 1 := ⟨⟨by decide +kernel, w_68, w_693⟩, w_690, w_691, w_692⟩
theorem k_L_add_7 : am_csV M_L_add 7 M_X9_add 1 := ⟨⟨by decide +kernel, w_67, w_728⟩, w_725, w_726, w_727⟩
theorem k_L_append_122 : am_csV M_L_append 122 M_X9_append 1 := ⟨⟨by decide +kernel, w_67, w_1157⟩, w_1154, w_1155, w_1156⟩
theorem k_L_bestFirst_74 : am_csV M_L_bestFirst 74 M_X9_bestFirst 1 := ⟨⟨by decide +kernel, w_67, w_1006⟩, w_1003, w_1004, w_1005⟩
theorem k_L_bestKind_83 : am_csV M_L_bestKind 83 M_X9_bestKind 1 := ⟨⟨by decide +kernel, w_67, w_1032⟩, w_1029, w_1030, w_1031⟩
theorem k_L_bestParameter_80 : am_csV M_L_bestParameter 80 M_X9_bestParameter 2 := ⟨⟨by decide +kernel, w_67, w_1025⟩, w_1022, w_1023, w_1024⟩
theorem k_L_bitsIfOnly_92 : am_csV M_L_bitsIfOnly 92 M_X9_bitsIfOnly 1 := ⟨⟨by decide +kernel, w_67, w_1053⟩, w_1050, w_1051, w_1052⟩
theorem k_L_bitsWith_77 : am_csV M_L_bitsWith 77 M_X9_bitsWith 3 := ⟨⟨by decide +kernel, w_67, w_1013⟩, w_1010, w_1011, w_1012⟩
theorem k_L_blocksWith_89 : am_csV M_L_blocksWith 89 M_X9_blocksWith 1 := ⟨⟨by decide +kernel, w_67, w_1046⟩, w_1043, w_1044, w_1045⟩
theorem k_L_change_21 : am_csV M_L_change 21 M_X9_change 2 := ⟨⟨by decide +kernel, w_67, w_846⟩, w_843, w_844, w_845⟩
theorem k_L_doWorks_125 : am_csV M_L_doWorks 125 M_X9_doWorks 0 := ⟨⟨by decide +kernel, w_67, w_1168⟩, w_1165, w_1166, w_1167⟩
theorem k_L_drop_27 : am_csV M_L_drop 27 M_X9_drop 0 := ⟨⟨by decide +kernel, w_67, w_872⟩, w_869, w_870, w_871⟩
theorem k_L_echo_17 : am_csV M_L_echo 17 M_X9_echo 3 := ⟨⟨by decide +kernel, w_67, w_837⟩, w_834, w_835, w_836⟩
theorem k_L_firstWeight_53 : am_csV M_L_firstWeight 53 M_X9_firstWeight 1 := ⟨⟨by decide +kernel, w_67, w_951⟩, w_948, w_949, w_950⟩
theorem k_L_foretold_62 : am_csV M_L_foretold 62 M_X9_foretold 2 := ⟨⟨by decide +kernel, w_67, w_977⟩, w_974, w_975, w_976⟩
theorem k_L_goBack_119 : am_csV M_L_goBack 119 M_X9_goBack 1 := ⟨⟨by decide +kernel, w_67, w_1142⟩, w_1139, w_1140, w_1141⟩
theorem k_L_harm_113 : am_csV M_L_harm 113 M_X9_harm 1 := ⟨⟨by decide +kernel, w_67, w_1123⟩, w_1120, w_1121, w_1122⟩
theorem k_L_heard_107 : am_csV M_L_heard 107 M_X9_heard 1 := ⟨⟨by decide +kernel, w_67, w_1088⟩, w_1085, w_1086, w_1087⟩
theorem k_L_heardByBits_110 : am_csV M_L_heardByBits 110 M_X9_heardByBits 1 := ⟨⟨by decide +kernel, w_67, w_1095⟩, w_1092, w_1093, w_1094⟩
theorem k_L_keep_116 : am_csV M_L_keep 116 M_X9_keep 1 := ⟨⟨by decide +kernel, w_67, w_1130⟩, w_1127, w_1128, w_1129⟩
theorem k_L_leftOver_65 : am_csV M_L_leftOver 65 M_X9_leftOver 2 := ⟨⟨by decide +kernel, w_67, w_984⟩, w_981, w_982, w_983⟩
theorem k_L_letterBit_104 : am_csV M_L_letterBit 104 M_X9_letterBit 1 := ⟨⟨by decide +kernel, w_67, w_1081⟩, w_1078, w_1079, w_1080⟩
theorem k_L_letterKind_95 : am_csV M_L_letterKind 95 M_X9_letterKind 1 := ⟨⟨by decide +kernel, w_67, w_1060⟩, w_1057, w_1058, w_1059⟩
theorem k_L_letterLeft_101 : am_csV M_L_letterLeft 101 M_X9_letterLeft 1 := ⟨⟨by decide +kernel, w_67, w_1074⟩, w_1071, w_1072, w_1073⟩
theorem k_L_letterParameter_98 : am_csV M_L_letterParameter 98 M_X9_letterParameter 1 := ⟨⟨by decide +kernel, w_67, w_1067⟩, w_1064, w_1065, w_1066⟩
theorem k_L_sampleAt_50 : am_csV M_L_sampleAt 50 M_X9_sampleAt 1 := ⟨⟨by decide +kernel, w_67, w_944⟩, w_941, w_942, w_943⟩
theorem k_L_send_44 : am_csV M_L_send 44 M_X9_send 0 := ⟨⟨by decide +kernel, w_67, w_919⟩, w_916, w_917, w_918⟩
theorem k_L_setDelay_31 : am_csV M_L_setDelay 31 M_X9_setDelay 1 := ⟨⟨by decide +kernel, w_67, w_879⟩, w_876, w_877, w_878⟩
theorem k_L_setSpeed_34 : am_csV M_L_setSpeed 34 M_X9_setSpeed 1 := ⟨⟨by decide +kernel, w_67, w_886⟩, w_883, w_884, w_885⟩
theorem k_L_setWeight_37 : am_csV M_L_setWeight 37 M_X9_setWeight 2 := ⟨⟨by decide +kernel, w_67, w_893⟩, w_890, w_891, w_892⟩
theorem k_L_sumOf_68 : am_csV M_L_sumOf 68 M_X9_sumOf 1 := ⟨⟨by decide +kernel, w_67, w_991⟩, w_988, w_989, w_990⟩
theorem k_L_sumWithDelay_71 : am_csV M_L_sumWithDelay 71 M_X9_sumWithDelay 1 := ⟨⟨by decide +kernel, w_67, w_998⟩, w_995, w_996, w_997⟩
theorem k_L_tamper_47 : am_csV M_L_tamper 47 M_X9_tamper 2 := ⟨⟨by decide +kernel, w_67, w_933⟩, w_930, w_931, w_932⟩
theorem k_L_turnKind_40 : am_csV M_L_turnKind 40 M_X9_turnKind 1 := ⟨⟨by decide +kernel, w_67, w_900⟩, w_897, w_898, w_899⟩
theorem k_L_undo_128 : am_csV M_L_undo 128 M_X9_undo 0 := ⟨⟨by decide +kernel, w_67, w_1197⟩, w_1194, w_1195, w_1196⟩
theorem k_L_weightAt_56 : am_csV M_L_weightAt 56 M_X9_weightAt 2 := ⟨⟨by decide +kernel, w_67, w_958⟩, w_955, w_956, w_957⟩
theorem k_L_weightByCounting_59 : am_csV M_L_weightByCounting 59 M_X9_weightByCounting 2 := ⟨⟨by decide +kernel, w_67, w_965⟩, w_962, w_963, w_964⟩
theorem k_L_whyBest_86 : am_csV M_L_whyBest 86 M_X9_whyBest 1 := ⟨⟨by decide +kernel, w_67, w_1039⟩, w_1036, w_1037, w_1038⟩
theorem k_X10_bits_193 : am_csV M_X10_bits 193 M_X10_allBits 0 := ⟨⟨by decide +kernel, w_77, w_1605⟩, w_1602, w_1604, w_50⟩
theorem k_X10_bits_125 : am_csV M_X10_bits 125 M_X10_says 1 := ⟨⟨by decide +kernel, w_77, w_1320⟩, w_1317, w_1319, w_19⟩
theorem k_X10_bitsByKinds_193 : am_csV M_X10_bitsByKinds 193 M_X10_allBits 0 := ⟨⟨by decide +kernel, w_77, w_1605⟩, w_1602, w_1604, w_50⟩
theorem k_X10_bitsByKinds_125 : am_csV M_X10_bitsByKinds 125 M_X10_says 1 := ⟨⟨by decide +kernel, w_77, w_1320⟩, w_1317, w_1319, w_19⟩
theorem k_X10_blocksWith_134 : am_csS M_X10_blocksWith 134 M_X10_isKind 1 := ⟨⟨by decide +kernel, w_77, w_1346⟩, w_1344, w_1345⟩
theorem k_X10_blocksWith_53 : am_csV M_X10_blocksWith 53 M_X10_asks 1 := ⟨⟨by decide +kernel, w_77, w_1266⟩, w_1263, w_1265, w_14⟩
theorem k_X10_blocksWith_196 : am_csV M_X10_blocksWith 196 M_X10_blocksBy 1 := ⟨⟨by decide +kernel, w_77, w_1617⟩, w_1614, w_1616, w_51⟩
theorem k_X10_does_119 : am_csV M_X10_does 119 M_X10_adds 1 := ⟨⟨by decide +kernel, w_77, w_1293⟩, w_1290, w_1292, w_17⟩
theorem k_X10_does_144 : am_csV M_X10_does 144 M_X10_sends 0 := ⟨⟨by decide +kernel, w_77, w_1362⟩, w_1359, w_1361, w_23⟩
theorem k_X10_send_53 : am_csV M_X10_send 53 M_X10_asks 1 := ⟨⟨by decide +kernel, w_77, w_1266⟩, w_1263, w_1265, w_14⟩
theorem k_X10_send_61 : am_csV M_X10_send 61 M_X10_record 0 := ⟨⟨by decide +kernel, w_77, w_1285⟩, w_1282, w_1284, w_16⟩
theorem k_X10_send_144 : am_csV M_X10_send 144 M_X10_sends 0 := ⟨⟨by decide +kernel, w_77, w_1362⟩, w_1359, w_1361, w_23⟩
theorem k_X10_soundOn_255 : am_csS M_X10_soundOn 255 M_X10_on 2 := ⟨⟨by decide +kernel, w_77, w_1720⟩, w_1718, w_1719⟩
theorem k_X10_soundOn_103 : am_csV M_X10_soundOn 103 M_X10_leavesBy 1 := ⟨⟨by decide +kernel, w_77, w_1377⟩, w_1374, w_1376, w_26⟩
theorem k_X10_soundOn_196 : am_csV M_X10_soundOn 196 M_X10_blocksBy 1 := ⟨⟨by decide +kernel, w_77, w_1617⟩, w_1614, w_1616, w_51⟩
theorem k_X10_soundOn_199 : am_csV M_X10_soundOn 199 M_X10_bitsOnly 1 := ⟨⟨by decide +kernel, w_77, w_1625⟩, w_1622, w_1624, w_52⟩
theorem k_X10_soundOn_169 : am_csV M_X10_soundOn 169 M_X10_foretoldOf 2 := ⟨⟨by decide +kernel, w_77, w_1529⟩, w_1526, w_1528, w_42⟩
theorem k_X10_soundOn_82 : am_csV M_X10_soundOn 82 M_X10_begins 1 := ⟨⟨by decide +kernel, w_77, w_1381⟩, w_1378, w_1380, w_27⟩
theorem k_X10_soundOn_71 : am_csV M_X10_soundOn 71 M_X10_foretell 4 := ⟨⟨by decide +kernel, w_77, w_1389⟩, w_1386, w_1388, w_29⟩
theorem k_X10_soundOn_78 : am_csV M_X10_soundOn 78 M_X10_adapts 3 := ⟨⟨by decide +kernel, w_77, w_1399⟩, w_1396, w_1398, w_30⟩
theorem k_X10_soundOn_46 : am_csS M_X10_soundOn 46 M_X10_blocksOf 1 := ⟨⟨by decide +kernel, w_77, w_1365⟩, w_1363, w_1364⟩
theorem k_X10_soundOn_116 : am_csV M_X10_soundOn 116 M_X10_kindFor 1 := ⟨⟨by decide +kernel, w_77, w_1369⟩, w_1366, w_1368, w_24⟩
theorem k_X10_soundOn_190 : am_csV M_X10_soundOn 190 M_X10_whyFor 1 := ⟨⟨by decide +kernel, w_77, w_1597⟩, w_1594, w_1596, w_49⟩
theorem k_X10_soundOn_187 : am_csV M_X10_soundOn 187 M_X10_parameterBy 2 := ⟨⟨by decide +kernel, w_77, w_1585⟩, w_1582, w_1584, w_48⟩
theorem k_X10_whyBest_184 : am_csV M_X10_whyBest 184 M_X10_isBlock 1 := ⟨⟨by decide +kernel, w_77, w_1577⟩, w_1574, w_1576, w_47⟩
theorem k_X10_whyBest_53 : am_csV M_X10_whyBest 53 M_X10_asks 1 := ⟨⟨by decide +kernel, w_77, w_1266⟩, w_1263, w_1265, w_14⟩
theorem k_X10_whyBest_190 : am_csV M_X10_whyBest 190 M_X10_whyFor 1 := ⟨⟨by decide +kernel, w_77, w_1597⟩, w_1594, w_1596, w_49⟩
theorem k_X10_digest_255 : am_csS M_X10_digest 255 M_X10_on 2 := ⟨⟨by decide +kernel, w_77, w_1720⟩, w_1718, w_1719⟩
theorem k_X10_digest_193 : am_csV M_X10_digest 193 M_X10_allBits 0 := ⟨⟨by decide +kernel, w_77, w_1605⟩, w_1602, w_1604, w_50⟩
theorem k_X10_digest_175 : am_csV M_X10_digest 175 M_X10_delayFor 0 := ⟨⟨by decide +kernel, w_77, w_1553⟩, w_1550, w_1552, w_44⟩
theorem k_X10_digest_178 : am_csV M_X10_digest 178 M_X10_speedFor 0 := ⟨⟨by decide +kernel, w_77, w_1561⟩, w_1558, w_1560, w_45⟩
theorem k_X10_digest_181 : am_csV M_X10_digest 181 M_X10_firstFor 1 := ⟨⟨by decide +kernel, w_77, w_1569⟩, w_1566, w_1568, w_46⟩
theorem k_X10_digest_140 : am_csV M_X10_digest 140 M_X10_letterLength 0 := ⟨⟨by decide +kernel, w_77, w_1417⟩, w_1414, w_1416, w_33⟩
theorem k_X10_digest_150 : am_csV M_X10_digest 150 M_X10_hears 1 := ⟨⟨by decide +kernel, w_77, w_1437⟩, w_1434, w_1436, w_36⟩
theorem k_X10_digest_156 : am_csV M_X10_digest 156 M_X10_firstOther 0 := ⟨⟨by decide +kernel, w_77, w_1453⟩, w_1450, w_1452, w_37⟩
theorem k_X10_digest_159 : am_csV M_X10_digest 159 M_X10_mostHarm 0 := ⟨⟨by decide +kernel, w_77, w_1465⟩, w_1462, w_1464, w_38⟩
theorem k_X10_digest_162 : am_csV M_X10_digest 162 M_X10_mean 0 := ⟨⟨by decide +kernel, w_77, w_1505⟩, w_1502, w_1504, w_39⟩
theorem k_X10_digest_261 : am_csS M_X10_digest 261 M_Jxe99ae_doubleToLongBits_ccdee 1 := ⟨⟨by decide +kernel, w_86, w_1724⟩, w_1722, w_1723⟩
theorem k_X10_digest_267 : am_csV M_X10_digest 267 M_X10_soundOn 1 := ⟨⟨by decide +kernel, w_77, w_1735⟩, w_1732, w_1734, w_64⟩
theorem k_X10_digest_271 : am_csV M_X10_digest 271 M_X10_letterOn 1 := ⟨⟨by decide +kernel, w_77, w_1739⟩, w_1736, w_1738, w_65⟩
theorem k_X10_doWorks_242 : am_csV M_X10_doWorks 242 M_X10_tells 0 := ⟨⟨by decide +kernel, w_77, w_1676⟩, w_1673, w_1675, w_55⟩
theorem k_X10_doWorks_53 : am_csV M_X10_doWorks 53 M_X10_asks 1 := ⟨⟨by decide +kernel, w_77, w_1266⟩, w_1263, w_1265, w_14⟩
theorem k_X10_doWorks_61 : am_csV M_X10_doWorks 61 M_X10_record 0 := ⟨⟨by decide +kernel, w_77, w_1285⟩, w_1282, w_1284, w_16⟩
theorem k_X10_doWorks_245 : am_csV M_X10_doWorks 245 M_X10_isPossible 2 := ⟨⟨by decide +kernel, w_77, w_1708⟩, w_1705, w_1707, w_62⟩
theorem k_X10_doWorks_249 : am_csV M_X10_doWorks 249 M_X10_does 3 := ⟨⟨by decide +kernel, w_77, w_1712⟩, w_1709, w_1711, w_63⟩
theorem k_L_law_140 : am_csV M_L_law 140 M_X10_add 1 := ⟨⟨by decide +kernel, w_77, w_1289⟩, w_1286, w_1287, w_1288⟩
theorem k_L_law_141 : am_csV M_L_law 141 M_X10_thrown 0 := ⟨⟨by decide +kernel, w_77, w_1258⟩, w_1255, w_1256, w_1257⟩
theorem k_L_law_147 : am_csV M_L_law 147 M_X10_echo 3 := ⟨⟨by decide +kernel, w_77, w_1297⟩, w_1294, w_1295, w_1296⟩
theorem k_L_law_151 : am_csV M_L_law 151 M_X10_change 2 := ⟨⟨by decide +kernel, w_77, w_1304⟩, w_1301, w_1302, w_1303⟩
theorem k_L_law_155 : am_csV M_L_law 155 M_X10_drop 0 := ⟨⟨by decide +kernel, w_77, w_1312⟩, w_1309, w_1310, w_1311⟩
theorem k_L_law_156 : am_csV M_L_law 156 M_X9_empty 0 := ⟨⟨by decide +kernel, w_67, w_370⟩, w_367, w_368, w_369⟩
theorem k_L_law_159 : am_csV M_L_law 159 M_X10_empty 0 := ⟨⟨by decide +kernel, w_77, w_1316⟩, w_1313, w_1314, w_1315⟩
theorem k_L_law_162 : am_csV M_L_law 162 M_X10_setDelay 1 := ⟨⟨by decide +kernel, w_77, w_1324⟩, w_1321, w_1322, w_1323⟩
theorem k_L_law_165 : am_csV M_L_law 165 M_X10_setSpeed 1 := ⟨⟨by decide +kernel, w_77, w_1332⟩, w_1329, w_1330, w_1331⟩
theorem k_L_law_168 : am_csV M_L_law 168 M_X10_setWeight 2 := ⟨⟨by decide +kernel, w_77, w_1336⟩, w_1333, w_1334, w_1335⟩
theorem k_L_law_171 : am_csV M_L_law 171 M_X10_turnKind 1 := ⟨⟨by decide +kernel, w_77, w_1343⟩, w_1340, w_1341, w_1342⟩
theorem k_L_law_174 : am_csV M_L_law 174 M_X10_send 0 := ⟨⟨by decide +kernel, w_77, w_1358⟩, w_1355, w_1356, w_1357⟩
theorem k_L_law_177 : am_csV M_L_law 177 M_X10_tamper 2 := ⟨⟨by decide +kernel, w_77, w_1421⟩, w_1418, w_1419, w_1420⟩
theorem k_L_law_178 : am_csV M_L_law 178 M_X9_samples 0 := ⟨⟨by decide +kernel, w_67, w_394⟩, w_391, w_392, w_393⟩
theorem k_L_law_181 : am_csV M_L_law 181 M_X10_samples 0 := ⟨⟨by decide +kernel, w_77, w_1473⟩, w_1470, w_1471, w_1472⟩
theorem k_L_law_184 : am_csV M_L_law 184 M_X10_sampleAt 1 := ⟨⟨by decide +kernel, w_77, w_1477⟩, w_1474, w_1475, w_1476⟩
theorem k_L_law_185 : am_csV M_L_law 185 M_X9_blocks 0 := ⟨⟨by decide +kernel, w_67, w_398⟩, w_395, w_396, w_397⟩
theorem k_L_law_188 : am_csV M_L_law 188 M_X10_blocks 0 := ⟨⟨by decide +kernel, w_77, w_1481⟩, w_1478, w_1479, w_1480⟩
theorem k_L_law_189 : am_csV M_L_law 189 M_X9_delay 0 := ⟨⟨by decide +kernel, w_67, w_405⟩, w_402, w_403, w_404⟩
theorem k_L_law_192 : am_csV M_L_law 192 M_X10_delay 0 := ⟨⟨by decide +kernel, w_77, w_1485⟩, w_1482, w_1483, w_1484⟩
theorem k_L_law_193 : am_csV M_L_law 193 M_X9_speed 0 := ⟨⟨by decide +kernel, w_67, w_409⟩, w_406, w_407, w_408⟩
theorem k_L_law_196 : am_csV M_L_law 196 M_X10_speed 0 := ⟨⟨by decide +kernel, w_77, w_1489⟩, w_1486, w_1487, w_1488⟩
theorem k_L_law_197 : am_csV M_L_law 197 M_X9_allowed 0 := ⟨⟨by decide +kernel, w_67, w_413⟩, w_410, w_411, w_412⟩
theorem k_L_law_200 : am_csV M_L_law 200 M_X10_allowed 0 := ⟨⟨by decide +kernel, w_77, w_1493⟩, w_1490, w_1491, w_1492⟩
theorem k_L_law_203 : am_csV M_L_law 203 M_X10_firstWeight 1 := ⟨⟨by decide +kernel, w_77, w_1497⟩, w_1494, w_1495, w_1496⟩
theorem k_L_law_204 : am_csV M_L_law 204 M_X9_loudness 0 := ⟨⟨by decide +kernel, w_67, w_417⟩, w_414, w_415, w_416⟩
theorem k_L_law_208 : am_csV M_L_law 208 M_X10_loudness 0 := ⟨⟨by decide +kernel, w_77, w_1501⟩, w_1498, w_1499, w_1500⟩
theorem k_L_law_211 : am_csV M_L_law 211 M_X10_weightAt 2 := ⟨⟨by decide +kernel, w_77, w_1509⟩, w_1506, w_1507, w_1508⟩
theorem k_L_law_214 : am_csV M_L_law 214 M_X10_weightByCounting 2 := ⟨⟨by decide +kernel, w_77, w_1521⟩, w_1518, w_1519, w_1520⟩
theorem k_L_law_217 : am_csV M_L_law 217 M_X10_foretold 2 := ⟨⟨by decide +kernel, w_77, w_1525⟩, w_1522, w_1523, w_1524⟩
theorem k_L_law_220 : am_csV M_L_law 220 M_X10_leftOver 2 := ⟨⟨by decide +kernel, w_77, w_1533⟩, w_1530, w_1531, w_1532⟩
theorem k_L_law_223 : am_csV M_L_law 223 M_X10_sumOf 1 := ⟨⟨by decide +kernel, w_77, w_1537⟩, w_1534, w_1535, w_1536⟩
theorem k_L_law_226 : am_csV M_L_law 226 M_X10_sumWithDelay 1 := ⟨⟨by decide +kernel, w_77, w_1541⟩, w_1538, w_1539, w_1540⟩
theorem k_L_law_227 : am_csV M_L_law 227 M_X9_bestDelay 0 := ⟨⟨by decide +kernel, w_67, w_428⟩, w_425, w_426, w_427⟩
theorem k_L_law_230 : am_csV M_L_law 230 M_X10_bestDelay 0 := ⟨⟨by decide +kernel, w_77, w_1549⟩, w_1546, w_1547, w_1548⟩
theorem k_L_law_231 : am_csV M_L_law 231 M_X9_bestSpeed 0 := ⟨⟨by decide +kernel, w_67, w_477⟩, w_474, w_475, w_476⟩
theorem k_L_law_234 : am_csV M_L_law 234 M_X10_bestSpeed 0 := ⟨⟨by decide +kernel, w_77, w_1557⟩, w_1554, w_1555, w_1556⟩
theorem k_L_law_237 : am_csV M_L_law 237 M_X10_bestFirst 1 := ⟨⟨by decide +kernel, w_77, w_1565⟩, w_1562, w_1563, w_1564⟩
theorem k_L_law_240 : am_csV M_L_law 240 M_X10_bitsWith 3 := ⟨⟨by decide +kernel, w_77, w_1573⟩, w_1570, w_1571, w_1572⟩
theorem k_L_law_243 : am_csV M_L_law 243 M_X10_bestParameter 2 := ⟨⟨by decide +kernel, w_77, w_1581⟩, w_1578, w_1579, w_1580⟩
theorem k_L_law_246 : am_csV M_L_law 246 M_X10_bestKind 1 := ⟨⟨by decide +kernel, w_77, w_1589⟩, w_1586, w_1587, w_1588⟩
theorem k_L_law_249 : am_csV M_L_law 249 M_X10_whyBest 1 := ⟨⟨by decide +kernel, w_77, w_1593⟩, w_1590, w_1591, w_1592⟩
theorem k_L_law_250 : am_csV M_L_law 250 M_X9_bits 0 := ⟨⟨by decide +kernel, w_67, w_485⟩, w_482, w_483, w_484⟩
theorem k_L_law_253 : am_csV M_L_law 253 M_X10_bits 0 := ⟨⟨by decide +kernel, w_77, w_1601⟩, w_1598, w_1599, w_1600⟩
theorem k_L_law_254 : am_csV M_L_law 254 M_X9_bitsByKinds 0 := ⟨⟨by decide +kernel, w_67, w_535⟩, w_532, w_533, w_534⟩
theorem k_L_law_257 : am_csV M_L_law 257 M_X10_bitsByKinds 0 := ⟨⟨by decide +kernel, w_77, w_1609⟩, w_1606, w_1607, w_1608⟩
theorem k_L_law_260 : am_csV M_L_law 260 M_X10_blocksWith 1 := ⟨⟨by decide +kernel, w_77, w_1613⟩, w_1610, w_1611, w_1612⟩
theorem k_L_law_263 : am_csV M_L_law 263 M_X10_bitsIfOnly 1 := ⟨⟨by decide +kernel, w_77, w_1621⟩, w_1618, w_1619, w_1620⟩
theorem k_L_law_264 : am_csV M_L_law 264 M_X9_told 0 := ⟨⟨by decide +kernel, w_67, w_543⟩, w_540, w_541, w_542⟩
theorem k_L_law_267 : am_csV M_L_law 267 M_X10_told 0 := ⟨⟨by decide +kernel, w_77, w_1629⟩, w_1626, w_1627, w_1628⟩
theorem k_L_law_270 : am_csV M_L_law 270 M_X10_letterKind 1 := ⟨⟨by decide +kernel, w_77, w_1633⟩, w_1630, w_1631, w_1632⟩
theorem k_L_law_273 : am_csV M_L_law 273 M_X10_letterParameter 1 := ⟨⟨by decide +kernel, w_77, w_1641⟩, w_1638, w_1639, w_1640⟩
theorem k_L_law_276 : am_csV M_L_law 276 M_X10_letterLeft 1 := ⟨⟨by decide +kernel, w_77, w_1645⟩, w_1642, w_1643, w_1644⟩
theorem k_L_law_277 : am_csV M_L_law 277 M_X9_letterBits 0 := ⟨⟨by decide +kernel, w_67, w_547⟩, w_544, w_545, w_546⟩
theorem k_L_law_280 : am_csV M_L_law 280 M_X10_letterBits 0 := ⟨⟨by decide +kernel, w_77, w_1649⟩, w_1646, w_1647, w_1648⟩
theorem k_L_law_283 : am_csV M_L_law 283 M_X10_letterBit 1 := ⟨⟨by decide +kernel, w_77, w_1653⟩, w_1650, w_1651, w_1652⟩
theorem k_L_law_286 : am_csV M_L_law 286 M_X10_heard 1 := ⟨⟨by decide +kernel, w_77, w_1429⟩, w_1426, w_1427, w_1428⟩
theorem k_L_law_289 : am_csV M_L_law 289 M_X10_heardByBits 1 := ⟨⟨by decide +kernel, w_77, w_1441⟩, w_1438, w_1439, w_1440⟩
theorem k_L_law_290 : am_csV M_L_law 290 M_X9_unlike 0 := ⟨⟨by decide +kernel, w_67, w_558⟩, w_555, w_556, w_557⟩
theorem k_L_law_293 : am_csV M_L_law 293 M_X10_unlike 0 := ⟨⟨by decide +kernel, w_77, w_1445⟩, w_1442, w_1443, w_1444⟩
theorem k_L_law_294 : am_csV M_L_law 294 M_X9_firstUnlike 0 := ⟨⟨by decide +kernel, w_67, w_578⟩, w_575, w_576, w_577⟩
theorem k_L_law_297 : am_csV M_L_law 297 M_X10_firstUnlike 0 := ⟨⟨by decide +kernel, w_77, w_1449⟩, w_1446, w_1447, w_1448⟩
theorem k_L_law_300 : am_csV M_L_law 300 M_X10_harm 1 := ⟨⟨by decide +kernel, w_77, w_1457⟩, w_1454, w_1455, w_1456⟩
theorem k_L_law_301 : am_csV M_L_law 301 M_X9_worst 0 := ⟨⟨by decide +kernel, w_67, w_586⟩, w_583, w_584, w_585⟩
theorem k_L_law_304 : am_csV M_L_law 304 M_X10_worst 0 := ⟨⟨by decide +kernel, w_77, w_1461⟩, w_1458, w_1459, w_1460⟩
theorem k_L_law_305 : am_csV M_L_law 305 M_X9_sent 0 := ⟨⟨by decide +kernel, w_67, w_590⟩, w_587, w_588, w_589⟩
theorem k_L_law_308 : am_csV M_L_law 308 M_X10_sent 0 := ⟨⟨by decide +kernel, w_77, w_1469⟩, w_1466, w_1467, w_1468⟩
theorem k_L_law_311 : am_csV M_L_law 311 M_X10_keep 1 := ⟨⟨by decide +kernel, w_77, w_1270⟩, w_1267, w_1268, w_1269⟩
theorem k_L_law_314 : am_csV M_L_law 314 M_X10_goBack 1 := ⟨⟨by decide +kernel, w_77, w_1277⟩, w_1274, w_1275, w_1276⟩
theorem k_L_law_317 : am_csV M_L_law 317 M_X10_append 1 := ⟨⟨by decide +kernel, w_77, w_1664⟩, w_1661, w_1662, w_1663⟩
theorem k_L_law_318 : am_csV M_L_law 318 M_X9_clearText 0 := ⟨⟨by decide +kernel, w_67, w_594⟩, w_591, w_592, w_593⟩
theorem k_L_law_321 : am_csV M_L_law 321 M_X10_clearText 0 := ⟨⟨by decide +kernel, w_77, w_1668⟩, w_1665, w_1666, w_1667⟩
theorem k_L_law_322 : am_csV M_L_law 322 M_X9_firstError 0 := ⟨⟨by decide +kernel, w_67, w_598⟩, w_595, w_596, w_597⟩
theorem k_L_law_325 : am_csV M_L_law 325 M_X10_firstError 0 := ⟨⟨by decide +kernel, w_77, w_1672⟩, w_1669, w_1670, w_1671⟩
theorem k_L_law_328 : am_csV M_L_law 328 M_X10_doWorks 0 := ⟨⟨by decide +kernel, w_77, w_1704⟩, w_1701, w_1702, w_1703⟩
theorem k_L_law_331 : am_csV M_L_law 331 M_X10_undo 0 := ⟨⟨by decide +kernel, w_77, w_1262⟩, w_1259, w_1260, w_1261⟩
theorem k_L_law_332 : am_csV M_L_law 332 M_X9_digest 0 := ⟨⟨by decide +kernel, w_67, w_638⟩, w_635, w_636, w_637⟩
theorem k_L_law_336 : am_csV M_L_law 336 M_X10_digest 0 := ⟨⟨by decide +kernel, w_77, w_1716⟩, w_1713, w_1714, w_1715⟩
