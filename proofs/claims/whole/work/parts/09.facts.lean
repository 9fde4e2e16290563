section
def mX0_init : zMt := (yX0_init, cX0_init, 2, none)
theorem mnX0_init : zMN mX0_init 0 := ⟨tw_146, rfl, tw_6, tw_147, rfl, (by decide +kernel), (by decide)⟩
def mX0_keep : zMt := (yX0_keep, cX0_keep, 2, none)
theorem mvX0_keep : zMV mX0_keep 1 := ⟨tw_467, tw_468, tw_6, tw_469, (by decide +kernel), (by decide)⟩
def mX0_takeBack : zMt := (yX0_takeBack, cX0_takeBack, 2, some (.boolean))
theorem mvX0_takeBack : zMV mX0_takeBack 1 := ⟨tw_534, tw_535, tw_6, tw_536, (by decide +kernel), (by decide)⟩
def mX0_forget : zMt := (yX0_forget, cX0_forget, 1, none)
theorem mvX0_forget : zMV mX0_forget 0 := ⟨tw_449, tw_450, tw_6, tw_451, (by decide +kernel), (by decide)⟩
def mX1_init : zMt := (yX1_init, cX1_init, 1, none)
theorem mnX1_init : zMN mX1_init 0 := ⟨tw_203, rfl, tw_8, tw_204, rfl, (by decide +kernel), (by decide)⟩
def mX1_isOne : zMt := (yX1_isOne, cX1_isOne, 2, some (.boolean))
theorem msX1_isOne : zMS mX1_isOne 2 := ⟨tw_768, tw_8, tw_769, (by decide +kernel), (by decide)⟩
def mX1_answerOf : zMt := (yX1_answerOf, cX1_answerOf, 5, some (.int))
theorem mvX1_answerOf : zMV mX1_answerOf 3 := ⟨tw_777, tw_778, tw_8, tw_779, (by decide +kernel), (by decide)⟩
def mX1_give : zMt := (yX1_give, cX1_give, 6, some (.int))
theorem mvX1_give : zMV mX1_give 4 := ⟨tw_786, tp_23, tw_8, tw_787, (by decide +kernel), (by decide)⟩
def mX1_leaveTrace : zMt := (yX1_leaveTrace, cX1_leaveTrace, 2, none)
theorem mvX1_leaveTrace : zMV mX1_leaveTrace 1 := ⟨tw_790, tp_24, tw_8, tw_791, (by decide +kernel), (by decide)⟩
def mX2_init : zMt := (yX2_init, cX2_init, 1, none)
theorem mnX2_init : zMN mX2_init 0 := ⟨tw_166, rfl, tw_7, tw_167, rfl, (by decide +kernel), (by decide)⟩
def mX2_townIn : zMt := (yX2_townIn, cX2_townIn, 3, some (.object "DrumPeace$Town"))
theorem mvX2_townIn : zMV mX2_townIn 2 := ⟨tw_562, tw_563, tw_7, tw_564, (by decide +kernel), (by decide)⟩
def mX2_hoursUntilAwake : zMt := (yX2_hoursUntilAwake, cX2_hoursUntilAwake, 4, some (.int))
theorem mvX2_hoursUntilAwake : zMV mX2_hoursUntilAwake 2 := ⟨tw_580, tw_581, tw_7, tw_582, (by decide +kernel), (by decide)⟩
def mX2_findTune : zMt := (yX2_findTune, cX2_findTune, 8, none)
theorem mvX2_findTune : zMV mX2_findTune 3 := ⟨tw_600, tw_601, tw_7, tw_602, (by decide +kernel), (by decide)⟩
def mX2_tunedBeat : zMt := (yX2_tunedBeat, cX2_tunedBeat, 6, some (.int))
theorem mvX2_tunedBeat : zMV mX2_tunedBeat 3 := ⟨tw_623, tw_624, tw_7, tw_625, (by decide +kernel), (by decide)⟩
def mX2_weighPatterns : zMt := (yX2_weighPatterns, cX2_weighPatterns, 6, none)
theorem mvX2_weighPatterns : zMV mX2_weighPatterns 3 := ⟨tw_605, tp_13, tw_7, tw_606, (by decide +kernel), (by decide)⟩
def mX2_burdenOn : zMt := (yX2_burdenOn, cX2_burdenOn, 10, some (.int))
theorem msX2_burdenOn : zMS mX2_burdenOn 5 := ⟨tw_608, tw_7, tw_609, (by decide +kernel), (by decide)⟩
def mX2_gatherHearers : zMt := (yX2_gatherHearers, cX2_gatherHearers, 4, none)
theorem mvX2_gatherHearers : zMV mX2_gatherHearers 1 := ⟨tw_615, tp_14, tw_7, tw_616, (by decide +kernel), (by decide)⟩
def mX2_burdenOf : zMt := (yX2_burdenOf, cX2_burdenOf, 9, some (.int))
theorem mvX2_burdenOf : zMV mX2_burdenOf 3 := ⟨tw_620, tp_15, tw_7, tw_621, (by decide +kernel), (by decide)⟩
def mX2_findShift : zMt := (yX2_findShift, cX2_findShift, 7, some (.int))
theorem mvX2_findShift : zMV mX2_findShift 2 := ⟨tw_631, tw_632, tw_7, tw_633, (by decide +kernel), (by decide)⟩
def mX2_robbedIfMoved : zMt := (yX2_robbedIfMoved, cX2_robbedIfMoved, 5, some (.int))
theorem mvX2_robbedIfMoved : zMV mX2_robbedIfMoved 4 := ⟨tw_637, tp_16, tw_7, tw_638, (by decide +kernel), (by decide)⟩
def mX2_fewestPosts : zMt := (yX2_fewestPosts, cX2_fewestPosts, 4, some (.int))
theorem mvX2_fewestPosts : zMV mX2_fewestPosts 1 := ⟨tw_644, tw_645, tw_7, tw_646, (by decide +kernel), (by decide)⟩
def mX2_areHeardInAll : zMt := (yX2_areHeardInAll, cX2_areHeardInAll, 5, some (.boolean))
theorem msX2_areHeardInAll : zMS mX2_areHeardInAll 2 := ⟨tw_655, tw_7, tw_656, (by decide +kernel), (by decide)⟩
def mX2_leastReach : zMt := (yX2_leastReach, cX2_leastReach, 6, some (.int))
theorem mvX2_leastReach : zMV mX2_leastReach 3 := ⟨tw_663, tw_664, tw_7, tw_665, (by decide +kernel), (by decide)⟩
def mX2_tell : zMt := (yX2_tell, cX2_tell, 4, none)
theorem mvX2_tell : zMV mX2_tell 3 := ⟨tw_688, tw_689, tw_7, tw_690, (by decide +kernel), (by decide)⟩
def mX2_guesses : zMt := (yX2_guesses, cX2_guesses, 6, some (.int))
theorem mvX2_guesses : zMV mX2_guesses 3 := ⟨tw_694, tw_695, tw_7, tw_696, (by decide +kernel), (by decide)⟩
def mX2_firstGuess : zMt := (yX2_firstGuess, cX2_firstGuess, 1, some (.int))
theorem msX2_firstGuess : zMS mX2_firstGuess 1 := ⟨tw_698, tw_7, tw_699, (by decide +kernel), (by decide)⟩
def mX2_lastGuess : zMt := (yX2_lastGuess, cX2_lastGuess, 2, some (.int))
theorem msX2_lastGuess : zMS mX2_lastGuess 2 := ⟨tw_701, tw_7, tw_702, (by decide +kernel), (by decide)⟩
def mX2_suppose : zMt := (yX2_suppose, cX2_suppose, 4, none)
theorem mvX2_suppose : zMV mX2_suppose 3 := ⟨tw_705, tp_18, tw_7, tw_706, (by decide +kernel), (by decide)⟩
def mX2_sleepsAsTold : zMt := (yX2_sleepsAsTold, cX2_sleepsAsTold, 3, some (.boolean))
theorem mvX2_sleepsAsTold : zMV mX2_sleepsAsTold 1 := ⟨tw_710, tp_19, tw_7, tw_711, (by decide +kernel), (by decide)⟩
def mX2_chancesAwake : zMt := (yX2_chancesAwake, cX2_chancesAwake, 6, some (.int))
theorem mvX2_chancesAwake : zMV mX2_chancesAwake 4 := ⟨tw_717, tw_718, tw_7, tw_719, (by decide +kernel), (by decide)⟩
def mX2_takeChances : zMt := (yX2_takeChances, cX2_takeChances, 6, none)
theorem mvX2_takeChances : zMV mX2_takeChances 4 := ⟨tw_724, tp_20, tw_7, tw_725, (by decide +kernel), (by decide)⟩
def mX2_chancesInAll : zMt := (yX2_chancesInAll, cX2_chancesInAll, 3, some (.int))
theorem msX2_chancesInAll : zMS mX2_chancesInAll 1 := ⟨tw_727, tw_7, tw_728, (by decide +kernel), (by decide)⟩
def mX2_commonDivisor : zMt := (yX2_commonDivisor, cX2_commonDivisor, 6, some (.int))
theorem msX2_commonDivisor : zMS mX2_commonDivisor 2 := ⟨tw_730, tw_7, tw_731, (by decide +kernel), (by decide)⟩
def mX2_townByDraws : zMt := (yX2_townByDraws, cX2_townByDraws, 7, some (.object "DrumPeace$Town"))
theorem mvX2_townByDraws : zMV mX2_townByDraws 3 := ⟨tw_738, tw_739, tw_7, tw_740, (by decide +kernel), (by decide)⟩
def mX2_applyDraw : zMt := (yX2_applyDraw, cX2_applyDraw, 3, none)
theorem mvX2_applyDraw : zMV mX2_applyDraw 1 := ⟨tw_745, tp_21, tw_7, tw_746, (by decide +kernel), (by decide)⟩
def mX3_init : zMt := (yX3_init, cX3_init, 1, none)
theorem mnX3_init : zMN mX3_init 0 := ⟨tw_29, rfl, tw_2, tw_30, rfl, (by decide +kernel), (by decide)⟩
def mX3_isRow : zMt := (yX3_isRow, cX3_isRow, 1, some (.boolean))
theorem msX3_isRow : zMS mX3_isRow 1 := ⟨tw_251, tw_2, tw_252, (by decide +kernel), (by decide)⟩
def mX3_isMissing : zMt := (yX3_isMissing, cX3_isMissing, 2, some (.boolean))
theorem mvX3_isMissing : zMV mX3_isMissing 1 := ⟨tw_272, tw_273, tw_2, tw_274, (by decide +kernel), (by decide)⟩
def mX3_holds : zMt := (yX3_holds, cX3_holds, 4, some (.boolean))
theorem mvX3_holds : zMV mX3_holds 3 := ⟨tw_276, tw_277, tw_2, tw_278, (by decide +kernel), (by decide)⟩
def mX3_lay : zMt := (yX3_lay, cX3_lay, 4, none)
theorem mvX3_lay : zMV mX3_lay 3 := ⟨tw_260, tw_261, tw_2, tw_262, (by decide +kernel), (by decide)⟩
def mX3_put : zMt := (yX3_put, cX3_put, 5, some (.int))
theorem mvX3_put : zMV mX3_put 3 := ⟨tw_280, tw_281, tw_2, tw_282, (by decide +kernel), (by decide)⟩
def mX3_takeAway : zMt := (yX3_takeAway, cX3_takeAway, 3, some (.int))
theorem mvX3_takeAway : zMV mX3_takeAway 1 := ⟨tw_295, tw_296, tw_2, tw_297, (by decide +kernel), (by decide)⟩
def mX3_howMany : zMt := (yX3_howMany, cX3_howMany, 3, some (.int))
theorem mvX3_howMany : zMV mX3_howMany 0 := ⟨tw_801, tw_802, tw_2, tw_803, (by decide +kernel), (by decide)⟩
def mX4_init : zMt := (yX4_init, cX4_init, 1, none)
theorem mnX4_init : zMN mX4_init 0 := ⟨tw_53, rfl, tw_4, tw_54, rfl, (by decide +kernel), (by decide)⟩
def mX4_append : zMt := (yX4_append, cX4_append, 2, some (.boolean))
theorem mvX4_append : zMV mX4_append 1 := ⟨tw_303, tw_304, tw_4, tw_305, (by decide +kernel), (by decide)⟩
def mX4_readInto : zMt := (yX4_readInto, cX4_readInto, 2, some (.boolean))
theorem mvX4_readInto : zMV mX4_readInto 1 := ⟨tw_312, tw_313, tw_4, tw_314, (by decide +kernel), (by decide)⟩
def mX4_readLaw : zMt := (yX4_readLaw, cX4_readLaw, 2, some (.boolean))
theorem mvX4_readLaw : zMV mX4_readLaw 1 := ⟨tw_321, tp_2, tw_4, tw_322, (by decide +kernel), (by decide)⟩
def mX4_readStreets : zMt := (yX4_readStreets, cX4_readStreets, 3, some (.boolean))
theorem mvX4_readStreets : zMV mX4_readStreets 1 := ⟨tw_341, tp_7, tw_4, tw_342, (by decide +kernel), (by decide)⟩
def mX4_readStreet : zMt := (yX4_readStreet, cX4_readStreet, 6, some (.boolean))
theorem mvX4_readStreet : zMV mX4_readStreet 1 := ⟨tw_345, tp_8, tw_4, tw_346, (by decide +kernel), (by decide)⟩
def mX4_readBeats : zMt := (yX4_readBeats, cX4_readBeats, 3, some (.boolean))
theorem mvX4_readBeats : zMV mX4_readBeats 1 := ⟨tw_436, tp_9, tw_4, tw_437, (by decide +kernel), (by decide)⟩
def mX4_readBeat : zMt := (yX4_readBeat, cX4_readBeat, 4, some (.boolean))
theorem mvX4_readBeat : zMV mX4_readBeat 1 := ⟨tw_440, tp_10, tw_4, tw_441, (by decide +kernel), (by decide)⟩
def mX4_readSign : zMt := (yX4_readSign, cX4_readSign, 2, some (.boolean))
theorem mvX4_readSign : zMV mX4_readSign 1 := ⟨tw_325, tp_3, tw_4, tw_326, (by decide +kernel), (by decide)⟩
def mX4_readNumber : zMt := (yX4_readNumber, cX4_readNumber, 4, some (.int))
theorem mvX4_readNumber : zMV mX4_readNumber 1 := ⟨tw_333, tp_5, tw_4, tw_334, (by decide +kernel), (by decide)⟩
def mX4_isFigure : zMt := (yX4_isFigure, cX4_isFigure, 2, some (.boolean))
theorem mvX4_isFigure : zMV mX4_isFigure 1 := ⟨tw_337, tp_6, tw_4, tw_338, (by decide +kernel), (by decide)⟩
def mX4_fails : zMt := (yX4_fails, cX4_fails, 2, some (.boolean))
theorem mvX4_fails : zMV mX4_fails 1 := ⟨tw_329, tp_4, tw_4, tw_330, (by decide +kernel), (by decide)⟩
def mX5_init : zMt := (yX5_init, cX5_init, 1, none)
theorem mnX5_init : zMN mX5_init 0 := ⟨tw_78, rfl, tw_5, tw_79, rfl, (by decide +kernel), (by decide)⟩
def mX5_clear : zMt := (yX5_clear, cX5_clear, 1, none)
theorem mvX5_clear : zMV mX5_clear 0 := ⟨tw_316, tw_317, tw_5, tw_318, (by decide +kernel), (by decide)⟩
def mX5_become : zMt := (yX5_become, cX5_become, 2, none)
theorem mvX5_become : zMV mX5_become 1 := ⟨tw_444, tw_445, tw_5, tw_446, (by decide +kernel), (by decide)⟩
def mX5_hasStreet : zMt := (yX5_hasStreet, cX5_hasStreet, 2, some (.boolean))
theorem mvX5_hasStreet : zMV mX5_hasStreet 1 := ⟨tw_513, tw_514, tw_5, tw_515, (by decide +kernel), (by decide)⟩
def mX5_hasBeat : zMt := (yX5_hasBeat, cX5_hasBeat, 2, some (.boolean))
theorem mvX5_hasBeat : zMV mX5_hasBeat 1 := ⟨tw_509, tw_510, tw_5, tw_511, (by decide +kernel), (by decide)⟩
def mX5_allStreets : zMt := (yX5_allStreets, cX5_allStreets, 1, some (.int))
theorem mvX5_allStreets : zMV mX5_allStreets 0 := ⟨tw_591, tw_592, tw_5, tw_593, (by decide +kernel), (by decide)⟩
def mX5_beatNow : zMt := (yX5_beatNow, cX5_beatNow, 1, some (.int))
theorem mvX5_beatNow : zMV mX5_beatNow 0 := ⟨tw_477, tw_478, tw_5, tw_479, (by decide +kernel), (by decide)⟩
def mX5_hears : zMt := (yX5_hears, cX5_hears, 2, some (.boolean))
theorem mvX5_hears : zMV mX5_hears 1 := ⟨tw_542, tw_543, tw_5, tw_544, (by decide +kernel), (by decide)⟩
def mX5_hearsFrom : zMt := (yX5_hearsFrom, cX5_hearsFrom, 3, some (.boolean))
theorem mvX5_hearsFrom : zMV mX5_hearsFrom 2 := ⟨tw_481, tw_482, tw_5, tw_483, (by decide +kernel), (by decide)⟩
def mX5_awake : zMt := (yX5_awake, cX5_awake, 3, some (.int))
theorem mvX5_awake : zMV mX5_awake 0 := ⟨tw_501, tw_502, tw_5, tw_503, (by decide +kernel), (by decide)⟩
def mX5_passHour : zMt := (yX5_passHour, cX5_passHour, 3, none)
theorem mvX5_passHour : zMV mX5_passHour 0 := ⟨tw_473, tw_474, tw_5, tw_475, (by decide +kernel), (by decide)⟩
def mX5_passHours : zMt := (yX5_passHours, cX5_passHours, 3, none)
theorem mvX5_passHours : zMV mX5_passHours 1 := ⟨tw_567, tw_568, tw_5, tw_569, (by decide +kernel), (by decide)⟩
def mX5_passHourFor : zMt := (yX5_passHourFor, cX5_passHourFor, 2, none)
theorem mvX5_passHourFor : zMV mX5_passHourFor 1 := ⟨tw_667, tw_668, tw_5, tw_669, (by decide +kernel), (by decide)⟩
def mX5_passStreet : zMt := (yX5_passStreet, cX5_passStreet, 4, none)
theorem mvX5_passStreet : zMV mX5_passStreet 2 := ⟨tw_489, tp_12, tw_5, tw_490, (by decide +kernel), (by decide)⟩
def mX5_stolen : zMt := (yX5_stolen, cX5_stolen, 4, some (.int))
theorem msX5_stolen : zMS mX5_stolen 4 := ⟨tw_492, tw_5, tw_493, (by decide +kernel), (by decide)⟩
def mX5_deepAfter : zMt := (yX5_deepAfter, cX5_deepAfter, 5, some (.int))
theorem msX5_deepAfter : zMS mX5_deepAfter 4 := ⟨tw_497, tw_5, tw_498, (by decide +kernel), (by decide)⟩
def mX5_taxOf : zMt := (yX5_taxOf, cX5_taxOf, 7, some (.int))
theorem mvX5_taxOf : zMV mX5_taxOf 2 := ⟨tw_676, tw_677, tw_5, tw_678, (by decide +kernel), (by decide)⟩
def mX5_lootOfAll : zMt := (yX5_lootOfAll, cX5_lootOfAll, 3, some (.int))
theorem mvX5_lootOfAll : zMV mX5_lootOfAll 0 := ⟨tw_681, tp_17, tw_5, tw_682, (by decide +kernel), (by decide)⟩
def mX6_init : zMt := (yX6_init, cX6_init, 1, none)
theorem mnX6_init : zMN mX6_init 0 := ⟨tw_21, rfl, tw_1, tw_22, rfl, (by decide +kernel), (by decide)⟩
def mX6_row : zMt := (yX6_row, cX6_row, 4, some (.int))
theorem mvX6_row : zMV mX6_row 3 := ⟨tw_247, tw_248, tw_1, tw_249, (by decide +kernel), (by decide)⟩
def mX6_set : zMt := (yX6_set, cX6_set, 4, some (.int))
theorem mvX6_set : zMV mX6_set 3 := ⟨tw_268, tw_269, tw_1, tw_270, (by decide +kernel), (by decide)⟩
def mX6_copy : zMt := (yX6_copy, cX6_copy, 6, some (.int))
theorem mvX6_copy : zMV mX6_copy 5 := ⟨tw_284, tw_285, tw_1, tw_286, (by decide +kernel), (by decide)⟩
def mX6_drop : zMt := (yX6_drop, cX6_drop, 2, some (.int))
theorem mvX6_drop : zMV mX6_drop 1 := ⟨tw_291, tw_292, tw_1, tw_293, (by decide +kernel), (by decide)⟩
def mX6_feed : zMt := (yX6_feed, cX6_feed, 2, some (.int))
theorem mvX6_feed : zMV mX6_feed 1 := ⟨tw_299, tw_300, tw_1, tw_301, (by decide +kernel), (by decide)⟩
def mX6_town : zMt := (yX6_town, cX6_town, 2, some (.int))
theorem mvX6_town : zMV mX6_town 0 := ⟨tw_308, tw_309, tw_1, tw_310, (by decide +kernel), (by decide)⟩
def mX6_fault : zMt := (yX6_fault, cX6_fault, 1, some (.int))
theorem mvX6_fault : zMV mX6_fault 0 := ⟨tw_454, tw_455, tw_1, tw_456, (by decide +kernel), (by decide)⟩
def mX6_hours : zMt := (yX6_hours, cX6_hours, 3, some (.int))
theorem mvX6_hours : zMV mX6_hours 1 := ⟨tw_458, tw_459, tw_1, tw_460, (by decide +kernel), (by decide)⟩
def mX6_beat : zMt := (yX6_beat, cX6_beat, 4, some (.int))
theorem mvX6_beat : zMV mX6_beat 2 := ⟨tw_505, tw_506, tw_1, tw_507, (by decide +kernel), (by decide)⟩
def mX6_reach : zMt := (yX6_reach, cX6_reach, 3, some (.int))
theorem mvX6_reach : zMV mX6_reach 1 := ⟨tw_517, tw_518, tw_1, tw_519, (by decide +kernel), (by decide)⟩
def mX6_lull : zMt := (yX6_lull, cX6_lull, 3, some (.int))
theorem mvX6_lull : zMV mX6_lull 2 := ⟨tw_521, tw_522, tw_1, tw_523, (by decide +kernel), (by decide)⟩
def mX6_bring : zMt := (yX6_bring, cX6_bring, 3, some (.int))
theorem mvX6_bring : zMV mX6_bring 2 := ⟨tw_526, tw_527, tw_1, tw_528, (by decide +kernel), (by decide)⟩
def mX6_undo : zMt := (yX6_undo, cX6_undo, 1, some (.int))
theorem mvX6_undo : zMV mX6_undo 0 := ⟨tw_530, tw_531, tw_1, tw_532, (by decide +kernel), (by decide)⟩
def mX6_street : zMt := (yX6_street, cX6_street, 3, some (.int))
theorem mvX6_street : zMV mX6_street 2 := ⟨tw_538, tw_539, tw_1, tw_540, (by decide +kernel), (by decide)⟩
def mX6_round : zMt := (yX6_round, cX6_round, 2, some (.int))
theorem mvX6_round : zMV mX6_round 1 := ⟨tw_548, tw_549, tw_1, tw_550, (by decide +kernel), (by decide)⟩
def mX6_ahead : zMt := (yX6_ahead, cX6_ahead, 5, some (.int))
theorem mvX6_ahead : zMV mX6_ahead 3 := ⟨tw_552, tw_553, tw_1, tw_554, (by decide +kernel), (by decide)⟩
def mX6_later : zMt := (yX6_later, cX6_later, 4, some (.int))
theorem mvX6_later : zMV mX6_later 2 := ⟨tw_572, tw_573, tw_1, tw_574, (by decide +kernel), (by decide)⟩
def mX6_wakes : zMt := (yX6_wakes, cX6_wakes, 2, some (.int))
theorem mvX6_wakes : zMV mX6_wakes 1 := ⟨tw_576, tw_577, tw_1, tw_578, (by decide +kernel), (by decide)⟩
def mX6_alarm : zMt := (yX6_alarm, cX6_alarm, 1, some (.int))
theorem mvX6_alarm : zMV mX6_alarm 0 := ⟨tw_587, tw_588, tw_1, tw_589, (by decide +kernel), (by decide)⟩
def mX6_tune : zMt := (yX6_tune, cX6_tune, 4, some (.int))
theorem mvX6_tune : zMV mX6_tune 3 := ⟨tw_595, tw_596, tw_1, tw_597, (by decide +kernel), (by decide)⟩
def mX6_shift : zMt := (yX6_shift, cX6_shift, 4, some (.int))
theorem mvX6_shift : zMV mX6_shift 2 := ⟨tw_627, tw_628, tw_1, tw_629, (by decide +kernel), (by decide)⟩
def mX6_cover : zMt := (yX6_cover, cX6_cover, 3, some (.int))
theorem mvX6_cover : zMV mX6_cover 1 := ⟨tw_640, tw_641, tw_1, tw_642, (by decide +kernel), (by decide)⟩
def mX6_spread : zMt := (yX6_spread, cX6_spread, 3, some (.int))
theorem mvX6_spread : zMV mX6_spread 2 := ⟨tw_659, tw_660, tw_1, tw_661, (by decide +kernel), (by decide)⟩
def mX6_skins : zMt := (yX6_skins, cX6_skins, 3, some (.int))
theorem mvX6_skins : zMV mX6_skins 2 := ⟨tw_672, tw_673, tw_1, tw_674, (by decide +kernel), (by decide)⟩
def mX6_fits : zMt := (yX6_fits, cX6_fits, 6, some (.int))
theorem mvX6_fits : zMV mX6_fits 5 := ⟨tw_684, tw_685, tw_1, tw_686, (by decide +kernel), (by decide)⟩
def mX6_drops : zMt := (yX6_drops, cX6_drops, 8, some (.int))
theorem mvX6_drops : zMV mX6_drops 4 := ⟨tw_713, tw_714, tw_1, tw_715, (by decide +kernel), (by decide)⟩
def mX6_drawn : zMt := (yX6_drawn, cX6_drawn, 5, some (.int))
theorem mvX6_drawn : zMV mX6_drawn 3 := ⟨tw_733, tw_734, tw_1, tw_735, (by decide +kernel), (by decide)⟩
def mX6_image : zMt := (yX6_image, cX6_image, 2, some (.int))
theorem mvX6_image : zMV mX6_image 1 := ⟨tw_748, tw_749, tw_1, tw_750, (by decide +kernel), (by decide)⟩
def mX6_restore : zMt := (yX6_restore, cX6_restore, 2, some (.int))
theorem mvX6_restore : zMV mX6_restore 1 := ⟨tw_756, tw_757, tw_1, tw_758, (by decide +kernel), (by decide)⟩
def mX6_kind : zMt := (yX6_kind, cX6_kind, 2, some (.int))
theorem mvX6_kind : zMV mX6_kind 1 := ⟨tw_760, tw_761, tw_1, tw_762, (by decide +kernel), (by decide)⟩
def mX6_as : zMt := (yX6_as, cX6_as, 3, some (.int))
theorem mvX6_as : zMV mX6_as 2 := ⟨tw_764, tw_765, tw_1, tw_766, (by decide +kernel), (by decide)⟩
def mX6_ask : zMt := (yX6_ask, cX6_ask, 3, some (.int))
theorem mvX6_ask : zMV mX6_ask 2 := ⟨tw_773, tw_774, tw_1, tw_775, (by decide +kernel), (by decide)⟩
def mX6_trace : zMt := (yX6_trace, cX6_trace, 2, some (.int))
theorem mvX6_trace : zMV mX6_trace 1 := ⟨tw_793, tw_794, tw_1, tw_795, (by decide +kernel), (by decide)⟩
def mX6_count : zMt := (yX6_count, cX6_count, 2, some (.int))
theorem mvX6_count : zMV mX6_count 1 := ⟨tw_797, tw_798, tw_1, tw_799, (by decide +kernel), (by decide)⟩
def mX6_status : zMt := (yX6_status, cX6_status, 1, some (.int))
theorem mvX6_status : zMV mX6_status 0 := ⟨tw_806, tw_807, tw_1, tw_808, (by decide +kernel), (by decide)⟩
def mX6_found : zMt := (yX6_found, cX6_found, 2, some (.int))
theorem mvX6_found : zMV mX6_found 1 := ⟨tw_256, tp_0, tw_1, tw_257, (by decide +kernel), (by decide)⟩
def mX6_fine : zMt := (yX6_fine, cX6_fine, 2, some (.int))
theorem mvX6_fine : zMV mX6_fine 1 := ⟨tw_265, tp_1, tw_1, tw_266, (by decide +kernel), (by decide)⟩
def mX6_noTown : zMt := (yX6_noTown, cX6_noTown, 1, some (.boolean))
theorem mvX6_noTown : zMV mX6_noTown 0 := ⟨tw_463, tp_11, tw_1, tw_464, (by decide +kernel), (by decide)⟩
def mX6_keptImage : zMt := (yX6_keptImage, cX6_keptImage, 2, some (.object "DrumPeace$Town"))
theorem mvX6_keptImage : zMV mX6_keptImage 1 := ⟨tw_753, tp_22, tw_1, tw_754, (by decide +kernel), (by decide)⟩
def mX6_isNoHalf : zMt := (yX6_isNoHalf, cX6_isNoHalf, 1, some (.boolean))
theorem msX6_isNoHalf : zMS mX6_isNoHalf 1 := ⟨tw_559, tw_1, tw_560, (by decide +kernel), (by decide)⟩
def mX6_isNoFarHour : zMt := (yX6_isNoFarHour, cX6_isNoFarHour, 1, some (.boolean))
theorem msX6_isNoFarHour : zMS mX6_isNoFarHour 1 := ⟨tw_556, tw_1, tw_557, (by decide +kernel), (by decide)⟩
def mX7_init : zMt := (yX7_init, cX7_init, 2, none)
theorem mnX7_init : zMN mX7_init 0 := ⟨tw_812, rfl, tw_9, tw_813, rfl, (by decide +kernel), (by decide)⟩
def mX7_in : zMt := (yX7_in, cX7_in, 6, some (.boolean))
theorem msX7_in : zMS mX7_in 3 := ⟨tw_877, tw_9, tw_878, (by decide +kernel), (by decide)⟩
def mX7_has : zMt := (yX7_has, cX7_has, 2, some (.boolean))
theorem msX7_has : zMS mX7_has 2 := ⟨tw_1082, tw_9, tw_1083, (by decide +kernel), (by decide)⟩
def mX7_ones : zMt := (yX7_ones, cX7_ones, 3, some (.int))
theorem msX7_ones : zMS mX7_ones 1 := ⟨tw_1070, tw_9, tw_1071, (by decide +kernel), (by decide)⟩
def mX7_copyOf : zMt := (yX7_copyOf, cX7_copyOf, 4, none)
theorem mvX7_copyOf : zMV mX7_copyOf 2 := ⟨tw_952, tp_35, tw_9, tw_953, (by decide +kernel), (by decide)⟩
def mX7_isStreet : zMt := (yX7_isStreet, cX7_isStreet, 2, some (.boolean))
theorem mvX7_isStreet : zMV mX7_isStreet 1 := ⟨tw_1004, tp_42, tw_9, tw_1005, (by decide +kernel), (by decide)⟩
def mX7_isTown : zMt := (yX7_isTown, cX7_isTown, 1, some (.boolean))
theorem mvX7_isTown : zMV mX7_isTown 0 := ⟨tw_964, tp_36, tw_9, tw_965, (by decide +kernel), (by decide)⟩
def mX7_isRow : zMt := (yX7_isRow, cX7_isRow, 1, some (.boolean))
theorem msX7_isRow : zMS mX7_isRow 1 := ⟨tw_873, tw_9, tw_874, (by decide +kernel), (by decide)⟩
def mX7_finds : zMt := (yX7_finds, cX7_finds, 2, some (.int))
theorem mvX7_finds : zMV mX7_finds 1 := ⟨tw_883, tp_25, tw_9, tw_884, (by decide +kernel), (by decide)⟩
def mX7_against : zMt := (yX7_against, cX7_against, 4, some (.int))
theorem mvX7_against : zMV mX7_against 3 := ⟨tw_892, tp_26, tw_9, tw_893, (by decide +kernel), (by decide)⟩
def mX7_row : zMt := (yX7_row, cX7_row, 5, some (.int))
theorem mvX7_row : zMV mX7_row 3 := ⟨tw_869, tw_870, tw_9, tw_871, (by decide +kernel), (by decide)⟩
def mX7_set : zMt := (yX7_set, cX7_set, 5, some (.int))
theorem mvX7_set : zMV mX7_set 3 := ⟨tw_887, tw_888, tw_9, tw_889, (by decide +kernel), (by decide)⟩
def mX7_copy : zMt := (yX7_copy, cX7_copy, 7, some (.int))
theorem mvX7_copy : zMV mX7_copy 5 := ⟨tw_895, tw_896, tw_9, tw_897, (by decide +kernel), (by decide)⟩
def mX7_drop : zMt := (yX7_drop, cX7_drop, 3, some (.int))
theorem mvX7_drop : zMV mX7_drop 1 := ⟨tw_899, tw_900, tw_9, tw_901, (by decide +kernel), (by decide)⟩
def mX7_feed : zMt := (yX7_feed, cX7_feed, 2, some (.int))
theorem mvX7_feed : zMV mX7_feed 1 := ⟨tw_903, tw_904, tw_9, tw_905, (by decide +kernel), (by decide)⟩
def mX7_here : zMt := (yX7_here, cX7_here, 1, some (.int))
theorem mvX7_here : zMV mX7_here 0 := ⟨tw_926, tp_30, tw_9, tw_927, (by decide +kernel), (by decide)⟩
def mX7_fails : zMt := (yX7_fails, cX7_fails, 3, some (.boolean))
theorem mvX7_fails : zMV mX7_fails 2 := ⟨tw_930, tp_31, tw_9, tw_931, (by decide +kernel), (by decide)⟩
def mX7_takes : zMt := (yX7_takes, cX7_takes, 2, some (.boolean))
theorem mvX7_takes : zMV mX7_takes 1 := ⟨tw_922, tp_29, tw_9, tw_923, (by decide +kernel), (by decide)⟩
def mX7_takesNumber : zMt := (yX7_takesNumber, cX7_takesNumber, 4, some (.boolean))
theorem mvX7_takesNumber : zMV mX7_takesNumber 2 := ⟨tw_934, tp_32, tw_9, tw_935, (by decide +kernel), (by decide)⟩
def mX7_kindOf : zMt := (yX7_kindOf, cX7_kindOf, 1, some (.int))
theorem msX7_kindOf : zMS mX7_kindOf 1 := ⟨tw_943, tw_9, tw_944, (by decide +kernel), (by decide)⟩
def mX7_takesLaw : zMt := (yX7_takesLaw, cX7_takesLaw, 1, some (.boolean))
theorem mvX7_takesLaw : zMV mX7_takesLaw 0 := ⟨tw_918, tp_28, tw_9, tw_919, (by decide +kernel), (by decide)⟩
def mX7_takesStreet : zMt := (yX7_takesStreet, cX7_takesStreet, 3, some (.boolean))
theorem mvX7_takesStreet : zMV mX7_takesStreet 0 := ⟨tw_940, tp_33, tw_9, tw_941, (by decide +kernel), (by decide)⟩
def mX7_takesBeat : zMt := (yX7_takesBeat, cX7_takesBeat, 1, some (.boolean))
theorem mvX7_takesBeat : zMV mX7_takesBeat 0 := ⟨tw_947, tp_34, tw_9, tw_948, (by decide +kernel), (by decide)⟩
def mX7_takesAll : zMt := (yX7_takesAll, cX7_takesAll, 1, some (.boolean))
theorem mvX7_takesAll : zMV mX7_takesAll 0 := ⟨tw_914, tp_27, tw_9, tw_915, (by decide +kernel), (by decide)⟩
def mX7_town : zMt := (yX7_town, cX7_town, 2, some (.int))
theorem mvX7_town : zMV mX7_town 0 := ⟨tw_909, tw_910, tw_9, tw_911, (by decide +kernel), (by decide)⟩
def mX7_fault : zMt := (yX7_fault, cX7_fault, 1, some (.int))
theorem mvX7_fault : zMV mX7_fault 0 := ⟨tw_955, tw_956, tw_9, tw_957, (by decide +kernel), (by decide)⟩
def mX7_gap : zMt := (yX7_gap, cX7_gap, 2, some (.int))
theorem msX7_gap : zMS mX7_gap 2 := ⟨tw_985, tw_9, tw_986, (by decide +kernel), (by decide)⟩
def mX7_hears : zMt := (yX7_hears, cX7_hears, 3, some (.boolean))
theorem mvX7_hears : zMV mX7_hears 2 := ⟨tw_982, tp_40, tw_9, tw_983, (by decide +kernel), (by decide)⟩
def mX7_bounded : zMt := (yX7_bounded, cX7_bounded, 1, some (.int))
theorem msX7_bounded : zMS mX7_bounded 1 := ⟨tw_991, tw_9, tw_992, (by decide +kernel), (by decide)⟩
def mX7_deepBy : zMt := (yX7_deepBy, cX7_deepBy, 4, some (.int))
theorem msX7_deepBy : zMS mX7_deepBy 4 := ⟨tw_988, tw_9, tw_989, (by decide +kernel), (by decide)⟩
def mX7_robbedIn : zMt := (yX7_robbedIn, cX7_robbedIn, 3, some (.int))
theorem mvX7_robbedIn : zMV mX7_robbedIn 2 := ⟨tw_978, tp_39, tw_9, tw_979, (by decide +kernel), (by decide)⟩
def mX7_passes : zMt := (yX7_passes, cX7_passes, 5, none)
theorem mvX7_passes : zMV mX7_passes 1 := ⟨tw_974, tp_38, tw_9, tw_975, (by decide +kernel), (by decide)⟩
def mX7_awake : zMt := (yX7_awake, cX7_awake, 4, some (.int))
theorem mvX7_awake : zMV mX7_awake 1 := ⟨tw_996, tp_41, tw_9, tw_997, (by decide +kernel), (by decide)⟩
def mX7_minds : zMt := (yX7_minds, cX7_minds, 2, none)
theorem mvX7_minds : zMV mX7_minds 0 := ⟨tw_970, tp_37, tw_9, tw_971, (by decide +kernel), (by decide)⟩
def mX7_hours : zMt := (yX7_hours, cX7_hours, 3, some (.int))
theorem mvX7_hours : zMV mX7_hours 1 := ⟨tw_959, tw_960, tw_9, tw_961, (by decide +kernel), (by decide)⟩
def mX7_beat : zMt := (yX7_beat, cX7_beat, 4, some (.int))
theorem mvX7_beat : zMV mX7_beat 2 := ⟨tw_999, tw_1000, tw_9, tw_1001, (by decide +kernel), (by decide)⟩
def mX7_reach : zMt := (yX7_reach, cX7_reach, 3, some (.int))
theorem mvX7_reach : zMV mX7_reach 1 := ⟨tw_1007, tw_1008, tw_9, tw_1009, (by decide +kernel), (by decide)⟩
def mX7_lull : zMt := (yX7_lull, cX7_lull, 3, some (.int))
theorem mvX7_lull : zMV mX7_lull 2 := ⟨tw_1012, tw_1013, tw_9, tw_1014, (by decide +kernel), (by decide)⟩
def mX7_bring : zMt := (yX7_bring, cX7_bring, 3, some (.int))
theorem mvX7_bring : zMV mX7_bring 2 := ⟨tw_1017, tw_1018, tw_9, tw_1019, (by decide +kernel), (by decide)⟩
def mX7_undo : zMt := (yX7_undo, cX7_undo, 1, some (.int))
theorem mvX7_undo : zMV mX7_undo 0 := ⟨tw_1022, tw_1023, tw_9, tw_1024, (by decide +kernel), (by decide)⟩
def mX7_street : zMt := (yX7_street, cX7_street, 3, some (.int))
theorem mvX7_street : zMV mX7_street 2 := ⟨tw_1026, tw_1027, tw_9, tw_1028, (by decide +kernel), (by decide)⟩
def mX7_round : zMt := (yX7_round, cX7_round, 2, some (.int))
theorem mvX7_round : zMV mX7_round 1 := ⟨tw_1030, tw_1031, tw_9, tw_1032, (by decide +kernel), (by decide)⟩
def mX7_tries : zMt := (yX7_tries, cX7_tries, 1, none)
theorem mvX7_tries : zMV mX7_tries 0 := ⟨tw_1039, tp_43, tw_9, tw_1040, (by decide +kernel), (by decide)⟩
def mX7_goesOn : zMt := (yX7_goesOn, cX7_goesOn, 3, none)
theorem mvX7_goesOn : zMV mX7_goesOn 1 := ⟨tw_1043, tp_44, tw_9, tw_1044, (by decide +kernel), (by decide)⟩
def mX7_ahead : zMt := (yX7_ahead, cX7_ahead, 4, some (.int))
theorem mvX7_ahead : zMV mX7_ahead 3 := ⟨tw_1034, tw_1035, tw_9, tw_1036, (by decide +kernel), (by decide)⟩
def mX7_later : zMt := (yX7_later, cX7_later, 3, some (.int))
theorem mvX7_later : zMV mX7_later 2 := ⟨tw_1046, tw_1047, tw_9, tw_1048, (by decide +kernel), (by decide)⟩
def mX7_allAwake : zMt := (yX7_allAwake, cX7_allAwake, 3, some (.int))
theorem mvX7_allAwake : zMV mX7_allAwake 1 := ⟨tw_1055, tp_45, tw_9, tw_1056, (by decide +kernel), (by decide)⟩
def mX7_wakes : zMt := (yX7_wakes, cX7_wakes, 2, some (.int))
theorem mvX7_wakes : zMV mX7_wakes 1 := ⟨tw_1050, tw_1051, tw_9, tw_1052, (by decide +kernel), (by decide)⟩
def mX7_alarm : zMt := (yX7_alarm, cX7_alarm, 1, some (.int))
theorem mvX7_alarm : zMV mX7_alarm 0 := ⟨tw_1059, tw_1060, tw_9, tw_1061, (by decide +kernel), (by decide)⟩
def mX7_tune : zMt := (yX7_tune, cX7_tune, 12, some (.int))
theorem mvX7_tune : zMV mX7_tune 3 := ⟨tw_1063, tw_1064, tw_9, tw_1065, (by decide +kernel), (by decide)⟩
def mX7_shift : zMt := (yX7_shift, cX7_shift, 8, some (.int))
theorem mvX7_shift : zMV mX7_shift 2 := ⟨tw_1073, tw_1074, tw_9, tw_1075, (by decide +kernel), (by decide)⟩
def mX7_cover : zMt := (yX7_cover, cX7_cover, 8, some (.int))
theorem mvX7_cover : zMV mX7_cover 1 := ⟨tw_1078, tw_1079, tw_9, tw_1080, (by decide +kernel), (by decide)⟩
def mX7_spread : zMt := (yX7_spread, cX7_spread, 4, some (.int))
theorem mvX7_spread : zMV mX7_spread 2 := ⟨tw_1085, tw_1086, tw_9, tw_1087, (by decide +kernel), (by decide)⟩
def mX7_skins : zMt := (yX7_skins, cX7_skins, 7, some (.int))
theorem mvX7_skins : zMV mX7_skins 2 := ⟨tw_1089, tw_1090, tw_9, tw_1091, (by decide +kernel), (by decide)⟩
def mX7_isSo : zMt := (yX7_isSo, cX7_isSo, 6, some (.boolean))
theorem mvX7_isSo : zMV mX7_isSo 3 := ⟨tw_1099, tp_46, tw_9, tw_1100, (by decide +kernel), (by decide)⟩
def mX7_fits : zMt := (yX7_fits, cX7_fits, 12, some (.int))
theorem mvX7_fits : zMV mX7_fits 5 := ⟨tw_1094, tw_1095, tw_9, tw_1096, (by decide +kernel), (by decide)⟩
def mX7_drops : zMt := (yX7_drops, cX7_drops, 15, some (.int))
theorem mvX7_drops : zMV mX7_drops 4 := ⟨tw_1102, tw_1103, tw_9, tw_1104, (by decide +kernel), (by decide)⟩
def mX7_drawn : zMt := (yX7_drawn, cX7_drawn, 8, some (.int))
theorem mvX7_drawn : zMV mX7_drawn 3 := ⟨tw_1108, tw_1109, tw_9, tw_1110, (by decide +kernel), (by decide)⟩
def mX7_image : zMt := (yX7_image, cX7_image, 2, some (.int))
theorem mvX7_image : zMV mX7_image 1 := ⟨tw_1116, tw_1117, tw_9, tw_1118, (by decide +kernel), (by decide)⟩
def mX7_restore : zMt := (yX7_restore, cX7_restore, 2, some (.int))
theorem mvX7_restore : zMV mX7_restore 1 := ⟨tw_1120, tw_1121, tw_9, tw_1122, (by decide +kernel), (by decide)⟩
def mX7_kind : zMt := (yX7_kind, cX7_kind, 2, some (.int))
theorem mvX7_kind : zMV mX7_kind 1 := ⟨tw_1124, tw_1125, tw_9, tw_1126, (by decide +kernel), (by decide)⟩
def mX7_isA : zMt := (yX7_isA, cX7_isA, 2, some (.boolean))
theorem msX7_isA : zMS mX7_isA 2 := ⟨tw_1132, tw_9, tw_1133, (by decide +kernel), (by decide)⟩
def mX7_as : zMt := (yX7_as, cX7_as, 3, some (.int))
theorem mvX7_as : zMV mX7_as 2 := ⟨tw_1128, tw_1129, tw_9, tw_1130, (by decide +kernel), (by decide)⟩
def mX7_traces : zMt := (yX7_traces, cX7_traces, 2, none)
theorem mvX7_traces : zMV mX7_traces 1 := ⟨tw_1144, tp_48, tw_9, tw_1145, (by decide +kernel), (by decide)⟩
def mX7_size10 : zMt := (yX7_size10, cX7_size10, 2, some (.int))
theorem mvX7_size10 : zMV mX7_size10 1 := ⟨tw_1152, tp_50, tw_9, tw_1153, (by decide +kernel), (by decide)⟩
def mX7_size11 : zMt := (yX7_size11, cX7_size11, 3, some (.int))
theorem mvX7_size11 : zMV mX7_size11 1 := ⟨tw_1148, tp_49, tw_9, tw_1149, (by decide +kernel), (by decide)⟩
def mX7_size13 : zMt := (yX7_size13, cX7_size13, 2, some (.int))
theorem mvX7_size13 : zMV mX7_size13 1 := ⟨tw_1168, tp_54, tw_9, tw_1169, (by decide +kernel), (by decide)⟩
def mX7_sizeOf : zMt := (yX7_sizeOf, cX7_sizeOf, 2, some (.int))
theorem mvX7_sizeOf : zMV mX7_sizeOf 1 := ⟨tw_1140, tp_47, tw_9, tw_1141, (by decide +kernel), (by decide)⟩
def mX7_mark20 : zMt := (yX7_mark20, cX7_mark20, 2, some (.int))
theorem mvX7_mark20 : zMV mX7_mark20 1 := ⟨tw_1164, tp_53, tw_9, tw_1165, (by decide +kernel), (by decide)⟩
def mX7_mark21 : zMt := (yX7_mark21, cX7_mark21, 2, some (.int))
theorem mvX7_mark21 : zMV mX7_mark21 1 := ⟨tw_1160, tp_52, tw_9, tw_1161, (by decide +kernel), (by decide)⟩
def mX7_markOf : zMt := (yX7_markOf, cX7_markOf, 2, some (.int))
theorem mvX7_markOf : zMV mX7_markOf 1 := ⟨tw_1156, tp_51, tw_9, tw_1157, (by decide +kernel), (by decide)⟩
def mX7_mark23 : zMt := (yX7_mark23, cX7_mark23, 3, some (.int))
theorem mvX7_mark23 : zMV mX7_mark23 1 := ⟨tw_1172, tp_55, tw_9, tw_1173, (by decide +kernel), (by decide)⟩
def mX7_ask : zMt := (yX7_ask, cX7_ask, 3, some (.int))
theorem mvX7_ask : zMV mX7_ask 2 := ⟨tw_1135, tw_1136, tw_9, tw_1137, (by decide +kernel), (by decide)⟩
def mX7_trace : zMt := (yX7_trace, cX7_trace, 2, some (.int))
theorem mvX7_trace : zMV mX7_trace 1 := ⟨tw_1175, tw_1176, tw_9, tw_1177, (by decide +kernel), (by decide)⟩
def mX7_rowsThere : zMt := (yX7_rowsThere, cX7_rowsThere, 3, some (.int))
theorem mvX7_rowsThere : zMV mX7_rowsThere 0 := ⟨tw_1184, tp_56, tw_9, tw_1185, (by decide +kernel), (by decide)⟩
def mX7_count : zMt := (yX7_count, cX7_count, 2, some (.int))
theorem mvX7_count : zMV mX7_count 1 := ⟨tw_1179, tw_1180, tw_9, tw_1181, (by decide +kernel), (by decide)⟩
def mX7_status : zMt := (yX7_status, cX7_status, 1, some (.int))
theorem mvX7_status : zMV mX7_status 0 := ⟨tw_1187, tw_1188, tw_9, tw_1189, (by decide +kernel), (by decide)⟩
def mJ11_isValidCodePoint_9a6ad : zMt := (yJ11_isValidCodePoint_9a6ad, cJ11_isValidCodePoint_9a6ad, 2, some (.boolean))
theorem msJ11_isValidCodePoint_9a6ad : zMS mJ11_isValidCodePoint_9a6ad 1 := ⟨tw_424, tw_16, tw_425, (by decide +kernel), (by decide)⟩
def mJ11_highSurrogate_5068e : zMt := (yJ11_highSurrogate_5068e, cJ11_highSurrogate_5068e, 1, some (.char))
theorem msJ11_highSurrogate_5068e : zMS mJ11_highSurrogate_5068e 1 := ⟨tw_427, tw_16, tw_428, (by decide +kernel), (by decide)⟩
def mJ11_lowSurrogate_5068e : zMt := (yJ11_lowSurrogate_5068e, cJ11_lowSurrogate_5068e, 1, some (.char))
theorem msJ11_lowSurrogate_5068e : zMS mJ11_lowSurrogate_5068e 1 := ⟨tw_431, tw_16, tw_432, (by decide +kernel), (by decide)⟩
def mJ6_bitCount_0f7a4 : zMt := (yJ6_bitCount_0f7a4, cJ6_bitCount_0f7a4, 1, some (.int))
theorem msJ6_bitCount_0f7a4 : zMS mJ6_bitCount_0f7a4 1 := ⟨tw_649, tw_17, tw_650, (by decide +kernel), (by decide)⟩
def mJ9_abs_0f7a4 : zMt := (yJ9_abs_0f7a4, cJ9_abs_0f7a4, 1, some (.int))
theorem msJ9_abs_0f7a4 : zMS mJ9_abs_0f7a4 1 := ⟨tw_485, tw_13, tw_486, (by decide +kernel), (by decide)⟩
def mJ9_max_7cf53 : zMt := (yJ9_max_7cf53, cJ9_max_7cf53, 2, some (.int))
theorem msJ9_max_7cf53 : zMS mJ9_max_7cf53 2 := ⟨tw_377, tw_13, tw_378, (by decide +kernel), (by decide)⟩
def mJ9_min_7cf53 : zMt := (yJ9_min_7cf53, cJ9_min_7cf53, 2, some (.int))
theorem msJ9_min_7cf53 : zMS mJ9_min_7cf53 2 := ⟨tw_380, tw_13, tw_381, (by decide +kernel), (by decide)⟩
def mJ0_length_8abf5 : zMt := (yJ0_length_8abf5, cJ0_length_8abf5, 1, some (.int))
theorem mvJ0_length_8abf5 : zMV mJ0_length_8abf5 0 := ⟨tw_363, tw_364, tw_11, tw_365, (by decide +kernel), (by decide)⟩
def mJ0_indexOf_0f7a4 : zMt := (yJ0_indexOf_0f7a4, cJ0_indexOf_0f7a4, 2, some (.int))
theorem mvJ0_indexOf_0f7a4 : zMV mJ0_indexOf_0f7a4 1 := ⟨tw_349, tw_350, tw_11, tw_351, (by decide +kernel), (by decide)⟩
def mJ0_indexOf_7cf53 : zMt := (yJ0_indexOf_7cf53, cJ0_indexOf_7cf53, 3, some (.int))
theorem mvJ0_indexOf_7cf53 : zMV mJ0_indexOf_7cf53 2 := ⟨tw_353, tw_354, tw_11, tw_355, (by decide +kernel), (by decide)⟩
def mJ0_coder_7d493 : zMt := (yJ0_coder_7d493, cJ0_coder_7d493, 1, some (.byte))
theorem mvJ0_coder_7d493 : zMV mJ0_coder_7d493 0 := ⟨tw_367, tw_368, tw_11, tw_369, (by decide +kernel), (by decide)⟩
def mJ0_isLatin1_aae02 : zMt := (yJ0_isLatin1_aae02, cJ0_isLatin1_aae02, 1, some (.boolean))
theorem mvJ0_isLatin1_aae02 : zMV mJ0_isLatin1_aae02 0 := ⟨tw_357, tw_358, tw_11, tw_359, (by decide +kernel), (by decide)⟩
def mJ0_checkBoundsBeginEnd_23922 : zMt := (yJ0_checkBoundsBeginEnd_23922, cJ0_checkBoundsBeginEnd_23922, 3, none)
theorem msJ0_checkBoundsBeginEnd_23922 : zMS mJ0_checkBoundsBeginEnd_23922 3 := ⟨tw_401, tw_11, tw_402, (by decide +kernel), (by decide)⟩
def mJ1_canEncode_9a6ad : zMt := (yJ1_canEncode_9a6ad, cJ1_canEncode_9a6ad, 1, some (.boolean))
theorem msJ1_canEncode_9a6ad : zMS mJ1_canEncode_9a6ad 1 := ⟨tw_374, tw_12, tw_375, (by decide +kernel), (by decide)⟩
def mJ1_indexOf_4cfef : zMt := (yJ1_indexOf_4cfef, cJ1_indexOf_4cfef, 4, some (.int))
theorem msJ1_indexOf_4cfef : zMS mJ1_indexOf_4cfef 4 := ⟨tw_371, tw_12, tw_372, (by decide +kernel), (by decide)⟩
def mJ1_indexOfChar_4cfef : zMt := (yJ1_indexOfChar_4cfef, cJ1_indexOfChar_4cfef, 6, some (.int))
theorem msJ1_indexOfChar_4cfef : zMS mJ1_indexOfChar_4cfef 4 := ⟨tw_383, tw_12, tw_384, (by decide +kernel), (by decide)⟩
def mJ2_getChar_3b067 : zMt := (yJ2_getChar_3b067, cJ2_getChar_3b067, 2, some (.char))
theorem msJ2_getChar_3b067 : zMS mJ2_getChar_3b067 2 := ⟨tw_412, tw_14, tw_413, (by decide +kernel), (by decide)⟩
def mJ2_length_9d52b : zMt := (yJ2_length_9d52b, cJ2_length_9d52b, 1, some (.int))
theorem msJ2_length_9d52b : zMS mJ2_length_9d52b 1 := ⟨tw_398, tw_14, tw_399, (by decide +kernel), (by decide)⟩
def mJ2_indexOf_4cfef : zMt := (yJ2_indexOf_4cfef, cJ2_indexOf_4cfef, 4, some (.int))
theorem msJ2_indexOf_4cfef : zMS mJ2_indexOf_4cfef 4 := ⟨tw_386, tw_14, tw_387, (by decide +kernel), (by decide)⟩
def mJ2_indexOfChar_4cfef : zMt := (yJ2_indexOfChar_4cfef, cJ2_indexOfChar_4cfef, 4, some (.int))
theorem msJ2_indexOfChar_4cfef : zMS mJ2_indexOfChar_4cfef 4 := ⟨tw_392, tw_14, tw_393, (by decide +kernel), (by decide)⟩
def mJ2_indexOfCharUnsafe_4cfef : zMt := (yJ2_indexOfCharUnsafe_4cfef, cJ2_indexOfCharUnsafe_4cfef, 5, some (.int))
theorem msJ2_indexOfCharUnsafe_4cfef : zMS mJ2_indexOfCharUnsafe_4cfef 4 := ⟨tw_409, tw_14, tw_410, (by decide +kernel), (by decide)⟩
def mJ2_indexOfSupplementary_4cfef : zMt := (yJ2_indexOfSupplementary_4cfef, cJ2_indexOfSupplementary_4cfef, 7, some (.int))
theorem msJ2_indexOfSupplementary_4cfef : zMS mJ2_indexOfSupplementary_4cfef 4 := ⟨tw_421, tw_14, tw_422, (by decide +kernel), (by decide)⟩
def mJ2_checkBoundsBeginEnd_d044e : zMt := (yJ2_checkBoundsBeginEnd_d044e, cJ2_checkBoundsBeginEnd_d044e, 3, none)
theorem msJ2_checkBoundsBeginEnd_d044e : zMS mJ2_checkBoundsBeginEnd_d044e 3 := ⟨tw_395, tw_14, tw_396, (by decide +kernel), (by decide)⟩
def mJ7_fill_53178 : zMt := (yJ7_fill_53178, cJ7_fill_53178, 4, none)
theorem msJ7_fill_53178 : zMS mJ7_fill_53178 2 := ⟨tw_35, tw_3, tw_36, (by decide +kernel), (by decide)⟩
def mJ3_checkFromToIndex_8c36e : zMt := (yJ3_checkFromToIndex_8c36e, cJ3_checkFromToIndex_8c36e, 4, some (.int))
theorem msJ3_checkFromToIndex_8c36e : zMS mJ3_checkFromToIndex_8c36e 4 := ⟨tw_406, tw_15, tw_407, (by decide +kernel), (by decide)⟩
theorem fgX3_11 : zFld RX3 11 3 0 := ⟨_, rfl, by decide, tw_37⟩
theorem fwX3_11 : zFldW RX3 11 3 0 true (.array (.array .int)) := ⟨_, rfl, by decide, tw_37, rfl, by decide +kernel, fun _ => rfl⟩
theorem fgX6_91 : zFld RX6 91 3 0 := ⟨_, rfl, by decide, tw_38⟩
-- X6_91 is final and another's
theorem fgX3_14 : zFld RX3 14 3 1 := ⟨_, rfl, by decide, tw_39⟩
theorem fwX3_14 : zFldW RX3 14 3 1 true (.array .int) := ⟨_, rfl, by decide, tw_39, rfl, by decide +kernel, fun _ => rfl⟩
theorem fgX6_87 : zFld RX6 87 3 1 := ⟨_, rfl, by decide, tw_40⟩
-- X6_87 is final and another's
theorem fgX3_18 : zFld RX3 18 3 2 := ⟨_, rfl, by decide, tw_41⟩
theorem fwX3_18 : zFldW RX3 18 3 2 true (.array .int) := ⟨_, rfl, by decide, tw_41, rfl, by decide +kernel, fun _ => rfl⟩
theorem fgX4_9 : zFld RX4 9 4 0 := ⟨_, rfl, by decide, tw_56⟩
theorem fwX4_9 : zFldW RX4 9 4 0 true (.array .int) := ⟨_, rfl, by decide, tw_56, rfl, by decide +kernel, fun _ => rfl⟩
theorem fgX4_13 : zFld RX4 13 4 1 := ⟨_, rfl, by decide, tw_57⟩
theorem fwX4_13 : zFldW RX4 13 4 1 false (.int) := ⟨_, rfl, by decide, tw_57, rfl, by decide +kernel, fun h => by cases h⟩
theorem fgX6_107 : zFld RX6 107 4 1 := ⟨_, rfl, by decide, tw_58⟩
theorem fwX6_107 : zFldW RX6 107 4 1 false (.int) := ⟨_, rfl, by decide, tw_58, rfl, by decide +kernel, fun h => by cases h⟩
theorem fgX6_130 : zFld RX6 130 4 2 := ⟨_, rfl, by decide, tw_59⟩
theorem fwX6_130 : zFldW RX6 130 4 2 false (.int) := ⟨_, rfl, by decide, tw_59, rfl, by decide +kernel, fun h => by cases h⟩
theorem fgX4_86 : zFld RX4 86 4 2 := ⟨_, rfl, by decide, tw_60⟩
theorem fwX4_86 : zFldW RX4 86 4 2 false (.int) := ⟨_, rfl, by decide, tw_60, rfl, by decide +kernel, fun h => by cases h⟩
theorem fgX6_117 : zFld RX6 117 4 3 := ⟨_, rfl, by decide, tw_61⟩
theorem fwX6_117 : zFldW RX6 117 4 3 false (.int) := ⟨_, rfl, by decide, tw_61, rfl, by decide +kernel, fun h => by cases h⟩
theorem fgX4_89 : zFld RX4 89 4 3 := ⟨_, rfl, by decide, tw_62⟩
theorem fwX4_89 : zFldW RX4 89 4 3 false (.int) := ⟨_, rfl, by decide, tw_62, rfl, by decide +kernel, fun h => by cases h⟩
theorem fgX4_17 : zFld RX4 17 4 4 := ⟨_, rfl, by decide, tw_63⟩
theorem fwX4_17 : zFldW RX4 17 4 4 false (.int) := ⟨_, rfl, by decide, tw_63, rfl, by decide +kernel, fun h => by cases h⟩
theorem fgX5_9 : zFld RX5 9 5 0 := ⟨_, rfl, by decide, tw_81⟩
theorem fwX5_9 : zFldW RX5 9 5 0 true (.array .int) := ⟨_, rfl, by decide, tw_81, rfl, by decide +kernel, fun _ => rfl⟩
theorem fgX1_20 : zFld RX1 20 5 0 := ⟨_, rfl, by decide, tw_82⟩
-- X1_20 is final and another's
theorem fgX4_65 : zFld RX4 65 5 0 := ⟨_, rfl, by decide, tw_83⟩
-- X4_65 is final and another's
theorem fgX2_97 : zFld RX2 97 5 0 := ⟨_, rfl, by decide, tw_84⟩
-- X2_97 is final and another's
theorem fgX6_184 : zFld RX6 184 5 0 := ⟨_, rfl, by decide, tw_85⟩
-- X6_184 is final and another's
theorem fgX5_13 : zFld RX5 13 5 1 := ⟨_, rfl, by decide, tw_86⟩
theorem fwX5_13 : zFldW RX5 13 5 1 true (.array .int) := ⟨_, rfl, by decide, tw_86, rfl, by decide +kernel, fun _ => rfl⟩
theorem fgX1_42 : zFld RX1 42 5 1 := ⟨_, rfl, by decide, tw_87⟩
-- X1_42 is final and another's
theorem fgX4_68 : zFld RX4 68 5 1 := ⟨_, rfl, by decide, tw_88⟩
-- X4_68 is final and another's
theorem fgX2_81 : zFld RX2 81 5 1 := ⟨_, rfl, by decide, tw_89⟩
-- X2_81 is final and another's
theorem fgX6_163 : zFld RX6 163 5 1 := ⟨_, rfl, by decide, tw_90⟩
-- X6_163 is final and another's
theorem fgX5_16 : zFld RX5 16 5 2 := ⟨_, rfl, by decide, tw_91⟩
theorem fwX5_16 : zFldW RX5 16 5 2 true (.array .int) := ⟨_, rfl, by decide, tw_91, rfl, by decide +kernel, fun _ => rfl⟩
theorem fgX1_39 : zFld RX1 39 5 2 := ⟨_, rfl, by decide, tw_92⟩
-- X1_39 is final and another's
theorem fgX4_71 : zFld RX4 71 5 2 := ⟨_, rfl, by decide, tw_93⟩
-- X4_71 is final and another's
theorem fgX2_84 : zFld RX2 84 5 2 := ⟨_, rfl, by decide, tw_94⟩
-- X2_84 is final and another's
theorem fgX6_172 : zFld RX6 172 5 2 := ⟨_, rfl, by decide, tw_95⟩
-- X6_172 is final and another's
theorem fgX5_19 : zFld RX5 19 5 3 := ⟨_, rfl, by decide, tw_96⟩
theorem fwX5_19 : zFldW RX5 19 5 3 true (.array .int) := ⟨_, rfl, by decide, tw_96, rfl, by decide +kernel, fun _ => rfl⟩
theorem fgX4_80 : zFld RX4 80 5 3 := ⟨_, rfl, by decide, tw_97⟩
-- X4_80 is final and another's
theorem fgX6_157 : zFld RX6 157 5 3 := ⟨_, rfl, by decide, tw_98⟩
-- X6_157 is final and another's
theorem fgX2_122 : zFld RX2 122 5 3 := ⟨_, rfl, by decide, tw_99⟩
-- X2_122 is final and another's
theorem fgX5_22 : zFld RX5 22 5 4 := ⟨_, rfl, by decide, tw_100⟩
theorem fwX5_22 : zFldW RX5 22 5 4 false (.int) := ⟨_, rfl, by decide, tw_100, rfl, by decide +kernel, fun h => by cases h⟩
theorem fgX2_57 : zFld RX2 57 5 4 := ⟨_, rfl, by decide, tw_101⟩
theorem fwX2_57 : zFldW RX2 57 5 4 false (.int) := ⟨_, rfl, by decide, tw_101, rfl, by decide +kernel, fun h => by cases h⟩
theorem fgX4_62 : zFld RX4 62 5 4 := ⟨_, rfl, by decide, tw_102⟩
theorem fwX4_62 : zFldW RX4 62 5 4 false (.int) := ⟨_, rfl, by decide, tw_102, rfl, by decide +kernel, fun h => by cases h⟩
theorem fgX6_127 : zFld RX6 127 5 4 := ⟨_, rfl, by decide, tw_103⟩
theorem fwX6_127 : zFldW RX6 127 5 4 false (.int) := ⟨_, rfl, by decide, tw_103, rfl, by decide +kernel, fun h => by cases h⟩
theorem fgX5_26 : zFld RX5 26 5 5 := ⟨_, rfl, by decide, tw_104⟩
theorem fwX5_26 : zFldW RX5 26 5 5 false (.int) := ⟨_, rfl, by decide, tw_104, rfl, by decide +kernel, fun h => by cases h⟩
theorem fgX4_77 : zFld RX4 77 5 5 := ⟨_, rfl, by decide, tw_105⟩
theorem fwX4_77 : zFldW RX4 77 5 5 false (.int) := ⟨_, rfl, by decide, tw_105, rfl, by decide +kernel, fun h => by cases h⟩
theorem fgX2_115 : zFld RX2 115 5 5 := ⟨_, rfl, by decide, tw_106⟩
theorem fwX2_115 : zFldW RX2 115 5 5 false (.int) := ⟨_, rfl, by decide, tw_106, rfl, by decide +kernel, fun h => by cases h⟩
theorem fgX6_290 : zFld RX6 290 5 5 := ⟨_, rfl, by decide, tw_107⟩
theorem fwX6_290 : zFldW RX6 290 5 5 false (.int) := ⟨_, rfl, by decide, tw_107, rfl, by decide +kernel, fun h => by cases h⟩
theorem fgX5_29 : zFld RX5 29 5 6 := ⟨_, rfl, by decide, tw_108⟩
theorem fwX5_29 : zFldW RX5 29 5 6 false (.int) := ⟨_, rfl, by decide, tw_108, rfl, by decide +kernel, fun h => by cases h⟩
theorem fgX4_43 : zFld RX4 43 5 6 := ⟨_, rfl, by decide, tw_109⟩
theorem fwX4_43 : zFldW RX4 43 5 6 false (.int) := ⟨_, rfl, by decide, tw_109, rfl, by decide +kernel, fun h => by cases h⟩
theorem fgX6_160 : zFld RX6 160 5 6 := ⟨_, rfl, by decide, tw_110⟩
theorem fwX6_160 : zFldW RX6 160 5 6 false (.int) := ⟨_, rfl, by decide, tw_110, rfl, by decide +kernel, fun h => by cases h⟩
theorem fgX2_138 : zFld RX2 138 5 6 := ⟨_, rfl, by decide, tw_111⟩
theorem fwX2_138 : zFldW RX2 138 5 6 false (.int) := ⟨_, rfl, by decide, tw_111, rfl, by decide +kernel, fun h => by cases h⟩
theorem fgX5_32 : zFld RX5 32 5 7 := ⟨_, rfl, by decide, tw_112⟩
theorem fwX5_32 : zFldW RX5 32 5 7 false (.int) := ⟨_, rfl, by decide, tw_112, rfl, by decide +kernel, fun h => by cases h⟩
theorem fgX4_46 : zFld RX4 46 5 7 := ⟨_, rfl, by decide, tw_113⟩
theorem fwX4_46 : zFldW RX4 46 5 7 false (.int) := ⟨_, rfl, by decide, tw_113, rfl, by decide +kernel, fun h => by cases h⟩
theorem fgX2_90 : zFld RX2 90 5 7 := ⟨_, rfl, by decide, tw_114⟩
theorem fwX2_90 : zFldW RX2 90 5 7 false (.int) := ⟨_, rfl, by decide, tw_114, rfl, by decide +kernel, fun h => by cases h⟩
theorem fgX6_191 : zFld RX6 191 5 7 := ⟨_, rfl, by decide, tw_115⟩
theorem fwX6_191 : zFldW RX6 191 5 7 false (.int) := ⟨_, rfl, by decide, tw_115, rfl, by decide +kernel, fun h => by cases h⟩
theorem fgX5_35 : zFld RX5 35 5 8 := ⟨_, rfl, by decide, tw_116⟩
theorem fwX5_35 : zFldW RX5 35 5 8 false (.int) := ⟨_, rfl, by decide, tw_116, rfl, by decide +kernel, fun h => by cases h⟩
theorem fgX2_87 : zFld RX2 87 5 8 := ⟨_, rfl, by decide, tw_117⟩
theorem fwX2_87 : zFldW RX2 87 5 8 false (.int) := ⟨_, rfl, by decide, tw_117, rfl, by decide +kernel, fun h => by cases h⟩
theorem fgX6_138 : zFld RX6 138 5 8 := ⟨_, rfl, by decide, tw_118⟩
theorem fwX6_138 : zFldW RX6 138 5 8 false (.int) := ⟨_, rfl, by decide, tw_118, rfl, by decide +kernel, fun h => by cases h⟩
theorem fgX5_38 : zFld RX5 38 5 9 := ⟨_, rfl, by decide, tw_119⟩
theorem fwX5_38 : zFldW RX5 38 5 9 false (.int) := ⟨_, rfl, by decide, tw_119, rfl, by decide +kernel, fun h => by cases h⟩
theorem fgX2_112 : zFld RX2 112 5 9 := ⟨_, rfl, by decide, tw_120⟩
theorem fwX2_112 : zFldW RX2 112 5 9 false (.int) := ⟨_, rfl, by decide, tw_120, rfl, by decide +kernel, fun h => by cases h⟩
theorem fgX6_208 : zFld RX6 208 5 9 := ⟨_, rfl, by decide, tw_121⟩
theorem fwX6_208 : zFldW RX6 208 5 9 false (.int) := ⟨_, rfl, by decide, tw_121, rfl, by decide +kernel, fun h => by cases h⟩
theorem fgX0_11 : zFld RX0 11 0 0 := ⟨_, rfl, by decide, tw_152⟩
theorem fwX0_11 : zFldW RX0 11 0 0 true (.array (.object "DrumPeace$Town")) := ⟨_, rfl, by decide, tw_152, rfl, by decide +kernel, fun _ => rfl⟩
theorem fgX0_16 : zFld RX0 16 0 1 := ⟨_, rfl, by decide, tw_153⟩
theorem fwX0_16 : zFldW RX0 16 0 1 false (.int) := ⟨_, rfl, by decide, tw_153, rfl, by decide +kernel, fun h => by cases h⟩
theorem fgX0_24 : zFld RX0 24 0 2 := ⟨_, rfl, by decide, tw_154⟩
theorem fwX0_24 : zFldW RX0 24 0 2 false (.int) := ⟨_, rfl, by decide, tw_154, rfl, by decide +kernel, fun h => by cases h⟩
theorem fgX6_178 : zFld RX6 178 0 2 := ⟨_, rfl, by decide, tw_155⟩
theorem fwX6_178 : zFldW RX6 178 0 2 false (.int) := ⟨_, rfl, by decide, tw_155, rfl, by decide +kernel, fun h => by cases h⟩
theorem fgX2_14 : zFld RX2 14 2 0 := ⟨_, rfl, by decide, tw_171⟩
theorem fwX2_14 : zFldW RX2 14 2 0 true (.object "DrumPeace$Town") := ⟨_, rfl, by decide, tw_171, rfl, by decide +kernel, fun _ => rfl⟩
theorem fgX2_18 : zFld RX2 18 2 1 := ⟨_, rfl, by decide, tw_172⟩
theorem fwX2_18 : zFldW RX2 18 2 1 true (.array .int) := ⟨_, rfl, by decide, tw_172, rfl, by decide +kernel, fun _ => rfl⟩
theorem fgX2_22 : zFld RX2 22 2 2 := ⟨_, rfl, by decide, tw_173⟩
theorem fwX2_22 : zFldW RX2 22 2 2 true (.array .int) := ⟨_, rfl, by decide, tw_173, rfl, by decide +kernel, fun _ => rfl⟩
theorem fgX2_25 : zFld RX2 25 2 3 := ⟨_, rfl, by decide, tw_174⟩
theorem fwX2_25 : zFldW RX2 25 2 3 false (.array .int) := ⟨_, rfl, by decide, tw_174, rfl, by decide +kernel, fun h => by cases h⟩
theorem fgX2_28 : zFld RX2 28 2 4 := ⟨_, rfl, by decide, tw_175⟩
theorem fwX2_28 : zFldW RX2 28 2 4 false (.array .int) := ⟨_, rfl, by decide, tw_175, rfl, by decide +kernel, fun h => by cases h⟩
theorem fgX2_31 : zFld RX2 31 2 5 := ⟨_, rfl, by decide, tw_176⟩
theorem fwX2_31 : zFldW RX2 31 2 5 true (.array .int) := ⟨_, rfl, by decide, tw_176, rfl, by decide +kernel, fun _ => rfl⟩
theorem fgX2_147 : zFld RX2 147 2 6 := ⟨_, rfl, by decide, tw_177⟩
theorem fwX2_147 : zFldW RX2 147 2 6 false (.int) := ⟨_, rfl, by decide, tw_177, rfl, by decide +kernel, fun h => by cases h⟩
theorem fgX2_61 : zFld RX2 61 2 7 := ⟨_, rfl, by decide, tw_178⟩
theorem fwX2_61 : zFldW RX2 61 2 7 false (.int) := ⟨_, rfl, by decide, tw_178, rfl, by decide +kernel, fun h => by cases h⟩
theorem fgX2_68 : zFld RX2 68 2 8 := ⟨_, rfl, by decide, tw_179⟩
theorem fwX2_68 : zFldW RX2 68 2 8 false (.int) := ⟨_, rfl, by decide, tw_179, rfl, by decide +kernel, fun h => by cases h⟩
theorem fgX6_223 : zFld RX6 223 2 8 := ⟨_, rfl, by decide, tw_180⟩
theorem fwX6_223 : zFldW RX6 223 2 8 false (.int) := ⟨_, rfl, by decide, tw_180, rfl, by decide +kernel, fun h => by cases h⟩
theorem fgX1_9 : zFld RX1 9 1 0 := ⟨_, rfl, by decide, tw_206⟩
theorem fwX1_9 : zFldW RX1 9 1 0 true (.array .int) := ⟨_, rfl, by decide, tw_206, rfl, by decide +kernel, fun _ => rfl⟩
theorem fgX6_284 : zFld RX6 284 1 0 := ⟨_, rfl, by decide, tw_207⟩
-- X6_284 is final and another's
theorem fgX1_16 : zFld RX1 16 1 1 := ⟨_, rfl, by decide, tw_208⟩
theorem fwX1_16 : zFldW RX1 16 1 1 false (.int) := ⟨_, rfl, by decide, tw_208, rfl, by decide +kernel, fun h => by cases h⟩
theorem fgX6_281 : zFld RX6 281 1 1 := ⟨_, rfl, by decide, tw_209⟩
theorem fwX6_281 : zFldW RX6 281 1 1 false (.int) := ⟨_, rfl, by decide, tw_209, rfl, by decide +kernel, fun h => by cases h⟩
theorem fgX6_10 : zFld RX6 10 6 0 := ⟨_, rfl, by decide, tw_215⟩
theorem fwX6_10 : zFldW RX6 10 6 0 true (.object "DrumPeace$Rows") := ⟨_, rfl, by decide, tw_215, rfl, by decide +kernel, fun _ => rfl⟩
theorem fgX6_19 : zFld RX6 19 6 1 := ⟨_, rfl, by decide, tw_216⟩
theorem fwX6_19 : zFldW RX6 19 6 1 true (.object "DrumPeace$Tape") := ⟨_, rfl, by decide, tw_216, rfl, by decide +kernel, fun _ => rfl⟩
theorem fgX6_26 : zFld RX6 26 6 2 := ⟨_, rfl, by decide, tw_217⟩
theorem fwX6_26 : zFldW RX6 26 6 2 true (.object "DrumPeace$Town") := ⟨_, rfl, by decide, tw_217, rfl, by decide +kernel, fun _ => rfl⟩
theorem fgX6_30 : zFld RX6 30 6 3 := ⟨_, rfl, by decide, tw_218⟩
theorem fwX6_30 : zFldW RX6 30 6 3 true (.object "DrumPeace$Town") := ⟨_, rfl, by decide, tw_218, rfl, by decide +kernel, fun _ => rfl⟩
theorem fgX6_33 : zFld RX6 33 6 4 := ⟨_, rfl, by decide, tw_219⟩
theorem fwX6_33 : zFldW RX6 33 6 4 true (.object "DrumPeace$Town") := ⟨_, rfl, by decide, tw_219, rfl, by decide +kernel, fun _ => rfl⟩
theorem fgX6_36 : zFld RX6 36 6 5 := ⟨_, rfl, by decide, tw_220⟩
theorem fwX6_36 : zFldW RX6 36 6 5 true (.object "DrumPeace$Town") := ⟨_, rfl, by decide, tw_220, rfl, by decide +kernel, fun _ => rfl⟩
theorem fgX6_42 : zFld RX6 42 6 6 := ⟨_, rfl, by decide, tw_221⟩
theorem fwX6_42 : zFldW RX6 42 6 6 true (.object "DrumPeace$Acts") := ⟨_, rfl, by decide, tw_221, rfl, by decide +kernel, fun _ => rfl⟩
theorem fgX6_49 : zFld RX6 49 6 7 := ⟨_, rfl, by decide, tw_222⟩
theorem fwX6_49 : zFldW RX6 49 6 7 true (.object "DrumPeace$Foresight") := ⟨_, rfl, by decide, tw_222, rfl, by decide +kernel, fun _ => rfl⟩
theorem fgX6_56 : zFld RX6 56 6 8 := ⟨_, rfl, by decide, tw_223⟩
theorem fwX6_56 : zFldW RX6 56 6 8 true (.object "DrumPeace$Asks") := ⟨_, rfl, by decide, tw_223, rfl, by decide +kernel, fun _ => rfl⟩
theorem fgX6_293 : zFld RX6 293 6 9 := ⟨_, rfl, by decide, tw_224⟩
theorem fwX6_293 : zFldW RX6 293 6 9 false (.int) := ⟨_, rfl, by decide, tw_224, rfl, by decide +kernel, fun h => by cases h⟩
theorem fgX7_7 : zFld RX7 7 7 0 := ⟨_, rfl, by decide, tw_815⟩
theorem fwX7_7 : zFldW RX7 7 7 0 true (.array .int) := ⟨_, rfl, by decide, tw_815, rfl, by decide +kernel, fun _ => rfl⟩
theorem fgX7_121 : zFld RX7 121 7 1 := ⟨_, rfl, by decide, tw_816⟩
theorem fwX7_121 : zFldW RX7 121 7 1 false (.int) := ⟨_, rfl, by decide, tw_816, rfl, by decide +kernel, fun h => by cases h⟩
theorem fgX7_13 : zFld RX7 13 7 2 := ⟨_, rfl, by decide, tw_817⟩
theorem fwX7_13 : zFldW RX7 13 7 2 true (.array .int) := ⟨_, rfl, by decide, tw_817, rfl, by decide +kernel, fun _ => rfl⟩
theorem fgX7_66 : zFld RX7 66 7 3 := ⟨_, rfl, by decide, tw_818⟩
theorem fwX7_66 : zFldW RX7 66 7 3 false (.int) := ⟨_, rfl, by decide, tw_818, rfl, by decide +kernel, fun h => by cases h⟩
theorem fgX7_73 : zFld RX7 73 7 4 := ⟨_, rfl, by decide, tw_819⟩
theorem fwX7_73 : zFldW RX7 73 7 4 false (.int) := ⟨_, rfl, by decide, tw_819, rfl, by decide +kernel, fun h => by cases h⟩
theorem fgX7_44 : zFld RX7 44 7 5 := ⟨_, rfl, by decide, tw_820⟩
theorem fwX7_44 : zFldW RX7 44 7 5 false (.int) := ⟨_, rfl, by decide, tw_820, rfl, by decide +kernel, fun h => by cases h⟩
theorem fgX7_16 : zFld RX7 16 7 6 := ⟨_, rfl, by decide, tw_821⟩
theorem fwX7_16 : zFldW RX7 16 7 6 true (.array .int) := ⟨_, rfl, by decide, tw_821, rfl, by decide +kernel, fun _ => rfl⟩
theorem fgX7_19 : zFld RX7 19 7 7 := ⟨_, rfl, by decide, tw_822⟩
theorem fwX7_19 : zFldW RX7 19 7 7 true (.array .int) := ⟨_, rfl, by decide, tw_822, rfl, by decide +kernel, fun _ => rfl⟩
theorem fgX7_22 : zFld RX7 22 7 8 := ⟨_, rfl, by decide, tw_823⟩
theorem fwX7_22 : zFldW RX7 22 7 8 true (.array .int) := ⟨_, rfl, by decide, tw_823, rfl, by decide +kernel, fun _ => rfl⟩
theorem fgX7_25 : zFld RX7 25 7 9 := ⟨_, rfl, by decide, tw_824⟩
theorem fwX7_25 : zFldW RX7 25 7 9 true (.array .int) := ⟨_, rfl, by decide, tw_824, rfl, by decide +kernel, fun _ => rfl⟩
theorem fgX7_70 : zFld RX7 70 7 10 := ⟨_, rfl, by decide, tw_825⟩
theorem fwX7_70 : zFldW RX7 70 7 10 false (.int) := ⟨_, rfl, by decide, tw_825, rfl, by decide +kernel, fun h => by cases h⟩
theorem fgX7_76 : zFld RX7 76 7 11 := ⟨_, rfl, by decide, tw_826⟩
theorem fwX7_76 : zFldW RX7 76 7 11 false (.int) := ⟨_, rfl, by decide, tw_826, rfl, by decide +kernel, fun h => by cases h⟩
theorem fgX7_87 : zFld RX7 87 7 12 := ⟨_, rfl, by decide, tw_827⟩
theorem fwX7_87 : zFldW RX7 87 7 12 false (.int) := ⟨_, rfl, by decide, tw_827, rfl, by decide +kernel, fun h => by cases h⟩
theorem fgX7_28 : zFld RX7 28 7 13 := ⟨_, rfl, by decide, tw_828⟩
theorem fwX7_28 : zFldW RX7 28 7 13 true (.array .int) := ⟨_, rfl, by decide, tw_828, rfl, by decide +kernel, fun _ => rfl⟩
theorem fgX7_31 : zFld RX7 31 7 14 := ⟨_, rfl, by decide, tw_829⟩
theorem fwX7_31 : zFldW RX7 31 7 14 true (.array .boolean) := ⟨_, rfl, by decide, tw_829, rfl, by decide +kernel, fun _ => rfl⟩
theorem fgX7_35 : zFld RX7 35 7 15 := ⟨_, rfl, by decide, tw_830⟩
theorem fwX7_35 : zFldW RX7 35 7 15 true (.array .int) := ⟨_, rfl, by decide, tw_830, rfl, by decide +kernel, fun _ => rfl⟩
theorem fgX7_211 : zFld RX7 211 7 16 := ⟨_, rfl, by decide, tw_831⟩
theorem fwX7_211 : zFldW RX7 211 7 16 false (.int) := ⟨_, rfl, by decide, tw_831, rfl, by decide +kernel, fun h => by cases h⟩
theorem zcl_0 : ∀ r, vwCl[0]? = some r → zClsOk r := by
  intro r h
  cases h
  exact ⟨by decide +kernel, ⟨tyX0, tyX0_ok⟩, nmX0⟩
theorem zcl_1 : ∀ r, vwCl[1]? = some r → zClsOk r := by
  intro r h
  cases h
  exact ⟨by decide +kernel, ⟨tyX1, tyX1_ok⟩, nmX1⟩
theorem zcl_2 : ∀ r, vwCl[2]? = some r → zClsOk r := by
  intro r h
  cases h
  exact ⟨by decide +kernel, ⟨tyX2, tyX2_ok⟩, nmX2⟩
theorem zcl_3 : ∀ r, vwCl[3]? = some r → zClsOk r := by
  intro r h
  cases h
  exact ⟨by decide +kernel, ⟨tyX3, tyX3_ok⟩, nmX3⟩
theorem zcl_4 : ∀ r, vwCl[4]? = some r → zClsOk r := by
  intro r h
  cases h
  exact ⟨by decide +kernel, ⟨tyX4, tyX4_ok⟩, nmX4⟩
theorem zcl_5 : ∀ r, vwCl[5]? = some r → zClsOk r := by
  intro r h
  cases h
  exact ⟨by decide +kernel, ⟨tyX5, tyX5_ok⟩, nmX5⟩
theorem zcl_6 : ∀ r, vwCl[6]? = some r → zClsOk r := by
  intro r h
  cases h
  exact ⟨by decide +kernel, ⟨tyX6, tyX6_ok⟩, nmX6⟩
theorem zcl_7 : ∀ r, vwCl[7]? = some r → zClsOk r := by
  intro r h
  cases h
  exact ⟨by decide +kernel, ⟨tyX7, tyX7_ok⟩, nmX7⟩
theorem mq_min2 : Cond.static Lib.Math.min.name ∈ ztb := tw_380
theorem mq_min3 : Cond.initialized "java/lang/Math" ∈ ztb := tw_13
theorem mq_min4 : Cond.code Lib.Math.min.name Lib.Math.min.code 2 (some .int) ∈ ztb := tw_381
theorem mq_max2 : Cond.static Lib.Math.max.name ∈ ztb := tw_377
theorem mq_max3 : Cond.initialized "java/lang/Math" ∈ ztb := tw_13
theorem mq_max4 : Cond.code Lib.Math.max.name Lib.Math.max.code 2 (some .int) ∈ ztb := tw_378
theorem mq_abs2 : Cond.static Lib.Math.abs.name ∈ ztb := tw_485
theorem mq_abs3 : Cond.initialized "java/lang/Math" ∈ ztb := tw_13
theorem mq_abs4 : Cond.code Lib.Math.abs.name Lib.Math.abs.code 1 (some .int) ∈ ztb := tw_486
end
