/-! 08: the methods, by number -/
def m_X0_init : md_ := (yX0_init, cX0_init, 1, none)
def m_X0_gather : md_ := (yX0_gather, cX0_gather, 5, none)
def m_X0_gatherOne : md_ := (yX0_gatherOne, cX0_gatherOne, 7, none)
def m_X0_gatherList : md_ := (yX0_gatherList, cX0_gatherList, 5, none)
def m_X0_gatherPapers : md_ := (yX0_gatherPapers, cX0_gatherPapers, 6, none)
def m_X0_get : md_ := (yX0_get, cX0_get, 3, (some .int))
def m_X0_set : md_ := (yX0_set, cX0_set, 4, none)
def m_X0_trueForm : md_ := (yX0_trueForm, cX0_trueForm, 2, (some .int))
def m_X0_anyHolds : md_ := (yX0_anyHolds, cX0_anyHolds, 5, (some .boolean))
def m_X0_holds : md_ := (yX0_holds, cX0_holds, 7, (some .boolean))
def m_X0_joined : md_ := (yX0_joined, cX0_joined, 3, (some .int))
def m_X0_keyValue : md_ := (yX0_keyValue, cX0_keyValue, 3, (some .int))
def m_X1_init : md_ := (yX1_init, cX1_init, 1, none)
def m_X1_learn : md_ := (yX1_learn, cX1_learn, 6, none)
def m_X1_witness : md_ := (yX1_witness, cX1_witness, 4, none)
def m_X1_hear : md_ := (yX1_hear, cX1_hear, 6, none)
def m_X1_note : md_ := (yX1_note, cX1_note, 3, none)
def m_X1_learnHolders : md_ := (yX1_learnHolders, cX1_learnHolders, 6, none)
def m_X1_watch : md_ := (yX1_watch, cX1_watch, 5, none)
def m_X1_isFallKnown : md_ := (yX1_isFallKnown, cX1_isFallKnown, 3, (some .boolean))
def m_X1_isPaperKnown : md_ := (yX1_isPaperKnown, cX1_isPaperKnown, 3, (some .boolean))
def m_X1_fallenFor : md_ := (yX1_fallenFor, cX1_fallenFor, 3, (some .int))
def m_X1_holdersFor : md_ := (yX1_holdersFor, cX1_holdersFor, 2, (some .int))
def m_X2_init : md_ := (yX2_init, cX2_init, 2, none)
def m_X3_init : md_ := (yX3_init, cX3_init, 1, none)
def m_X3_read : md_ := (yX3_read, cX3_read, 4, (some .int))
def m_X3_cutAll : md_ := (yX3_cutAll, cX3_cutAll, 4, none)
def m_X3_cut : md_ := (yX3_cut, cX3_cut, 7, (some .int))
def m_X3_addToken : md_ := (yX3_addToken, cX3_addToken, 4, none)
def m_X3_isLetter : md_ := (yX3_isLetter, cX3_isLetter, 1, (some .boolean))
def m_X3_isDigit : md_ := (yX3_isDigit, cX3_isDigit, 1, (some .boolean))
def m_X3_wideSignKind : md_ := (yX3_wideSignKind, cX3_wideSignKind, 1, (some .int))
def m_X3_signKind : md_ := (yX3_signKind, cX3_signKind, 1, (some .int))
def m_X3_wordKind : md_ := (yX3_wordKind, cX3_wordKind, 8, (some .int))
def m_X3_kind : md_ := (yX3_kind, cX3_kind, 1, (some .int))
def m_X3_fail : md_ := (yX3_fail, cX3_fail, 2, none)
def m_X3_emit : md_ := (yX3_emit, cX3_emit, 2, none)
def m_X3_readClause : md_ := (yX3_readClause, cX3_readClause, 2, none)
def m_X3_takeKeyAndIf : md_ := (yX3_takeKeyAndIf, cX3_takeKeyAndIf, 2, (some .boolean))
def m_X3_isKey : md_ := (yX3_isKey, cX3_isKey, 1, (some .boolean))
def m_X3_readTest : md_ := (yX3_readTest, cX3_readTest, 5, none)
def m_X3_readFact : md_ := (yX3_readFact, cX3_readFact, 4, none)
def m_X3_takeSign : md_ := (yX3_takeSign, cX3_takeSign, 2, (some .int))
def m_X3_readSum : md_ := (yX3_readSum, cX3_readSum, 3, none)
def m_X3_readValue : md_ := (yX3_readValue, cX3_readValue, 2, none)
def m_X4_init : md_ := (yX4_init, cX4_init, 1, none)
def m_X4_find : md_ := (yX4_find, cX4_find, 6, none)
def m_X4_toSpot : md_ := (yX4_toSpot, cX4_toSpot, 4, (some .int))
def m_X4_areWithin : md_ := (yX4_areWithin, cX4_areWithin, 4, (some .boolean))
def m_X5_init : md_ := (yX5_init, cX5_init, 1, none)
def m_X5_build : md_ := (yX5_build, cX5_build, 6, none)
def m_X5_weigh : md_ := (yX5_weigh, cX5_weigh, 7, none)
def m_X5_insert : md_ := (yX5_insert, cX5_insert, 3, none)
def m_X5_decidingClause : md_ := (yX5_decidingClause, cX5_decidingClause, 4, (some .int))
def m_X5_isBefore : md_ := (yX5_isBefore, cX5_isBefore, 4, (some .boolean))
def m_X5_inPlace : md_ := (yX5_inPlace, cX5_inPlace, 6, (some .int))
def m_X5_everybody : md_ := (yX5_everybody, cX5_everybody, 5, (some .int))
def m_X5_fits : md_ := (yX5_fits, cX5_fits, 4, (some .boolean))
def m_X6_init : md_ := (yX6_init, cX6_init, 3, none)
def m_X6_has : md_ := (yX6_has, cX6_has, 2, (some .boolean))
def m_X6_get : md_ := (yX6_get, cX6_get, 3, (some .int))
def m_X6_set : md_ := (yX6_set, cX6_set, 4, none)
def m_X6_open : md_ := (yX6_open, cX6_open, 1, (some .int))
def m_X6_become : md_ := (yX6_become, cX6_become, 2, none)
def m_X7_init : md_ := (yX7_init, cX7_init, 1, none)
def m_X7_become : md_ := (yX7_become, cX7_become, 2, none)
def m_X7_isFallen : md_ := (yX7_isFallen, cX7_isFallen, 4, (some .boolean))
def m_X7_fallsTold : md_ := (yX7_fallsTold, cX7_fallsTold, 3, (some .int))
def m_X7_paperHolds : md_ := (yX7_paperHolds, cX7_paperHolds, 4, (some .boolean))
def m_X7_placesOnList : md_ := (yX7_placesOnList, cX7_placesOnList, 4, (some .int))
def m_X7_isOnList : md_ := (yX7_isOnList, cX7_isOnList, 4, (some .boolean))
def m_X7_depthBelow : md_ := (yX7_depthBelow, cX7_depthBelow, 5, (some .int))
def m_X8_init : md_ := (yX8_init, cX8_init, 1, none)
def m_X8_body : md_ := (yX8_body, cX8_body, 7, (some .int))
def m_X8_person : md_ := (yX8_person, cX8_person, 8, (some .int))
def m_X8_step : md_ := (yX8_step, cX8_step, 6, (some .int))
def m_X8_near : md_ := (yX8_near, cX8_near, 4, (some .int))
def m_X8_paper : md_ := (yX8_paper, cX8_paper, 7, (some .int))
def m_X8_list : md_ := (yX8_list, cX8_list, 5, (some .int))
def m_X8_falls : md_ := (yX8_falls, cX8_falls, 3, (some .boolean))
def m_X8_feed : md_ := (yX8_feed, cX8_feed, 6, (some .int))
def m_X8_end : md_ := (yX8_end, cX8_end, 2, (some .int))
def m_X8_law : md_ := (yX8_law, cX8_law, 2, (some .int))
def m_X8_rules : md_ := (yX8_rules, cX8_rules, 3, (some .boolean))
def m_X8_may : md_ := (yX8_may, cX8_may, 3, (some .int))
def m_X8_commands : md_ := (yX8_commands, cX8_commands, 3, (some .int))
def m_X8_ahead : md_ := (yX8_ahead, cX8_ahead, 10, (some .int))
def m_X8_message : md_ := (yX8_message, cX8_message, 7, (some .int))
def m_X8_sight : md_ := (yX8_sight, cX8_sight, 3, (some .int))
def m_X8_knows : md_ := (yX8_knows, cX8_knows, 7, (some .int))
def m_X8_thinks : md_ := (yX8_thinks, cX8_thinks, 4, (some .int))
def m_X8_wrong : md_ := (yX8_wrong, cX8_wrong, 3, (some .int))
def m_X8_order : md_ := (yX8_order, cX8_order, 9, (some .int))
def m_X8_seat : md_ := (yX8_seat, cX8_seat, 2, (some .int))
def m_X8_force : md_ := (yX8_force, cX8_force, 3, (some .int))
def m_X8_bound : md_ := (yX8_bound, cX8_bound, 3, (some .int))
def m_X8_cross : md_ := (yX8_cross, cX8_cross, 8, (some .int))
def m_X8_answers : md_ := (yX8_answers, cX8_answers, 5, (some .int))
def m_X8_gaps : md_ := (yX8_gaps, cX8_gaps, 14, (some .int))
def m_X8_doubt : md_ := (yX8_doubt, cX8_doubt, 5, (some .int))
def m_X8_brief : md_ := (yX8_brief, cX8_brief, 5, (some .int))
def m_X8_fights : md_ := (yX8_fights, cX8_fights, 14, (some .int))
def m_X8_allied : md_ := (yX8_allied, cX8_allied, 10, (some .int))
def m_X8_mended : md_ := (yX8_mended, cX8_mended, 8, (some .int))
def m_X8_judge : md_ := (yX8_judge, cX8_judge, 7, (some .int))
def m_X8_hangs : md_ := (yX8_hangs, cX8_hangs, 5, (some .int))
def m_X8_mark : md_ := (yX8_mark, cX8_mark, 2, (some .int))
def m_X8_back : md_ := (yX8_back, cX8_back, 2, (some .int))
def m_X8_count : md_ := (yX8_count, cX8_count, 2, (some .int))
def m_X8_isIn : md_ := (yX8_isIn, cX8_isIn, 2, (some .boolean))
def m_X8_isMinute : md_ := (yX8_isMinute, cX8_isMinute, 1, (some .boolean))
def m_X8_isSpot : md_ := (yX8_isSpot, cX8_isSpot, 2, (some .boolean))
def m_X8_hasBit : md_ := (yX8_hasBit, cX8_hasBit, 2, (some .boolean))
def m_X8_isSpan : md_ := (yX8_isSpan, cX8_isSpan, 2, (some .boolean))
def m_X8_isBodyInMinute : md_ := (yX8_isBodyInMinute, cX8_isBodyInMinute, 3, (some .boolean))
def m_X8_putOnTape : md_ := (yX8_putOnTape, cX8_putOnTape, 3, none)
def m_X8_lawOf : md_ := (yX8_lawOf, cX8_lawOf, 3, (some (.object "WhoCommands$Law")))
def m_X8_survey : md_ := (yX8_survey, cX8_survey, 3, (some .int))
def m_X8_surveyMinds : md_ := (yX8_surveyMinds, cX8_surveyMinds, 4, none)
def m_X8_wrongAfter : md_ := (yX8_wrongAfter, cX8_wrongAfter, 7, (some .int))
def m_X8_wrongAfterFallOf : md_ := (yX8_wrongAfterFallOf, cX8_wrongAfterFallOf, 2, (some .int))
def m_X8_worstFall : md_ := (yX8_worstFall, cX8_worstFall, 5, (some .int))
def m_X8_seatOf : md_ := (yX8_seatOf, cX8_seatOf, 7, (some .int))
def m_X8_isRunning : md_ := (yX8_isRunning, cX8_isRunning, 6, (some .boolean))
def m_X8_bindingOrder : md_ := (yX8_bindingOrder, cX8_bindingOrder, 12, (some .int))
def m_X9_init : md_ := (yX9_init, cX9_init, 1, none)
def m_X9_in : md_ := (yX9_in, cX9_in, 6, (some .boolean))
def m_X9_isMinute : md_ := (yX9_isMinute, cX9_isMinute, 1, (some .boolean))
def m_X9_isBody : md_ := (yX9_isBody, cX9_isBody, 2, (some .boolean))
def m_X9_isPerson : md_ := (yX9_isPerson, cX9_isPerson, 2, (some .boolean))
def m_X9_body : md_ := (yX9_body, cX9_body, 5, (some .int))
def m_X9_person : md_ := (yX9_person, cX9_person, 6, (some .int))
def m_X9_step : md_ := (yX9_step, cX9_step, 5, (some .int))
def m_X9_stepAt : md_ := (yX9_stepAt, cX9_stepAt, 5, (some .int))
def m_X9_placeX : md_ := (yX9_placeX, cX9_placeX, 4, (some .int))
def m_X9_placeY : md_ := (yX9_placeY, cX9_placeY, 4, (some .int))
def m_X9_apart : md_ := (yX9_apart, cX9_apart, 2, (some .int))
def m_X9_nearTo : md_ := (yX9_nearTo, cX9_nearTo, 4, (some .int))
def m_X9_near : md_ := (yX9_near, cX9_near, 4, (some .int))
def m_X9_paper : md_ := (yX9_paper, cX9_paper, 5, (some .int))
def m_X9_placeIn : md_ := (yX9_placeIn, cX9_placeIn, 5, (some .int))
def m_X9_list : md_ := (yX9_list, cX9_list, 3, (some .int))
def m_X9_falls : md_ := (yX9_falls, cX9_falls, 3, (some .boolean))
def m_X9_feed : md_ := (yX9_feed, cX9_feed, 6, (some .int))
def m_X9_put : md_ := (yX9_put, cX9_put, 3, none)
def m_X9_end : md_ := (yX9_end, cX9_end, 2, (some .int))
def m_X9_wordOf : md_ := (yX9_wordOf, cX9_wordOf, 1, (some (.object "java/lang/String")))
def m_X9_clauseOf : md_ := (yX9_clauseOf, cX9_clauseOf, 1, (some (.object "java/lang/String")))
def m_X9_keyName : md_ := (yX9_keyName, cX9_keyName, 1, (some (.object "java/lang/String")))
def m_X9_fails : md_ := (yX9_fails, cX9_fails, 3, none)
def m_X9_sign : md_ := (yX9_sign, cX9_sign, 1, (some .int))
def m_X9_blanks : md_ := (yX9_blanks, cX9_blanks, 1, none)
def m_X9_isDigit : md_ := (yX9_isDigit, cX9_isDigit, 1, (some .boolean))
def m_X9_stands : md_ := (yX9_stands, cX9_stands, 5, (some .boolean))
def m_X9_takes : md_ := (yX9_takes, cX9_takes, 3, (some .boolean))
def m_X9_entry : md_ := (yX9_entry, cX9_entry, 3, none)
def m_X9_isCounted : md_ := (yX9_isCounted, cX9_isCounted, 2, none)
def m_X9_digits : md_ := (yX9_digits, cX9_digits, 4, (some .int))
def m_X9_value : md_ := (yX9_value, cX9_value, 3, none)
def m_X9_sum : md_ := (yX9_sum, cX9_sum, 2, none)
def m_X9_compared : md_ := (yX9_compared, cX9_compared, 3, none)
def m_X9_top : md_ := (yX9_top, cX9_top, 1, (some .int))
def m_X9_opens : md_ := (yX9_opens, cX9_opens, 2, none)
def m_X9_answers : md_ := (yX9_answers, cX9_answers, 2, none)
def m_X9_fact : md_ := (yX9_fact, cX9_fact, 1, (some .boolean))
def m_X9_test : md_ := (yX9_test, cX9_test, 5, none)
def m_X9_clause : md_ := (yX9_clause, cX9_clause, 6, none)
def m_X9_law : md_ := (yX9_law, cX9_law, 3, (some .int))
def m_X9_rules : md_ := (yX9_rules, cX9_rules, 3, (some .boolean))
def m_X9_truth : md_ := (yX9_truth, cX9_truth, 1, (some .long))
def m_X9_both : md_ := (yX9_both, cX9_both, 5, (some .long))
def m_X9_answer : md_ := (yX9_answer, cX9_answer, 8, (some .long))
def m_X9_asItIs : md_ := (yX9_asItIs, cX9_asItIs, 3, none)
def m_X9_hasPaper : md_ := (yX9_hasPaper, cX9_hasPaper, 6, (some .boolean))
def m_X9_below : md_ := (yX9_below, cX9_below, 5, (some .int))
def m_X9_looks : md_ := (yX9_looks, cX9_looks, 5, none)
def m_X9_keyed : md_ := (yX9_keyed, cX9_keyed, 2, (some .long))
def m_X9_works : md_ := (yX9_works, cX9_works, 9, (some .boolean))
def m_X9_parts : md_ := (yX9_parts, cX9_parts, 5, (some .int))
def m_X9_isAhead : md_ := (yX9_isAhead, cX9_isAhead, 5, (some .boolean))
def m_X9_mayOf : md_ := (yX9_mayOf, cX9_mayOf, 5, (some .int))
def m_X9_firstOf : md_ := (yX9_firstOf, cX9_firstOf, 5, (some .int))
def m_X9_chosen : md_ := (yX9_chosen, cX9_chosen, 3, (some .int))
def m_X9_may : md_ := (yX9_may, cX9_may, 3, (some .int))
def m_X9_commanding : md_ := (yX9_commanding, cX9_commanding, 3, (some .int))
def m_X9_commands : md_ := (yX9_commands, cX9_commands, 3, (some .int))
def m_X9_ahead : md_ := (yX9_ahead, cX9_ahead, 6, (some .int))
def m_X9_message : md_ := (yX9_message, cX9_message, 5, (some .int))
def m_X9_sight : md_ := (yX9_sight, cX9_sight, 3, (some .int))
def m_X9_hasHeard : md_ := (yX9_hasHeard, cX9_hasHeard, 7, (some .boolean))
def m_X9_saw : md_ := (yX9_saw, cX9_saw, 4, (some .boolean))
def m_X9_hasFallen : md_ := (yX9_hasFallen, cX9_hasFallen, 3, (some .boolean))
def m_X9_knowsFall : md_ := (yX9_knowsFall, cX9_knowsFall, 4, (some .boolean))
def m_X9_knows : md_ := (yX9_knows, cX9_knows, 6, (some .int))
def m_X9_nobodyBesides : md_ := (yX9_nobodyBesides, cX9_nobodyBesides, 2, none)
def m_X9_asTaken : md_ := (yX9_asTaken, cX9_asTaken, 4, none)
def m_X9_thinks : md_ := (yX9_thinks, cX9_thinks, 4, (some .int))
def m_X9_commandingBesides : md_ := (yX9_commandingBesides, cX9_commandingBesides, 4, (some .int))
def m_X9_wrongs : md_ := (yX9_wrongs, cX9_wrongs, 6, (some .int))
def m_X9_wrong : md_ := (yX9_wrong, cX9_wrong, 3, (some .int))
def m_X9_order : md_ := (yX9_order, cX9_order, 7, (some .int))
def m_X9_isOrder : md_ := (yX9_isOrder, cX9_isOrder, 2, (some .boolean))
def m_X9_seatOf : md_ := (yX9_seatOf, cX9_seatOf, 4, (some .int))
def m_X9_seat : md_ := (yX9_seat, cX9_seat, 2, (some .int))
def m_X9_isLapsed : md_ := (yX9_isLapsed, cX9_isLapsed, 8, (some .boolean))
def m_X9_isInForce : md_ := (yX9_isInForce, cX9_isInForce, 3, (some .boolean))
def m_X9_force : md_ := (yX9_force, cX9_force, 3, (some .int))
def m_X9_level : md_ := (yX9_level, cX9_level, 4, (some .int))
def m_X9_binding : md_ := (yX9_binding, cX9_binding, 6, (some .int))
def m_X9_bound : md_ := (yX9_bound, cX9_bound, 3, (some .int))
def m_X9_cross : md_ := (yX9_cross, cX9_cross, 6, (some .int))
def m_X9_answers_ : md_ := (yX9_answers_, cX9_answers_, 5, (some .int))
def m_X9_gaps : md_ := (yX9_gaps, cX9_gaps, 13, (some .int))
def m_X9_bits : md_ := (yX9_bits, cX9_bits, 3, (some .int))
def m_X9_doubted : md_ := (yX9_doubted, cX9_doubted, 8, (some .int))
def m_X9_doubt : md_ := (yX9_doubt, cX9_doubt, 5, (some .int))
def m_X9_allied : md_ := (yX9_allied, cX9_allied, 7, (some .int))
def m_X9_mended : md_ := (yX9_mended, cX9_mended, 8, (some .int))
def m_X9_judge : md_ := (yX9_judge, cX9_judge, 6, (some .int))
def m_X9_hangs : md_ := (yX9_hangs, cX9_hangs, 6, (some .int))
def m_X9_brief : md_ := (yX9_brief, cX9_brief, 7, (some .int))
def m_X9_fights : md_ := (yX9_fights, cX9_fights, 10, (some .int))
def m_X9_carry : md_ := (yX9_carry, cX9_carry, 3, none)
def m_X9_carries : md_ := (yX9_carries, cX9_carries, 2, none)
def m_X9_mark : md_ := (yX9_mark, cX9_mark, 3, (some .int))
def m_X9_back : md_ := (yX9_back, cX9_back, 3, (some .int))
def m_X9_count : md_ := (yX9_count, cX9_count, 4, (some .int))
def m_J6_bitCount_0f7a4 : md_ := (yJ6_bitCount_0f7a4, cJ6_bitCount_0f7a4, 1, (some .int))
def m_J9_abs_0f7a4 : md_ := (yJ9_abs_0f7a4, cJ9_abs_0f7a4, 1, (some .int))
def m_J9_max_7cf53 : md_ := (yJ9_max_7cf53, cJ9_max_7cf53, 2, (some .int))
def m_J9_min_7cf53 : md_ := (yJ9_min_7cf53, cJ9_min_7cf53, 2, (some .int))
def m_J0_length_8abf5 : md_ := (yJ0_length_8abf5, cJ0_length_8abf5, 1, (some .int))
def m_J0_charAt_5068e : md_ := (yJ0_charAt_5068e, cJ0_charAt_5068e, 2, (some .char))
def m_J0_coder_7d493 : md_ := (yJ0_coder_7d493, cJ0_coder_7d493, 1, (some .byte))
def m_J0_isLatin1_aae02 : md_ := (yJ0_isLatin1_aae02, cJ0_isLatin1_aae02, 1, (some .boolean))
def m_J0_checkIndex_df160 : md_ := (yJ0_checkIndex_df160, cJ0_checkIndex_df160, 2, none)
def m_J1_charAt_3b067 : md_ := (yJ1_charAt_3b067, cJ1_charAt_3b067, 2, (some .char))
def m_J2_getChar_3b067 : md_ := (yJ2_getChar_3b067, cJ2_getChar_3b067, 2, (some .char))
def m_J2_length_9d52b : md_ := (yJ2_length_9d52b, cJ2_length_9d52b, 1, (some .int))
def m_J2_charAt_3b067 : md_ := (yJ2_charAt_3b067, cJ2_charAt_3b067, 2, (some .char))
def m_J2_checkIndex_2214a : md_ := (yJ2_checkIndex_2214a, cJ2_checkIndex_2214a, 2, none)
def m_J7_fill_53178 : md_ := (yJ7_fill_53178, cJ7_fill_53178, 4, none)
def m_J7_copyOf_59c91 : md_ := (yJ7_copyOf_59c91, cJ7_copyOf_59c91, 3, (some (.array .int)))
def m_J3_checkIndex_8e157 : md_ := (yJ3_checkIndex_8e157, cJ3_checkIndex_8e157, 3, (some .int))
def mlist : List md_ := [m_X0_init, m_X0_gather, m_X0_gatherOne, m_X0_gatherList, m_X0_gatherPapers, m_X0_get, m_X0_set, m_X0_trueForm, m_X0_anyHolds, m_X0_holds, m_X0_joined, m_X0_keyValue, m_X1_init, m_X1_learn, m_X1_witness, m_X1_hear, m_X1_note, m_X1_learnHolders, m_X1_watch, m_X1_isFallKnown, m_X1_isPaperKnown, m_X1_fallenFor, m_X1_holdersFor, m_X2_init, m_X3_init, m_X3_read, m_X3_cutAll, m_X3_cut, m_X3_addToken, m_X3_isLetter, m_X3_isDigit, m_X3_wideSignKind, m_X3_signKind, m_X3_wordKind, m_X3_kind, m_X3_fail, m_X3_emit, m_X3_readClause, m_X3_takeKeyAndIf, m_X3_isKey, m_X3_readTest, m_X3_readFact, m_X3_takeSign, m_X3_readSum, m_X3_readValue, m_X4_init, m_X4_find, m_X4_toSpot, m_X4_areWithin, m_X5_init, m_X5_build, m_X5_weigh, m_X5_insert, m_X5_decidingClause, m_X5_isBefore, m_X5_inPlace, m_X5_everybody, m_X5_fits, m_X6_init, m_X6_has, m_X6_get, m_X6_set, m_X6_open, m_X6_become, m_X7_init, m_X7_become, m_X7_isFallen, m_X7_fallsTold, m_X7_paperHolds, m_X7_placesOnList, m_X7_isOnList, m_X7_depthBelow, m_X8_init, m_X8_body, m_X8_person, m_X8_step, m_X8_near, m_X8_paper, m_X8_list, m_X8_falls, m_X8_feed, m_X8_end, m_X8_law, m_X8_rules, m_X8_may, m_X8_commands, m_X8_ahead, m_X8_message, m_X8_sight, m_X8_knows, m_X8_thinks, m_X8_wrong, m_X8_order, m_X8_seat, m_X8_force, m_X8_bound, m_X8_cross, m_X8_answers, m_X8_gaps, m_X8_doubt, m_X8_brief, m_X8_fights, m_X8_allied, m_X8_mended, m_X8_judge, m_X8_hangs, m_X8_mark, m_X8_back, m_X8_count, m_X8_isIn, m_X8_isMinute, m_X8_isSpot, m_X8_hasBit, m_X8_isSpan, m_X8_isBodyInMinute, m_X8_putOnTape, m_X8_lawOf, m_X8_survey, m_X8_surveyMinds, m_X8_wrongAfter, m_X8_wrongAfterFallOf, m_X8_worstFall, m_X8_seatOf, m_X8_isRunning, m_X8_bindingOrder, m_X9_init, m_X9_in, m_X9_isMinute, m_X9_isBody, m_X9_isPerson, m_X9_body, m_X9_person, m_X9_step, m_X9_stepAt, m_X9_placeX, m_X9_placeY, m_X9_apart, m_X9_nearTo, m_X9_near, m_X9_paper, m_X9_placeIn, m_X9_list, m_X9_falls, m_X9_feed, m_X9_put, m_X9_end, m_X9_wordOf, m_X9_clauseOf, m_X9_keyName, m_X9_fails, m_X9_sign, m_X9_blanks, m_X9_isDigit, m_X9_stands, m_X9_takes, m_X9_entry, m_X9_isCounted, m_X9_digits, m_X9_value, m_X9_sum, m_X9_compared, m_X9_top, m_X9_opens, m_X9_answers, m_X9_fact, m_X9_test, m_X9_clause, m_X9_law, m_X9_rules, m_X9_truth, m_X9_both, m_X9_answer, m_X9_asItIs, m_X9_hasPaper, m_X9_below, m_X9_looks, m_X9_keyed, m_X9_works, m_X9_parts, m_X9_isAhead, m_X9_mayOf, m_X9_firstOf, m_X9_chosen, m_X9_may, m_X9_commanding, m_X9_commands, m_X9_ahead, m_X9_message, m_X9_sight, m_X9_hasHeard, m_X9_saw, m_X9_hasFallen, m_X9_knowsFall, m_X9_knows, m_X9_nobodyBesides, m_X9_asTaken, m_X9_thinks, m_X9_commandingBesides, m_X9_wrongs, m_X9_wrong, m_X9_order, m_X9_isOrder, m_X9_seatOf, m_X9_seat, m_X9_isLapsed, m_X9_isInForce, m_X9_force, m_X9_level, m_X9_binding, m_X9_bound, m_X9_cross, m_X9_answers_, m_X9_gaps, m_X9_bits, m_X9_doubted, m_X9_doubt, m_X9_allied, m_X9_mended, m_X9_judge, m_X9_hangs, m_X9_brief, m_X9_fights, m_X9_carry, m_X9_carries, m_X9_mark, m_X9_back, m_X9_count, m_J6_bitCount_0f7a4, m_J9_abs_0f7a4, m_J9_max_7cf53, m_J9_min_7cf53, m_J0_length_8abf5, m_J0_charAt_5068e, m_J0_coder_7d493, m_J0_isLatin1_aae02, m_J0_checkIndex_df160, m_J1_charAt_3b067, m_J2_getChar_3b067, m_J2_length_9d52b, m_J2_charAt_3b067, m_J2_checkIndex_2214a, m_J7_fill_53178, m_J7_copyOf_59c91, m_J3_checkIndex_8e157]
def mtab (j : Nat) : md_ := mlist.getD j m_X0_init
theorem mt_0 : mtab 0 = m_X0_init := rfl
theorem mt_1 : mtab 1 = m_X0_gather := rfl
theorem mt_2 : mtab 2 = m_X0_gatherOne := rfl
theorem mt_3 : mtab 3 = m_X0_gatherList := rfl
theorem mt_4 : mtab 4 = m_X0_gatherPapers := rfl
theorem mt_5 : mtab 5 = m_X0_get := rfl
theorem mt_6 : mtab 6 = m_X0_set := rfl
theorem mt_7 : mtab 7 = m_X0_trueForm := rfl
theorem mt_8 : mtab 8 = m_X0_anyHolds := rfl
theorem mt_9 : mtab 9 = m_X0_holds := rfl
theorem mt_10 : mtab 10 = m_X0_joined := rfl
theorem mt_11 : mtab 11 = m_X0_keyValue := rfl
theorem mt_12 : mtab 12 = m_X1_init := rfl
theorem mt_13 : mtab 13 = m_X1_learn := rfl
theorem mt_14 : mtab 14 = m_X1_witness := rfl
theorem mt_15 : mtab 15 = m_X1_hear := rfl
theorem mt_16 : mtab 16 = m_X1_note := rfl
theorem mt_17 : mtab 17 = m_X1_learnHolders := rfl
theorem mt_18 : mtab 18 = m_X1_watch := rfl
theorem mt_19 : mtab 19 = m_X1_isFallKnown := rfl
theorem mt_20 : mtab 20 = m_X1_isPaperKnown := rfl
theorem mt_21 : mtab 21 = m_X1_fallenFor := rfl
theorem mt_22 : mtab 22 = m_X1_holdersFor := rfl
theorem mt_23 : mtab 23 = m_X2_init := rfl
theorem mt_24 : mtab 24 = m_X3_init := rfl
theorem mt_25 : mtab 25 = m_X3_read := rfl
theorem mt_26 : mtab 26 = m_X3_cutAll := rfl
theorem mt_27 : mtab 27 = m_X3_cut := rfl
theorem mt_28 : mtab 28 = m_X3_addToken := rfl
theorem mt_29 : mtab 29 = m_X3_isLetter := rfl
theorem mt_30 : mtab 30 = m_X3_isDigit := rfl
theorem mt_31 : mtab 31 = m_X3_wideSignKind := rfl
theorem mt_32 : mtab 32 = m_X3_signKind := rfl
theorem mt_33 : mtab 33 = m_X3_wordKind := rfl
theorem mt_34 : mtab 34 = m_X3_kind := rfl
theorem mt_35 : mtab 35 = m_X3_fail := rfl
theorem mt_36 : mtab 36 = m_X3_emit := rfl
theorem mt_37 : mtab 37 = m_X3_readClause := rfl
theorem mt_38 : mtab 38 = m_X3_takeKeyAndIf := rfl
theorem mt_39 : mtab 39 = m_X3_isKey := rfl
theorem mt_40 : mtab 40 = m_X3_readTest := rfl
theorem mt_41 : mtab 41 = m_X3_readFact := rfl
theorem mt_42 : mtab 42 = m_X3_takeSign := rfl
theorem mt_43 : mtab 43 = m_X3_readSum := rfl
theorem mt_44 : mtab 44 = m_X3_readValue := rfl
theorem mt_45 : mtab 45 = m_X4_init := rfl
theorem mt_46 : mtab 46 = m_X4_find := rfl
theorem mt_47 : mtab 47 = m_X4_toSpot := rfl
theorem mt_48 : mtab 48 = m_X4_areWithin := rfl
theorem mt_49 : mtab 49 = m_X5_init := rfl
theorem mt_50 : mtab 50 = m_X5_build := rfl
theorem mt_51 : mtab 51 = m_X5_weigh := rfl
theorem mt_52 : mtab 52 = m_X5_insert := rfl
theorem mt_53 : mtab 53 = m_X5_decidingClause := rfl
theorem mt_54 : mtab 54 = m_X5_isBefore := rfl
theorem mt_55 : mtab 55 = m_X5_inPlace := rfl
theorem mt_56 : mtab 56 = m_X5_everybody := rfl
theorem mt_57 : mtab 57 = m_X5_fits := rfl
theorem mt_58 : mtab 58 = m_X6_init := rfl
theorem mt_59 : mtab 59 = m_X6_has := rfl
theorem mt_60 : mtab 60 = m_X6_get := rfl
theorem mt_61 : mtab 61 = m_X6_set := rfl
theorem mt_62 : mtab 62 = m_X6_open := rfl
theorem mt_63 : mtab 63 = m_X6_become := rfl
theorem mt_64 : mtab 64 = m_X7_init := rfl
theorem mt_65 : mtab 65 = m_X7_become := rfl
theorem mt_66 : mtab 66 = m_X7_isFallen := rfl
theorem mt_67 : mtab 67 = m_X7_fallsTold := rfl
theorem mt_68 : mtab 68 = m_X7_paperHolds := rfl
theorem mt_69 : mtab 69 = m_X7_placesOnList := rfl
theorem mt_70 : mtab 70 = m_X7_isOnList := rfl
theorem mt_71 : mtab 71 = m_X7_depthBelow := rfl
theorem mt_72 : mtab 72 = m_X8_init := rfl
theorem mt_73 : mtab 73 = m_X8_body := rfl
theorem mt_74 : mtab 74 = m_X8_person := rfl
theorem mt_75 : mtab 75 = m_X8_step := rfl
theorem mt_76 : mtab 76 = m_X8_near := rfl
theorem mt_77 : mtab 77 = m_X8_paper := rfl
theorem mt_78 : mtab 78 = m_X8_list := rfl
theorem mt_79 : mtab 79 = m_X8_falls := rfl
theorem mt_80 : mtab 80 = m_X8_feed := rfl
theorem mt_81 : mtab 81 = m_X8_end := rfl
theorem mt_82 : mtab 82 = m_X8_law := rfl
theorem mt_83 : mtab 83 = m_X8_rules := rfl
theorem mt_84 : mtab 84 = m_X8_may := rfl
theorem mt_85 : mtab 85 = m_X8_commands := rfl
theorem mt_86 : mtab 86 = m_X8_ahead := rfl
theorem mt_87 : mtab 87 = m_X8_message := rfl
theorem mt_88 : mtab 88 = m_X8_sight := rfl
theorem mt_89 : mtab 89 = m_X8_knows := rfl
theorem mt_90 : mtab 90 = m_X8_thinks := rfl
theorem mt_91 : mtab 91 = m_X8_wrong := rfl
theorem mt_92 : mtab 92 = m_X8_order := rfl
theorem mt_93 : mtab 93 = m_X8_seat := rfl
theorem mt_94 : mtab 94 = m_X8_force := rfl
theorem mt_95 : mtab 95 = m_X8_bound := rfl
theorem mt_96 : mtab 96 = m_X8_cross := rfl
theorem mt_97 : mtab 97 = m_X8_answers := rfl
theorem mt_98 : mtab 98 = m_X8_gaps := rfl
theorem mt_99 : mtab 99 = m_X8_doubt := rfl
theorem mt_100 : mtab 100 = m_X8_brief := rfl
theorem mt_101 : mtab 101 = m_X8_fights := rfl
theorem mt_102 : mtab 102 = m_X8_allied := rfl
theorem mt_103 : mtab 103 = m_X8_mended := rfl
theorem mt_104 : mtab 104 = m_X8_judge := rfl
theorem mt_105 : mtab 105 = m_X8_hangs := rfl
theorem mt_106 : mtab 106 = m_X8_mark := rfl
theorem mt_107 : mtab 107 = m_X8_back := rfl
theorem mt_108 : mtab 108 = m_X8_count := rfl
theorem mt_109 : mtab 109 = m_X8_isIn := rfl
theorem mt_110 : mtab 110 = m_X8_isMinute := rfl
theorem mt_111 : mtab 111 = m_X8_isSpot := rfl
theorem mt_112 : mtab 112 = m_X8_hasBit := rfl
theorem mt_113 : mtab 113 = m_X8_isSpan := rfl
theorem mt_114 : mtab 114 = m_X8_isBodyInMinute := rfl
theorem mt_115 : mtab 115 = m_X8_putOnTape := rfl
theorem mt_116 : mtab 116 = m_X8_lawOf := rfl
theorem mt_117 : mtab 117 = m_X8_survey := rfl
theorem mt_118 : mtab 118 = m_X8_surveyMinds := rfl
theorem mt_119 : mtab 119 = m_X8_wrongAfter := rfl
theorem mt_120 : mtab 120 = m_X8_wrongAfterFallOf := rfl
theorem mt_121 : mtab 121 = m_X8_worstFall := rfl
theorem mt_122 : mtab 122 = m_X8_seatOf := rfl
theorem mt_123 : mtab 123 = m_X8_isRunning := rfl
theorem mt_124 : mtab 124 = m_X8_bindingOrder := rfl
theorem mt_125 : mtab 125 = m_X9_init := rfl
theorem mt_126 : mtab 126 = m_X9_in := rfl
theorem mt_127 : mtab 127 = m_X9_isMinute := rfl
theorem mt_128 : mtab 128 = m_X9_isBody := rfl
theorem mt_129 : mtab 129 = m_X9_isPerson := rfl
theorem mt_130 : mtab 130 = m_X9_body := rfl
theorem mt_131 : mtab 131 = m_X9_person := rfl
theorem mt_132 : mtab 132 = m_X9_step := rfl
theorem mt_133 : mtab 133 = m_X9_stepAt := rfl
theorem mt_134 : mtab 134 = m_X9_placeX := rfl
theorem mt_135 : mtab 135 = m_X9_placeY := rfl
theorem mt_136 : mtab 136 = m_X9_apart := rfl
theorem mt_137 : mtab 137 = m_X9_nearTo := rfl
theorem mt_138 : mtab 138 = m_X9_near := rfl
theorem mt_139 : mtab 139 = m_X9_paper := rfl
theorem mt_140 : mtab 140 = m_X9_placeIn := rfl
theorem mt_141 : mtab 141 = m_X9_list := rfl
theorem mt_142 : mtab 142 = m_X9_falls := rfl
theorem mt_143 : mtab 143 = m_X9_feed := rfl
theorem mt_144 : mtab 144 = m_X9_put := rfl
theorem mt_145 : mtab 145 = m_X9_end := rfl
theorem mt_146 : mtab 146 = m_X9_wordOf := rfl
theorem mt_147 : mtab 147 = m_X9_clauseOf := rfl
theorem mt_148 : mtab 148 = m_X9_keyName := rfl
theorem mt_149 : mtab 149 = m_X9_fails := rfl
theorem mt_150 : mtab 150 = m_X9_sign := rfl
theorem mt_151 : mtab 151 = m_X9_blanks := rfl
theorem mt_152 : mtab 152 = m_X9_isDigit := rfl
theorem mt_153 : mtab 153 = m_X9_stands := rfl
theorem mt_154 : mtab 154 = m_X9_takes := rfl
theorem mt_155 : mtab 155 = m_X9_entry := rfl
theorem mt_156 : mtab 156 = m_X9_isCounted := rfl
theorem mt_157 : mtab 157 = m_X9_digits := rfl
theorem mt_158 : mtab 158 = m_X9_value := rfl
theorem mt_159 : mtab 159 = m_X9_sum := rfl
theorem mt_160 : mtab 160 = m_X9_compared := rfl
theorem mt_161 : mtab 161 = m_X9_top := rfl
theorem mt_162 : mtab 162 = m_X9_opens := rfl
theorem mt_163 : mtab 163 = m_X9_answers := rfl
theorem mt_164 : mtab 164 = m_X9_fact := rfl
theorem mt_165 : mtab 165 = m_X9_test := rfl
theorem mt_166 : mtab 166 = m_X9_clause := rfl
theorem mt_167 : mtab 167 = m_X9_law := rfl
theorem mt_168 : mtab 168 = m_X9_rules := rfl
theorem mt_169 : mtab 169 = m_X9_truth := rfl
theorem mt_170 : mtab 170 = m_X9_both := rfl
theorem mt_171 : mtab 171 = m_X9_answer := rfl
theorem mt_172 : mtab 172 = m_X9_asItIs := rfl
theorem mt_173 : mtab 173 = m_X9_hasPaper := rfl
theorem mt_174 : mtab 174 = m_X9_below := rfl
theorem mt_175 : mtab 175 = m_X9_looks := rfl
theorem mt_176 : mtab 176 = m_X9_keyed := rfl
theorem mt_177 : mtab 177 = m_X9_works := rfl
theorem mt_178 : mtab 178 = m_X9_parts := rfl
theorem mt_179 : mtab 179 = m_X9_isAhead := rfl
theorem mt_180 : mtab 180 = m_X9_mayOf := rfl
theorem mt_181 : mtab 181 = m_X9_firstOf := rfl
theorem mt_182 : mtab 182 = m_X9_chosen := rfl
theorem mt_183 : mtab 183 = m_X9_may := rfl
theorem mt_184 : mtab 184 = m_X9_commanding := rfl
theorem mt_185 : mtab 185 = m_X9_commands := rfl
theorem mt_186 : mtab 186 = m_X9_ahead := rfl
theorem mt_187 : mtab 187 = m_X9_message := rfl
theorem mt_188 : mtab 188 = m_X9_sight := rfl
theorem mt_189 : mtab 189 = m_X9_hasHeard := rfl
theorem mt_190 : mtab 190 = m_X9_saw := rfl
theorem mt_191 : mtab 191 = m_X9_hasFallen := rfl
theorem mt_192 : mtab 192 = m_X9_knowsFall := rfl
theorem mt_193 : mtab 193 = m_X9_knows := rfl
theorem mt_194 : mtab 194 = m_X9_nobodyBesides := rfl
theorem mt_195 : mtab 195 = m_X9_asTaken := rfl
theorem mt_196 : mtab 196 = m_X9_thinks := rfl
theorem mt_197 : mtab 197 = m_X9_commandingBesides := rfl
theorem mt_198 : mtab 198 = m_X9_wrongs := rfl
theorem mt_199 : mtab 199 = m_X9_wrong := rfl
theorem mt_200 : mtab 200 = m_X9_order := rfl
theorem mt_201 : mtab 201 = m_X9_isOrder := rfl
theorem mt_202 : mtab 202 = m_X9_seatOf := rfl
theorem mt_203 : mtab 203 = m_X9_seat := rfl
theorem mt_204 : mtab 204 = m_X9_isLapsed := rfl
theorem mt_205 : mtab 205 = m_X9_isInForce := rfl
theorem mt_206 : mtab 206 = m_X9_force := rfl
theorem mt_207 : mtab 207 = m_X9_level := rfl
theorem mt_208 : mtab 208 = m_X9_binding := rfl
theorem mt_209 : mtab 209 = m_X9_bound := rfl
theorem mt_210 : mtab 210 = m_X9_cross := rfl
theorem mt_211 : mtab 211 = m_X9_answers_ := rfl
theorem mt_212 : mtab 212 = m_X9_gaps := rfl
theorem mt_213 : mtab 213 = m_X9_bits := rfl
theorem mt_214 : mtab 214 = m_X9_doubted := rfl
theorem mt_215 : mtab 215 = m_X9_doubt := rfl
theorem mt_216 : mtab 216 = m_X9_allied := rfl
theorem mt_217 : mtab 217 = m_X9_mended := rfl
theorem mt_218 : mtab 218 = m_X9_judge := rfl
theorem mt_219 : mtab 219 = m_X9_hangs := rfl
theorem mt_220 : mtab 220 = m_X9_brief := rfl
theorem mt_221 : mtab 221 = m_X9_fights := rfl
theorem mt_222 : mtab 222 = m_X9_carry := rfl
theorem mt_223 : mtab 223 = m_X9_carries := rfl
theorem mt_224 : mtab 224 = m_X9_mark := rfl
theorem mt_225 : mtab 225 = m_X9_back := rfl
theorem mt_226 : mtab 226 = m_X9_count := rfl
theorem mt_227 : mtab 227 = m_J6_bitCount_0f7a4 := rfl
theorem mt_228 : mtab 228 = m_J9_abs_0f7a4 := rfl
theorem mt_229 : mtab 229 = m_J9_max_7cf53 := rfl
theorem mt_230 : mtab 230 = m_J9_min_7cf53 := rfl
theorem mt_231 : mtab 231 = m_J0_length_8abf5 := rfl
theorem mt_232 : mtab 232 = m_J0_charAt_5068e := rfl
theorem mt_233 : mtab 233 = m_J0_coder_7d493 := rfl
theorem mt_234 : mtab 234 = m_J0_isLatin1_aae02 := rfl
theorem mt_235 : mtab 235 = m_J0_checkIndex_df160 := rfl
theorem mt_236 : mtab 236 = m_J1_charAt_3b067 := rfl
theorem mt_237 : mtab 237 = m_J2_getChar_3b067 := rfl
theorem mt_238 : mtab 238 = m_J2_length_9d52b := rfl
theorem mt_239 : mtab 239 = m_J2_charAt_3b067 := rfl
theorem mt_240 : mtab 240 = m_J2_checkIndex_2214a := rfl
theorem mt_241 : mtab 241 = m_J7_fill_53178 := rfl
theorem mt_242 : mtab 242 = m_J7_copyOf_59c91 := rfl
theorem mt_243 : mtab 243 = m_J3_checkIndex_8e157 := rfl
set_option maxRecDepth 100000 in
theorem cw_X0_init : cw_ok m_X0_init := ⟨lg_in (i := 168) rfl rfl, lg_in (i := 6) rfl rfl, ⟨by decide +kernel, by decide +kernel⟩, by decide⟩
theorem ar_X0_init : ar_ok m_X0_init 0 := by unfold ar_ok; decide +kernel
set_option maxRecDepth 100000 in
theorem im_X0_init : Cond.instanceMethod yX0_init ∈ lw_good := lg_in (i := 167) rfl rfl
set_option maxRecDepth 100000 in
theorem cw_X0_gather : cw_ok m_X0_gather := ⟨lg_in (i := 331) rfl rfl, lg_in (i := 6) rfl rfl, ⟨by decide +kernel, by decide +kernel⟩, by decide⟩
theorem ar_X0_gather : ar_ok m_X0_gather 3 := by unfold ar_ok; decide +kernel
set_option maxRecDepth 100000 in
theorem im_X0_gather : Cond.instanceMethod yX0_gather ∈ lw_good := lg_in (i := 329) rfl rfl
set_option maxRecDepth 100000 in
theorem se_X0_gather : Cond.selects yX0_gather.cls yX0_gather yX0_gather ∈ lw_good := lg_in (i := 330) rfl rfl
set_option maxRecDepth 100000 in
theorem cw_X0_gatherOne : cw_ok m_X0_gatherOne := ⟨lg_in (i := 346) rfl rfl, lg_in (i := 6) rfl rfl, ⟨by decide +kernel, by decide +kernel⟩, by decide⟩
theorem ar_X0_gatherOne : ar_ok m_X0_gatherOne 4 := by unfold ar_ok; decide +kernel
set_option maxRecDepth 100000 in
theorem im_X0_gatherOne : Cond.instanceMethod yX0_gatherOne ∈ lw_good := lg_in (i := 345) rfl rfl
set_option maxRecDepth 100000 in
theorem se_X0_gatherOne : Cond.selects yX0_gatherOne.cls yX0_gatherOne yX0_gatherOne ∈ lw_good := lg_sel (i := 1) rfl rfl
set_option maxRecDepth 100000 in
theorem cw_X0_gatherList : cw_ok m_X0_gatherList := ⟨lg_in (i := 372) rfl rfl, lg_in (i := 6) rfl rfl, ⟨by decide +kernel, by decide +kernel⟩, by decide⟩
theorem ar_X0_gatherList : ar_ok m_X0_gatherList 2 := by unfold ar_ok; decide +kernel
set_option maxRecDepth 100000 in
theorem im_X0_gatherList : Cond.instanceMethod yX0_gatherList ∈ lw_good := lg_in (i := 371) rfl rfl
set_option maxRecDepth 100000 in
theorem se_X0_gatherList : Cond.selects yX0_gatherList.cls yX0_gatherList yX0_gatherList ∈ lw_good := lg_sel (i := 2) rfl rfl
set_option maxRecDepth 100000 in
theorem cw_X0_gatherPapers : cw_ok m_X0_gatherPapers := ⟨lg_in (i := 376) rfl rfl, lg_in (i := 6) rfl rfl, ⟨by decide +kernel, by decide +kernel⟩, by decide⟩
theorem ar_X0_gatherPapers : ar_ok m_X0_gatherPapers 3 := by unfold ar_ok; decide +kernel
set_option maxRecDepth 100000 in
theorem im_X0_gatherPapers : Cond.instanceMethod yX0_gatherPapers ∈ lw_good := lg_in (i := 375) rfl rfl
set_option maxRecDepth 100000 in
theorem se_X0_gatherPapers : Cond.selects yX0_gatherPapers.cls yX0_gatherPapers yX0_gatherPapers ∈ lw_good := lg_sel (i := 3) rfl rfl
set_option maxRecDepth 100000 in
theorem cw_X0_get : cw_ok m_X0_get := ⟨lg_in (i := 384) rfl rfl, lg_in (i := 6) rfl rfl, ⟨by decide +kernel, by decide +kernel⟩, by decide⟩
theorem ar_X0_get : ar_ok m_X0_get 2 := by unfold ar_ok; decide +kernel
set_option maxRecDepth 100000 in
theorem im_X0_get : Cond.instanceMethod yX0_get ∈ lw_good := lg_in (i := 382) rfl rfl
set_option maxRecDepth 100000 in
theorem se_X0_get : Cond.selects yX0_get.cls yX0_get yX0_get ∈ lw_good := lg_in (i := 383) rfl rfl
set_option maxRecDepth 100000 in
theorem cw_X0_set : cw_ok m_X0_set := ⟨lg_in (i := 356) rfl rfl, lg_in (i := 6) rfl rfl, ⟨by decide +kernel, by decide +kernel⟩, by decide⟩
theorem ar_X0_set : ar_ok m_X0_set 3 := by unfold ar_ok; decide +kernel
set_option maxRecDepth 100000 in
theorem im_X0_set : Cond.instanceMethod yX0_set ∈ lw_good := lg_in (i := 354) rfl rfl
set_option maxRecDepth 100000 in
theorem se_X0_set : Cond.selects yX0_set.cls yX0_set yX0_set ∈ lw_good := lg_in (i := 355) rfl rfl
set_option maxRecDepth 100000 in
theorem cw_X0_trueForm : cw_ok m_X0_trueForm := ⟨lg_in (i := 672) rfl rfl, lg_in (i := 6) rfl rfl, ⟨by decide +kernel, by decide +kernel⟩, by decide⟩
theorem ar_X0_trueForm : ar_ok m_X0_trueForm 1 := by unfold ar_ok; decide +kernel
set_option maxRecDepth 100000 in
theorem im_X0_trueForm : Cond.instanceMethod yX0_trueForm ∈ lw_good := lg_in (i := 670) rfl rfl
set_option maxRecDepth 100000 in
theorem se_X0_trueForm : Cond.selects yX0_trueForm.cls yX0_trueForm yX0_trueForm ∈ lw_good := lg_in (i := 671) rfl rfl
set_option maxRecDepth 100000 in
theorem cw_X0_anyHolds : cw_ok m_X0_anyHolds := ⟨lg_in (i := 618) rfl rfl, lg_in (i := 6) rfl rfl, ⟨by decide +kernel, by decide +kernel⟩, by decide⟩
theorem ar_X0_anyHolds : ar_ok m_X0_anyHolds 3 := by unfold ar_ok; decide +kernel
set_option maxRecDepth 100000 in
theorem im_X0_anyHolds : Cond.instanceMethod yX0_anyHolds ∈ lw_good := lg_in (i := 616) rfl rfl
set_option maxRecDepth 100000 in
theorem se_X0_anyHolds : Cond.selects yX0_anyHolds.cls yX0_anyHolds yX0_anyHolds ∈ lw_good := lg_in (i := 617) rfl rfl
set_option maxRecDepth 100000 in
theorem cw_X0_holds : cw_ok m_X0_holds := ⟨lg_in (i := 622) rfl rfl, lg_in (i := 6) rfl rfl, ⟨by decide +kernel, by decide +kernel⟩, by decide⟩
theorem ar_X0_holds : ar_ok m_X0_holds 3 := by unfold ar_ok; decide +kernel
set_option maxRecDepth 100000 in
theorem im_X0_holds : Cond.instanceMethod yX0_holds ∈ lw_good := lg_in (i := 620) rfl rfl
set_option maxRecDepth 100000 in
theorem se_X0_holds : Cond.selects yX0_holds.cls yX0_holds yX0_holds ∈ lw_good := lg_in (i := 621) rfl rfl
set_option maxRecDepth 100000 in
theorem cw_X0_joined : cw_ok m_X0_joined := ⟨lg_in (i := 626) rfl rfl, lg_in (i := 6) rfl rfl, ⟨by decide +kernel, by decide +kernel⟩, by decide⟩
theorem ar_X0_joined : ar_ok m_X0_joined 3 := by unfold ar_ok; decide +kernel
set_option maxRecDepth 100000 in
theorem st_X0_joined : Cond.static yX0_joined ∈ lw_good := lg_in (i := 625) rfl rfl
set_option maxRecDepth 100000 in
theorem cw_X0_keyValue : cw_ok m_X0_keyValue := ⟨lg_in (i := 636) rfl rfl, lg_in (i := 6) rfl rfl, ⟨by decide +kernel, by decide +kernel⟩, by decide⟩
theorem ar_X0_keyValue : ar_ok m_X0_keyValue 2 := by unfold ar_ok; decide +kernel
set_option maxRecDepth 100000 in
theorem im_X0_keyValue : Cond.instanceMethod yX0_keyValue ∈ lw_good := lg_in (i := 634) rfl rfl
set_option maxRecDepth 100000 in
theorem se_X0_keyValue : Cond.selects yX0_keyValue.cls yX0_keyValue yX0_keyValue ∈ lw_good := lg_in (i := 635) rfl rfl
set_option maxRecDepth 100000 in
theorem cw_X1_init : cw_ok m_X1_init := ⟨lg_in (i := 233) rfl rfl, lg_in (i := 9) rfl rfl, ⟨by decide +kernel, by decide +kernel⟩, by decide⟩
theorem ar_X1_init : ar_ok m_X1_init 0 := by unfold ar_ok; decide +kernel
set_option maxRecDepth 100000 in
theorem im_X1_init : Cond.instanceMethod yX1_init ∈ lw_good := lg_in (i := 232) rfl rfl
set_option maxRecDepth 100000 in
theorem cw_X1_learn : cw_ok m_X1_learn := ⟨lg_in (i := 693) rfl rfl, lg_in (i := 9) rfl rfl, ⟨by decide +kernel, by decide +kernel⟩, by decide⟩
theorem ar_X1_learn : ar_ok m_X1_learn 3 := by unfold ar_ok; decide +kernel
set_option maxRecDepth 100000 in
theorem im_X1_learn : Cond.instanceMethod yX1_learn ∈ lw_good := lg_in (i := 691) rfl rfl
set_option maxRecDepth 100000 in
theorem se_X1_learn : Cond.selects yX1_learn.cls yX1_learn yX1_learn ∈ lw_good := lg_in (i := 692) rfl rfl
set_option maxRecDepth 100000 in
theorem cw_X1_witness : cw_ok m_X1_witness := ⟨lg_in (i := 699) rfl rfl, lg_in (i := 9) rfl rfl, ⟨by decide +kernel, by decide +kernel⟩, by decide⟩
theorem ar_X1_witness : ar_ok m_X1_witness 2 := by unfold ar_ok; decide +kernel
set_option maxRecDepth 100000 in
theorem im_X1_witness : Cond.instanceMethod yX1_witness ∈ lw_good := lg_in (i := 698) rfl rfl
set_option maxRecDepth 100000 in
theorem se_X1_witness : Cond.selects yX1_witness.cls yX1_witness yX1_witness ∈ lw_good := lg_sel (i := 21) rfl rfl
set_option maxRecDepth 100000 in
theorem cw_X1_hear : cw_ok m_X1_hear := ⟨lg_in (i := 712) rfl rfl, lg_in (i := 9) rfl rfl, ⟨by decide +kernel, by decide +kernel⟩, by decide⟩
theorem ar_X1_hear : ar_ok m_X1_hear 3 := by unfold ar_ok; decide +kernel
set_option maxRecDepth 100000 in
theorem im_X1_hear : Cond.instanceMethod yX1_hear ∈ lw_good := lg_in (i := 711) rfl rfl
set_option maxRecDepth 100000 in
theorem se_X1_hear : Cond.selects yX1_hear.cls yX1_hear yX1_hear ∈ lw_good := lg_sel (i := 22) rfl rfl
set_option maxRecDepth 100000 in
theorem cw_X1_note : cw_ok m_X1_note := ⟨lg_in (i := 708) rfl rfl, lg_in (i := 9) rfl rfl, ⟨by decide +kernel, by decide +kernel⟩, by decide⟩
theorem ar_X1_note : ar_ok m_X1_note 3 := by unfold ar_ok; decide +kernel
set_option maxRecDepth 100000 in
theorem st_X1_note : Cond.static yX1_note ∈ lw_good := lg_in (i := 707) rfl rfl
set_option maxRecDepth 100000 in
theorem cw_X1_learnHolders : cw_ok m_X1_learnHolders := ⟨lg_in (i := 733) rfl rfl, lg_in (i := 9) rfl rfl, ⟨by decide +kernel, by decide +kernel⟩, by decide⟩
theorem ar_X1_learnHolders : ar_ok m_X1_learnHolders 3 := by unfold ar_ok; decide +kernel
set_option maxRecDepth 100000 in
theorem im_X1_learnHolders : Cond.instanceMethod yX1_learnHolders ∈ lw_good := lg_in (i := 731) rfl rfl
set_option maxRecDepth 100000 in
theorem se_X1_learnHolders : Cond.selects yX1_learnHolders.cls yX1_learnHolders yX1_learnHolders ∈ lw_good := lg_in (i := 732) rfl rfl
set_option maxRecDepth 100000 in
theorem cw_X1_watch : cw_ok m_X1_watch := ⟨lg_in (i := 738) rfl rfl, lg_in (i := 9) rfl rfl, ⟨by decide +kernel, by decide +kernel⟩, by decide⟩
theorem ar_X1_watch : ar_ok m_X1_watch 2 := by unfold ar_ok; decide +kernel
set_option maxRecDepth 100000 in
theorem im_X1_watch : Cond.instanceMethod yX1_watch ∈ lw_good := lg_in (i := 736) rfl rfl
set_option maxRecDepth 100000 in
theorem se_X1_watch : Cond.selects yX1_watch.cls yX1_watch yX1_watch ∈ lw_good := lg_in (i := 737) rfl rfl
set_option maxRecDepth 100000 in
theorem cw_X1_isFallKnown : cw_ok m_X1_isFallKnown := ⟨lg_in (i := 721) rfl rfl, lg_in (i := 9) rfl rfl, ⟨by decide +kernel, by decide +kernel⟩, by decide⟩
theorem ar_X1_isFallKnown : ar_ok m_X1_isFallKnown 2 := by unfold ar_ok; decide +kernel
set_option maxRecDepth 100000 in
theorem im_X1_isFallKnown : Cond.instanceMethod yX1_isFallKnown ∈ lw_good := lg_in (i := 719) rfl rfl
set_option maxRecDepth 100000 in
theorem se_X1_isFallKnown : Cond.selects yX1_isFallKnown.cls yX1_isFallKnown yX1_isFallKnown ∈ lw_good := lg_in (i := 720) rfl rfl
set_option maxRecDepth 100000 in
theorem cw_X1_isPaperKnown : cw_ok m_X1_isPaperKnown := ⟨lg_in (i := 716) rfl rfl, lg_in (i := 9) rfl rfl, ⟨by decide +kernel, by decide +kernel⟩, by decide⟩
theorem ar_X1_isPaperKnown : ar_ok m_X1_isPaperKnown 2 := by unfold ar_ok; decide +kernel
set_option maxRecDepth 100000 in
theorem im_X1_isPaperKnown : Cond.instanceMethod yX1_isPaperKnown ∈ lw_good := lg_in (i := 714) rfl rfl
set_option maxRecDepth 100000 in
theorem se_X1_isPaperKnown : Cond.selects yX1_isPaperKnown.cls yX1_isPaperKnown yX1_isPaperKnown ∈ lw_good := lg_in (i := 715) rfl rfl
set_option maxRecDepth 100000 in
theorem cw_X1_fallenFor : cw_ok m_X1_fallenFor := ⟨lg_in (i := 742) rfl rfl, lg_in (i := 9) rfl rfl, ⟨by decide +kernel, by decide +kernel⟩, by decide⟩
theorem ar_X1_fallenFor : ar_ok m_X1_fallenFor 2 := by unfold ar_ok; decide +kernel
set_option maxRecDepth 100000 in
theorem im_X1_fallenFor : Cond.instanceMethod yX1_fallenFor ∈ lw_good := lg_in (i := 740) rfl rfl
set_option maxRecDepth 100000 in
theorem se_X1_fallenFor : Cond.selects yX1_fallenFor.cls yX1_fallenFor yX1_fallenFor ∈ lw_good := lg_in (i := 741) rfl rfl
set_option maxRecDepth 100000 in
theorem cw_X1_holdersFor : cw_ok m_X1_holdersFor := ⟨lg_in (i := 746) rfl rfl, lg_in (i := 9) rfl rfl, ⟨by decide +kernel, by decide +kernel⟩, by decide⟩
theorem ar_X1_holdersFor : ar_ok m_X1_holdersFor 1 := by unfold ar_ok; decide +kernel
set_option maxRecDepth 100000 in
theorem im_X1_holdersFor : Cond.instanceMethod yX1_holdersFor ∈ lw_good := lg_in (i := 744) rfl rfl
set_option maxRecDepth 100000 in
theorem se_X1_holdersFor : Cond.selects yX1_holdersFor.cls yX1_holdersFor yX1_holdersFor ∈ lw_good := lg_in (i := 745) rfl rfl
set_option maxRecDepth 100000 in
theorem cw_X2_init : cw_ok m_X2_init := ⟨lg_in (i := 552) rfl rfl, lg_in (i := 16) rfl rfl, ⟨by decide +kernel, by decide +kernel⟩, by decide⟩
theorem ar_X2_init : ar_ok m_X2_init 1 := by unfold ar_ok; decide +kernel
set_option maxRecDepth 100000 in
theorem im_X2_init : Cond.instanceMethod yX2_init ∈ lw_good := lg_in (i := 551) rfl rfl
set_option maxRecDepth 100000 in
theorem cw_X3_init : cw_ok m_X3_init := ⟨lg_in (i := 112) rfl rfl, lg_in (i := 5) rfl rfl, ⟨by decide +kernel, by decide +kernel⟩, by decide⟩
theorem ar_X3_init : ar_ok m_X3_init 0 := by unfold ar_ok; decide +kernel
set_option maxRecDepth 100000 in
theorem im_X3_init : Cond.instanceMethod yX3_init ∈ lw_good := lg_in (i := 111) rfl rfl
set_option maxRecDepth 100000 in
theorem cw_X3_read : cw_ok m_X3_read := ⟨lg_in (i := 425) rfl rfl, lg_in (i := 5) rfl rfl, ⟨by decide +kernel, by decide +kernel⟩, by decide⟩
theorem ar_X3_read : ar_ok m_X3_read 2 := by unfold ar_ok; decide +kernel
set_option maxRecDepth 100000 in
theorem im_X3_read : Cond.instanceMethod yX3_read ∈ lw_good := lg_in (i := 423) rfl rfl
set_option maxRecDepth 100000 in
theorem se_X3_read : Cond.selects yX3_read.cls yX3_read yX3_read ∈ lw_good := lg_in (i := 424) rfl rfl
set_option maxRecDepth 100000 in
theorem cw_X3_cutAll : cw_ok m_X3_cutAll := ⟨lg_in (i := 432) rfl rfl, lg_in (i := 5) rfl rfl, ⟨by decide +kernel, by decide +kernel⟩, by decide⟩
theorem ar_X3_cutAll : ar_ok m_X3_cutAll 2 := by unfold ar_ok; decide +kernel
set_option maxRecDepth 100000 in
theorem im_X3_cutAll : Cond.instanceMethod yX3_cutAll ∈ lw_good := lg_in (i := 431) rfl rfl
set_option maxRecDepth 100000 in
theorem se_X3_cutAll : Cond.selects yX3_cutAll.cls yX3_cutAll yX3_cutAll ∈ lw_good := lg_sel (i := 5) rfl rfl
set_option maxRecDepth 100000 in
theorem cw_X3_cut : cw_ok m_X3_cut := ⟨lg_in (i := 436) rfl rfl, lg_in (i := 5) rfl rfl, ⟨by decide +kernel, by decide +kernel⟩, by decide⟩
theorem ar_X3_cut : ar_ok m_X3_cut 3 := by unfold ar_ok; decide +kernel
set_option maxRecDepth 100000 in
theorem im_X3_cut : Cond.instanceMethod yX3_cut ∈ lw_good := lg_in (i := 435) rfl rfl
set_option maxRecDepth 100000 in
theorem se_X3_cut : Cond.selects yX3_cut.cls yX3_cut yX3_cut ∈ lw_good := lg_sel (i := 6) rfl rfl
set_option maxRecDepth 100000 in
theorem cw_X3_addToken : cw_ok m_X3_addToken := ⟨lg_in (i := 495) rfl rfl, lg_in (i := 5) rfl rfl, ⟨by decide +kernel, by decide +kernel⟩, by decide⟩
theorem ar_X3_addToken : ar_ok m_X3_addToken 3 := by unfold ar_ok; decide +kernel
set_option maxRecDepth 100000 in
theorem im_X3_addToken : Cond.instanceMethod yX3_addToken ∈ lw_good := lg_in (i := 494) rfl rfl
set_option maxRecDepth 100000 in
theorem se_X3_addToken : Cond.selects yX3_addToken.cls yX3_addToken yX3_addToken ∈ lw_good := lg_sel (i := 7) rfl rfl
set_option maxRecDepth 100000 in
theorem cw_X3_isLetter : cw_ok m_X3_isLetter := ⟨lg_in (i := 439) rfl rfl, lg_in (i := 5) rfl rfl, ⟨by decide +kernel, by decide +kernel⟩, by decide⟩
theorem ar_X3_isLetter : ar_ok m_X3_isLetter 1 := by unfold ar_ok; decide +kernel
set_option maxRecDepth 100000 in
theorem st_X3_isLetter : Cond.static yX3_isLetter ∈ lw_good := lg_in (i := 438) rfl rfl
set_option maxRecDepth 100000 in
theorem cw_X3_isDigit : cw_ok m_X3_isDigit := ⟨lg_in (i := 498) rfl rfl, lg_in (i := 5) rfl rfl, ⟨by decide +kernel, by decide +kernel⟩, by decide⟩
theorem ar_X3_isDigit : ar_ok m_X3_isDigit 1 := by unfold ar_ok; decide +kernel
set_option maxRecDepth 100000 in
theorem st_X3_isDigit : Cond.static yX3_isDigit ∈ lw_good := lg_in (i := 497) rfl rfl
set_option maxRecDepth 100000 in
theorem cw_X3_wideSignKind : cw_ok m_X3_wideSignKind := ⟨lg_in (i := 501) rfl rfl, lg_in (i := 5) rfl rfl, ⟨by decide +kernel, by decide +kernel⟩, by decide⟩
theorem ar_X3_wideSignKind : ar_ok m_X3_wideSignKind 1 := by unfold ar_ok; decide +kernel
set_option maxRecDepth 100000 in
theorem st_X3_wideSignKind : Cond.static yX3_wideSignKind ∈ lw_good := lg_in (i := 500) rfl rfl
set_option maxRecDepth 100000 in
theorem cw_X3_signKind : cw_ok m_X3_signKind := ⟨lg_in (i := 504) rfl rfl, lg_in (i := 5) rfl rfl, ⟨by decide +kernel, by decide +kernel⟩, by decide⟩
theorem ar_X3_signKind : ar_ok m_X3_signKind 1 := by unfold ar_ok; decide +kernel
set_option maxRecDepth 100000 in
theorem st_X3_signKind : Cond.static yX3_signKind ∈ lw_good := lg_in (i := 503) rfl rfl
set_option maxRecDepth 100000 in
theorem cw_X3_wordKind : cw_ok m_X3_wordKind := ⟨lg_in (i := 442) rfl rfl, lg_in (i := 5) rfl rfl, ⟨by decide +kernel, by decide +kernel⟩, by decide⟩
theorem ar_X3_wordKind : ar_ok m_X3_wordKind 3 := by unfold ar_ok; decide +kernel
set_option maxRecDepth 100000 in
theorem st_X3_wordKind : Cond.static yX3_wordKind ∈ lw_good := lg_in (i := 441) rfl rfl
set_option maxRecDepth 100000 in
theorem cw_X3_kind : cw_ok m_X3_kind := ⟨lg_in (i := 513) rfl rfl, lg_in (i := 5) rfl rfl, ⟨by decide +kernel, by decide +kernel⟩, by decide⟩
theorem ar_X3_kind : ar_ok m_X3_kind 0 := by unfold ar_ok; decide +kernel
set_option maxRecDepth 100000 in
theorem im_X3_kind : Cond.instanceMethod yX3_kind ∈ lw_good := lg_in (i := 512) rfl rfl
set_option maxRecDepth 100000 in
theorem se_X3_kind : Cond.selects yX3_kind.cls yX3_kind yX3_kind ∈ lw_good := lg_sel (i := 9) rfl rfl
set_option maxRecDepth 100000 in
theorem cw_X3_fail : cw_ok m_X3_fail := ⟨lg_in (i := 517) rfl rfl, lg_in (i := 5) rfl rfl, ⟨by decide +kernel, by decide +kernel⟩, by decide⟩
theorem ar_X3_fail : ar_ok m_X3_fail 1 := by unfold ar_ok; decide +kernel
set_option maxRecDepth 100000 in
theorem im_X3_fail : Cond.instanceMethod yX3_fail ∈ lw_good := lg_in (i := 516) rfl rfl
set_option maxRecDepth 100000 in
theorem se_X3_fail : Cond.selects yX3_fail.cls yX3_fail yX3_fail ∈ lw_good := lg_sel (i := 10) rfl rfl
set_option maxRecDepth 100000 in
theorem cw_X3_emit : cw_ok m_X3_emit := ⟨lg_in (i := 544) rfl rfl, lg_in (i := 5) rfl rfl, ⟨by decide +kernel, by decide +kernel⟩, by decide⟩
theorem ar_X3_emit : ar_ok m_X3_emit 1 := by unfold ar_ok; decide +kernel
set_option maxRecDepth 100000 in
theorem im_X3_emit : Cond.instanceMethod yX3_emit ∈ lw_good := lg_in (i := 543) rfl rfl
set_option maxRecDepth 100000 in
theorem se_X3_emit : Cond.selects yX3_emit.cls yX3_emit yX3_emit ∈ lw_good := lg_sel (i := 16) rfl rfl
set_option maxRecDepth 100000 in
theorem cw_X3_readClause : cw_ok m_X3_readClause := ⟨lg_in (i := 509) rfl rfl, lg_in (i := 5) rfl rfl, ⟨by decide +kernel, by decide +kernel⟩, by decide⟩
theorem ar_X3_readClause : ar_ok m_X3_readClause 0 := by unfold ar_ok; decide +kernel
set_option maxRecDepth 100000 in
theorem im_X3_readClause : Cond.instanceMethod yX3_readClause ∈ lw_good := lg_in (i := 508) rfl rfl
set_option maxRecDepth 100000 in
theorem se_X3_readClause : Cond.selects yX3_readClause.cls yX3_readClause yX3_readClause ∈ lw_good := lg_sel (i := 8) rfl rfl
set_option maxRecDepth 100000 in
theorem cw_X3_takeKeyAndIf : cw_ok m_X3_takeKeyAndIf := ⟨lg_in (i := 521) rfl rfl, lg_in (i := 5) rfl rfl, ⟨by decide +kernel, by decide +kernel⟩, by decide⟩
theorem ar_X3_takeKeyAndIf : ar_ok m_X3_takeKeyAndIf 0 := by unfold ar_ok; decide +kernel
set_option maxRecDepth 100000 in
theorem im_X3_takeKeyAndIf : Cond.instanceMethod yX3_takeKeyAndIf ∈ lw_good := lg_in (i := 520) rfl rfl
set_option maxRecDepth 100000 in
theorem se_X3_takeKeyAndIf : Cond.selects yX3_takeKeyAndIf.cls yX3_takeKeyAndIf yX3_takeKeyAndIf ∈ lw_good := lg_sel (i := 11) rfl rfl
set_option maxRecDepth 100000 in
theorem cw_X3_isKey : cw_ok m_X3_isKey := ⟨lg_in (i := 524) rfl rfl, lg_in (i := 5) rfl rfl, ⟨by decide +kernel, by decide +kernel⟩, by decide⟩
theorem ar_X3_isKey : ar_ok m_X3_isKey 1 := by unfold ar_ok; decide +kernel
set_option maxRecDepth 100000 in
theorem st_X3_isKey : Cond.static yX3_isKey ∈ lw_good := lg_in (i := 523) rfl rfl
set_option maxRecDepth 100000 in
theorem cw_X3_readTest : cw_ok m_X3_readTest := ⟨lg_in (i := 528) rfl rfl, lg_in (i := 5) rfl rfl, ⟨by decide +kernel, by decide +kernel⟩, by decide⟩
theorem ar_X3_readTest : ar_ok m_X3_readTest 1 := by unfold ar_ok; decide +kernel
set_option maxRecDepth 100000 in
theorem im_X3_readTest : Cond.instanceMethod yX3_readTest ∈ lw_good := lg_in (i := 527) rfl rfl
set_option maxRecDepth 100000 in
theorem se_X3_readTest : Cond.selects yX3_readTest.cls yX3_readTest yX3_readTest ∈ lw_good := lg_sel (i := 12) rfl rfl
set_option maxRecDepth 100000 in
theorem cw_X3_readFact : cw_ok m_X3_readFact := ⟨lg_in (i := 532) rfl rfl, lg_in (i := 5) rfl rfl, ⟨by decide +kernel, by decide +kernel⟩, by decide⟩
theorem ar_X3_readFact : ar_ok m_X3_readFact 1 := by unfold ar_ok; decide +kernel
set_option maxRecDepth 100000 in
theorem im_X3_readFact : Cond.instanceMethod yX3_readFact ∈ lw_good := lg_in (i := 531) rfl rfl
set_option maxRecDepth 100000 in
theorem se_X3_readFact : Cond.selects yX3_readFact.cls yX3_readFact yX3_readFact ∈ lw_good := lg_sel (i := 13) rfl rfl
set_option maxRecDepth 100000 in
theorem cw_X3_takeSign : cw_ok m_X3_takeSign := ⟨lg_in (i := 548) rfl rfl, lg_in (i := 5) rfl rfl, ⟨by decide +kernel, by decide +kernel⟩, by decide⟩
theorem ar_X3_takeSign : ar_ok m_X3_takeSign 0 := by unfold ar_ok; decide +kernel
set_option maxRecDepth 100000 in
theorem im_X3_takeSign : Cond.instanceMethod yX3_takeSign ∈ lw_good := lg_in (i := 547) rfl rfl
set_option maxRecDepth 100000 in
theorem se_X3_takeSign : Cond.selects yX3_takeSign.cls yX3_takeSign yX3_takeSign ∈ lw_good := lg_sel (i := 17) rfl rfl
set_option maxRecDepth 100000 in
theorem cw_X3_readSum : cw_ok m_X3_readSum := ⟨lg_in (i := 536) rfl rfl, lg_in (i := 5) rfl rfl, ⟨by decide +kernel, by decide +kernel⟩, by decide⟩
theorem ar_X3_readSum : ar_ok m_X3_readSum 0 := by unfold ar_ok; decide +kernel
set_option maxRecDepth 100000 in
theorem im_X3_readSum : Cond.instanceMethod yX3_readSum ∈ lw_good := lg_in (i := 535) rfl rfl
set_option maxRecDepth 100000 in
theorem se_X3_readSum : Cond.selects yX3_readSum.cls yX3_readSum yX3_readSum ∈ lw_good := lg_sel (i := 14) rfl rfl
set_option maxRecDepth 100000 in
theorem cw_X3_readValue : cw_ok m_X3_readValue := ⟨lg_in (i := 540) rfl rfl, lg_in (i := 5) rfl rfl, ⟨by decide +kernel, by decide +kernel⟩, by decide⟩
theorem ar_X3_readValue : ar_ok m_X3_readValue 0 := by unfold ar_ok; decide +kernel
set_option maxRecDepth 100000 in
theorem im_X3_readValue : Cond.instanceMethod yX3_readValue ∈ lw_good := lg_in (i := 539) rfl rfl
set_option maxRecDepth 100000 in
theorem se_X3_readValue : Cond.selects yX3_readValue.cls yX3_readValue yX3_readValue ∈ lw_good := lg_sel (i := 15) rfl rfl
set_option maxRecDepth 100000 in
theorem cw_X4_init : cw_ok m_X4_init := ⟨lg_in (i := 174) rfl rfl, lg_in (i := 7) rfl rfl, ⟨by decide +kernel, by decide +kernel⟩, by decide⟩
theorem ar_X4_init : ar_ok m_X4_init 0 := by unfold ar_ok; decide +kernel
set_option maxRecDepth 100000 in
theorem im_X4_init : Cond.instanceMethod yX4_init ∈ lw_good := lg_in (i := 173) rfl rfl
set_option maxRecDepth 100000 in
theorem cw_X4_find : cw_ok m_X4_find := ⟨lg_in (i := 338) rfl rfl, lg_in (i := 7) rfl rfl, ⟨by decide +kernel, by decide +kernel⟩, by decide⟩
theorem ar_X4_find : ar_ok m_X4_find 2 := by unfold ar_ok; decide +kernel
set_option maxRecDepth 100000 in
theorem im_X4_find : Cond.instanceMethod yX4_find ∈ lw_good := lg_in (i := 336) rfl rfl
set_option maxRecDepth 100000 in
theorem se_X4_find : Cond.selects yX4_find.cls yX4_find yX4_find ∈ lw_good := lg_in (i := 337) rfl rfl
set_option maxRecDepth 100000 in
theorem cw_X4_toSpot : cw_ok m_X4_toSpot := ⟨lg_in (i := 360) rfl rfl, lg_in (i := 7) rfl rfl, ⟨by decide +kernel, by decide +kernel⟩, by decide⟩
theorem ar_X4_toSpot : ar_ok m_X4_toSpot 3 := by unfold ar_ok; decide +kernel
set_option maxRecDepth 100000 in
theorem im_X4_toSpot : Cond.instanceMethod yX4_toSpot ∈ lw_good := lg_in (i := 358) rfl rfl
set_option maxRecDepth 100000 in
theorem se_X4_toSpot : Cond.selects yX4_toSpot.cls yX4_toSpot yX4_toSpot ∈ lw_good := lg_in (i := 359) rfl rfl
set_option maxRecDepth 100000 in
theorem cw_X4_areWithin : cw_ok m_X4_areWithin := ⟨lg_in (i := 705) rfl rfl, lg_in (i := 7) rfl rfl, ⟨by decide +kernel, by decide +kernel⟩, by decide⟩
theorem ar_X4_areWithin : ar_ok m_X4_areWithin 3 := by unfold ar_ok; decide +kernel
set_option maxRecDepth 100000 in
theorem im_X4_areWithin : Cond.instanceMethod yX4_areWithin ∈ lw_good := lg_in (i := 703) rfl rfl
set_option maxRecDepth 100000 in
theorem se_X4_areWithin : Cond.selects yX4_areWithin.cls yX4_areWithin yX4_areWithin ∈ lw_good := lg_in (i := 704) rfl rfl
set_option maxRecDepth 100000 in
theorem cw_X5_init : cw_ok m_X5_init := ⟨lg_in (i := 214) rfl rfl, lg_in (i := 8) rfl rfl, ⟨by decide +kernel, by decide +kernel⟩, by decide⟩
theorem ar_X5_init : ar_ok m_X5_init 0 := by unfold ar_ok; decide +kernel
set_option maxRecDepth 100000 in
theorem im_X5_init : Cond.instanceMethod yX5_init ∈ lw_good := lg_in (i := 213) rfl rfl
set_option maxRecDepth 100000 in
theorem cw_X5_build : cw_ok m_X5_build := ⟨lg_in (i := 610) rfl rfl, lg_in (i := 8) rfl rfl, ⟨by decide +kernel, by decide +kernel⟩, by decide⟩
theorem ar_X5_build : ar_ok m_X5_build 2 := by unfold ar_ok; decide +kernel
set_option maxRecDepth 100000 in
theorem im_X5_build : Cond.instanceMethod yX5_build ∈ lw_good := lg_in (i := 608) rfl rfl
set_option maxRecDepth 100000 in
theorem se_X5_build : Cond.selects yX5_build.cls yX5_build yX5_build ∈ lw_good := lg_in (i := 609) rfl rfl
set_option maxRecDepth 100000 in
theorem cw_X5_weigh : cw_ok m_X5_weigh := ⟨lg_in (i := 630) rfl rfl, lg_in (i := 8) rfl rfl, ⟨by decide +kernel, by decide +kernel⟩, by decide⟩
theorem ar_X5_weigh : ar_ok m_X5_weigh 3 := by unfold ar_ok; decide +kernel
set_option maxRecDepth 100000 in
theorem im_X5_weigh : Cond.instanceMethod yX5_weigh ∈ lw_good := lg_in (i := 628) rfl rfl
set_option maxRecDepth 100000 in
theorem se_X5_weigh : Cond.selects yX5_weigh.cls yX5_weigh yX5_weigh ∈ lw_good := lg_in (i := 629) rfl rfl
set_option maxRecDepth 100000 in
theorem cw_X5_insert : cw_ok m_X5_insert := ⟨lg_in (i := 641) rfl rfl, lg_in (i := 8) rfl rfl, ⟨by decide +kernel, by decide +kernel⟩, by decide⟩
theorem ar_X5_insert : ar_ok m_X5_insert 1 := by unfold ar_ok; decide +kernel
set_option maxRecDepth 100000 in
theorem im_X5_insert : Cond.instanceMethod yX5_insert ∈ lw_good := lg_in (i := 640) rfl rfl
set_option maxRecDepth 100000 in
theorem se_X5_insert : Cond.selects yX5_insert.cls yX5_insert yX5_insert ∈ lw_good := lg_sel (i := 20) rfl rfl
set_option maxRecDepth 100000 in
theorem cw_X5_decidingClause : cw_ok m_X5_decidingClause := ⟨lg_in (i := 649) rfl rfl, lg_in (i := 8) rfl rfl, ⟨by decide +kernel, by decide +kernel⟩, by decide⟩
theorem ar_X5_decidingClause : ar_ok m_X5_decidingClause 2 := by unfold ar_ok; decide +kernel
set_option maxRecDepth 100000 in
theorem im_X5_decidingClause : Cond.instanceMethod yX5_decidingClause ∈ lw_good := lg_in (i := 647) rfl rfl
set_option maxRecDepth 100000 in
theorem se_X5_decidingClause : Cond.selects yX5_decidingClause.cls yX5_decidingClause yX5_decidingClause ∈ lw_good := lg_in (i := 648) rfl rfl
set_option maxRecDepth 100000 in
theorem cw_X5_isBefore : cw_ok m_X5_isBefore := ⟨lg_in (i := 645) rfl rfl, lg_in (i := 8) rfl rfl, ⟨by decide +kernel, by decide +kernel⟩, by decide⟩
theorem ar_X5_isBefore : ar_ok m_X5_isBefore 2 := by unfold ar_ok; decide +kernel
set_option maxRecDepth 100000 in
theorem im_X5_isBefore : Cond.instanceMethod yX5_isBefore ∈ lw_good := lg_in (i := 643) rfl rfl
set_option maxRecDepth 100000 in
theorem se_X5_isBefore : Cond.selects yX5_isBefore.cls yX5_isBefore yX5_isBefore ∈ lw_good := lg_in (i := 644) rfl rfl
set_option maxRecDepth 100000 in
theorem cw_X5_inPlace : cw_ok m_X5_inPlace := ⟨lg_in (i := 653) rfl rfl, lg_in (i := 8) rfl rfl, ⟨by decide +kernel, by decide +kernel⟩, by decide⟩
theorem ar_X5_inPlace : ar_ok m_X5_inPlace 3 := by unfold ar_ok; decide +kernel
set_option maxRecDepth 100000 in
theorem im_X5_inPlace : Cond.instanceMethod yX5_inPlace ∈ lw_good := lg_in (i := 651) rfl rfl
set_option maxRecDepth 100000 in
theorem se_X5_inPlace : Cond.selects yX5_inPlace.cls yX5_inPlace yX5_inPlace ∈ lw_good := lg_in (i := 652) rfl rfl
set_option maxRecDepth 100000 in
theorem cw_X5_everybody : cw_ok m_X5_everybody := ⟨lg_in (i := 660) rfl rfl, lg_in (i := 8) rfl rfl, ⟨by decide +kernel, by decide +kernel⟩, by decide⟩
theorem ar_X5_everybody : ar_ok m_X5_everybody 2 := by unfold ar_ok; decide +kernel
set_option maxRecDepth 100000 in
theorem im_X5_everybody : Cond.instanceMethod yX5_everybody ∈ lw_good := lg_in (i := 658) rfl rfl
set_option maxRecDepth 100000 in
theorem se_X5_everybody : Cond.selects yX5_everybody.cls yX5_everybody yX5_everybody ∈ lw_good := lg_in (i := 659) rfl rfl
set_option maxRecDepth 100000 in
theorem cw_X5_fits : cw_ok m_X5_fits := ⟨lg_in (i := 656) rfl rfl, lg_in (i := 8) rfl rfl, ⟨by decide +kernel, by decide +kernel⟩, by decide⟩
theorem ar_X5_fits : ar_ok m_X5_fits 3 := by unfold ar_ok; decide +kernel
set_option maxRecDepth 100000 in
theorem st_X5_fits : Cond.static yX5_fits ∈ lw_good := lg_in (i := 655) rfl rfl
set_option maxRecDepth 100000 in
theorem cw_X6_init : cw_ok m_X6_init := ⟨lg_in (i := 37) rfl rfl, lg_in (i := 3) rfl rfl, ⟨by decide +kernel, by decide +kernel⟩, by decide⟩
theorem ar_X6_init : ar_ok m_X6_init 2 := by unfold ar_ok; decide +kernel
set_option maxRecDepth 100000 in
theorem im_X6_init : Cond.instanceMethod yX6_init ∈ lw_good := lg_in (i := 36) rfl rfl
set_option maxRecDepth 100000 in
theorem cw_X6_has : cw_ok m_X6_has := ⟨lg_in (i := 294) rfl rfl, lg_in (i := 3) rfl rfl, ⟨by decide +kernel, by decide +kernel⟩, by decide⟩
theorem ar_X6_has : ar_ok m_X6_has 1 := by unfold ar_ok; decide +kernel
set_option maxRecDepth 100000 in
theorem im_X6_has : Cond.instanceMethod yX6_has ∈ lw_good := lg_in (i := 292) rfl rfl
set_option maxRecDepth 100000 in
theorem se_X6_has : Cond.selects yX6_has.cls yX6_has yX6_has ∈ lw_good := lg_in (i := 293) rfl rfl
set_option maxRecDepth 100000 in
theorem cw_X6_get : cw_ok m_X6_get := ⟨lg_in (i := 342) rfl rfl, lg_in (i := 3) rfl rfl, ⟨by decide +kernel, by decide +kernel⟩, by decide⟩
theorem ar_X6_get : ar_ok m_X6_get 2 := by unfold ar_ok; decide +kernel
set_option maxRecDepth 100000 in
theorem im_X6_get : Cond.instanceMethod yX6_get ∈ lw_good := lg_in (i := 340) rfl rfl
set_option maxRecDepth 100000 in
theorem se_X6_get : Cond.selects yX6_get.cls yX6_get yX6_get ∈ lw_good := lg_in (i := 341) rfl rfl
set_option maxRecDepth 100000 in
theorem cw_X6_set : cw_ok m_X6_set := ⟨lg_in (i := 308) rfl rfl, lg_in (i := 3) rfl rfl, ⟨by decide +kernel, by decide +kernel⟩, by decide⟩
theorem ar_X6_set : ar_ok m_X6_set 3 := by unfold ar_ok; decide +kernel
set_option maxRecDepth 100000 in
theorem im_X6_set : Cond.instanceMethod yX6_set ∈ lw_good := lg_in (i := 306) rfl rfl
set_option maxRecDepth 100000 in
theorem se_X6_set : Cond.selects yX6_set.cls yX6_set yX6_set ∈ lw_good := lg_in (i := 307) rfl rfl
set_option maxRecDepth 100000 in
theorem cw_X6_open : cw_ok m_X6_open := ⟨lg_in (i := 304) rfl rfl, lg_in (i := 3) rfl rfl, ⟨by decide +kernel, by decide +kernel⟩, by decide⟩
theorem ar_X6_open : ar_ok m_X6_open 0 := by unfold ar_ok; decide +kernel
set_option maxRecDepth 100000 in
theorem im_X6_open : Cond.instanceMethod yX6_open ∈ lw_good := lg_in (i := 302) rfl rfl
set_option maxRecDepth 100000 in
theorem se_X6_open : Cond.selects yX6_open.cls yX6_open yX6_open ∈ lw_good := lg_in (i := 303) rfl rfl
set_option maxRecDepth 100000 in
theorem cw_X6_become : cw_ok m_X6_become := ⟨lg_in (i := 862) rfl rfl, lg_in (i := 3) rfl rfl, ⟨by decide +kernel, by decide +kernel⟩, by decide⟩
theorem ar_X6_become : ar_ok m_X6_become 1 := by unfold ar_ok; decide +kernel
set_option maxRecDepth 100000 in
theorem im_X6_become : Cond.instanceMethod yX6_become ∈ lw_good := lg_in (i := 860) rfl rfl
set_option maxRecDepth 100000 in
theorem se_X6_become : Cond.selects yX6_become.cls yX6_become yX6_become ∈ lw_good := lg_in (i := 861) rfl rfl
set_option maxRecDepth 100000 in
theorem cw_X7_init : cw_ok m_X7_init := ⟨lg_in (i := 31) rfl rfl, lg_in (i := 2) rfl rfl, ⟨by decide +kernel, by decide +kernel⟩, by decide⟩
theorem ar_X7_init : ar_ok m_X7_init 0 := by unfold ar_ok; decide +kernel
set_option maxRecDepth 100000 in
theorem im_X7_init : Cond.instanceMethod yX7_init ∈ lw_good := lg_in (i := 30) rfl rfl
set_option maxRecDepth 100000 in
theorem cw_X7_become : cw_ok m_X7_become := ⟨lg_in (i := 858) rfl rfl, lg_in (i := 2) rfl rfl, ⟨by decide +kernel, by decide +kernel⟩, by decide⟩
theorem ar_X7_become : ar_ok m_X7_become 1 := by unfold ar_ok; decide +kernel
set_option maxRecDepth 100000 in
theorem im_X7_become : Cond.instanceMethod yX7_become ∈ lw_good := lg_in (i := 856) rfl rfl
set_option maxRecDepth 100000 in
theorem se_X7_become : Cond.selects yX7_become.cls yX7_become yX7_become ∈ lw_good := lg_in (i := 857) rfl rfl
set_option maxRecDepth 100000 in
theorem cw_X7_isFallen : cw_ok m_X7_isFallen := ⟨lg_in (i := 368) rfl rfl, lg_in (i := 2) rfl rfl, ⟨by decide +kernel, by decide +kernel⟩, by decide⟩
theorem ar_X7_isFallen : ar_ok m_X7_isFallen 2 := by unfold ar_ok; decide +kernel
set_option maxRecDepth 100000 in
theorem im_X7_isFallen : Cond.instanceMethod yX7_isFallen ∈ lw_good := lg_in (i := 366) rfl rfl
set_option maxRecDepth 100000 in
theorem se_X7_isFallen : Cond.selects yX7_isFallen.cls yX7_isFallen yX7_isFallen ∈ lw_good := lg_in (i := 367) rfl rfl
set_option maxRecDepth 100000 in
theorem cw_X7_fallsTold : cw_ok m_X7_fallsTold := ⟨lg_in (i := 875) rfl rfl, lg_in (i := 2) rfl rfl, ⟨by decide +kernel, by decide +kernel⟩, by decide⟩
theorem ar_X7_fallsTold : ar_ok m_X7_fallsTold 0 := by unfold ar_ok; decide +kernel
set_option maxRecDepth 100000 in
theorem im_X7_fallsTold : Cond.instanceMethod yX7_fallsTold ∈ lw_good := lg_in (i := 873) rfl rfl
set_option maxRecDepth 100000 in
theorem se_X7_fallsTold : Cond.selects yX7_fallsTold.cls yX7_fallsTold yX7_fallsTold ∈ lw_good := lg_in (i := 874) rfl rfl
set_option maxRecDepth 100000 in
theorem cw_X7_paperHolds : cw_ok m_X7_paperHolds := ⟨lg_in (i := 380) rfl rfl, lg_in (i := 2) rfl rfl, ⟨by decide +kernel, by decide +kernel⟩, by decide⟩
theorem ar_X7_paperHolds : ar_ok m_X7_paperHolds 3 := by unfold ar_ok; decide +kernel
set_option maxRecDepth 100000 in
theorem im_X7_paperHolds : Cond.instanceMethod yX7_paperHolds ∈ lw_good := lg_in (i := 378) rfl rfl
set_option maxRecDepth 100000 in
theorem se_X7_paperHolds : Cond.selects yX7_paperHolds.cls yX7_paperHolds yX7_paperHolds ∈ lw_good := lg_in (i := 379) rfl rfl
set_option maxRecDepth 100000 in
theorem cw_X7_placesOnList : cw_ok m_X7_placesOnList := ⟨lg_in (i := 396) rfl rfl, lg_in (i := 2) rfl rfl, ⟨by decide +kernel, by decide +kernel⟩, by decide⟩
theorem ar_X7_placesOnList : ar_ok m_X7_placesOnList 1 := by unfold ar_ok; decide +kernel
set_option maxRecDepth 100000 in
theorem im_X7_placesOnList : Cond.instanceMethod yX7_placesOnList ∈ lw_good := lg_in (i := 394) rfl rfl
set_option maxRecDepth 100000 in
theorem se_X7_placesOnList : Cond.selects yX7_placesOnList.cls yX7_placesOnList yX7_placesOnList ∈ lw_good := lg_in (i := 395) rfl rfl
set_option maxRecDepth 100000 in
theorem cw_X7_isOnList : cw_ok m_X7_isOnList := ⟨lg_in (i := 400) rfl rfl, lg_in (i := 2) rfl rfl, ⟨by decide +kernel, by decide +kernel⟩, by decide⟩
theorem ar_X7_isOnList : ar_ok m_X7_isOnList 2 := by unfold ar_ok; decide +kernel
set_option maxRecDepth 100000 in
theorem im_X7_isOnList : Cond.instanceMethod yX7_isOnList ∈ lw_good := lg_in (i := 398) rfl rfl
set_option maxRecDepth 100000 in
theorem se_X7_isOnList : Cond.selects yX7_isOnList.cls yX7_isOnList yX7_isOnList ∈ lw_good := lg_in (i := 399) rfl rfl
set_option maxRecDepth 100000 in
theorem cw_X7_depthBelow : cw_ok m_X7_depthBelow := ⟨lg_in (i := 351) rfl rfl, lg_in (i := 2) rfl rfl, ⟨by decide +kernel, by decide +kernel⟩, by decide⟩
theorem ar_X7_depthBelow : ar_ok m_X7_depthBelow 2 := by unfold ar_ok; decide +kernel
set_option maxRecDepth 100000 in
theorem im_X7_depthBelow : Cond.instanceMethod yX7_depthBelow ∈ lw_good := lg_in (i := 349) rfl rfl
set_option maxRecDepth 100000 in
theorem se_X7_depthBelow : Cond.selects yX7_depthBelow.cls yX7_depthBelow yX7_depthBelow ∈ lw_good := lg_in (i := 350) rfl rfl
set_option maxRecDepth 100000 in
theorem cw_X8_init : cw_ok m_X8_init := ⟨lg_in (i := 23) rfl rfl, lg_in (i := 1) rfl rfl, ⟨by decide +kernel, by decide +kernel⟩, by decide⟩
theorem ar_X8_init : ar_ok m_X8_init 0 := by unfold ar_ok; decide +kernel
set_option maxRecDepth 100000 in
theorem im_X8_init : Cond.instanceMethod yX8_init ∈ lw_good := lg_in (i := 22) rfl rfl
set_option maxRecDepth 100000 in
theorem cw_X8_body : cw_ok m_X8_body := ⟨lg_in (i := 290) rfl rfl, lg_in (i := 1) rfl rfl, ⟨by decide +kernel, by decide +kernel⟩, by decide⟩
theorem ar_X8_body : ar_ok m_X8_body 4 := by unfold ar_ok; decide +kernel
set_option maxRecDepth 100000 in
theorem im_X8_body : Cond.instanceMethod yX8_body ∈ lw_good := lg_in (i := 288) rfl rfl
set_option maxRecDepth 100000 in
theorem se_X8_body : Cond.selects yX8_body.cls yX8_body yX8_body ∈ lw_good := lg_in (i := 289) rfl rfl
set_option maxRecDepth 100000 in
theorem cw_X8_person : cw_ok m_X8_person := ⟨lg_in (i := 312) rfl rfl, lg_in (i := 1) rfl rfl, ⟨by decide +kernel, by decide +kernel⟩, by decide⟩
theorem ar_X8_person : ar_ok m_X8_person 5 := by unfold ar_ok; decide +kernel
set_option maxRecDepth 100000 in
theorem im_X8_person : Cond.instanceMethod yX8_person ∈ lw_good := lg_in (i := 310) rfl rfl
set_option maxRecDepth 100000 in
theorem se_X8_person : Cond.selects yX8_person.cls yX8_person yX8_person ∈ lw_good := lg_in (i := 311) rfl rfl
set_option maxRecDepth 100000 in
theorem cw_X8_step : cw_ok m_X8_step := ⟨lg_in (i := 316) rfl rfl, lg_in (i := 1) rfl rfl, ⟨by decide +kernel, by decide +kernel⟩, by decide⟩
theorem ar_X8_step : ar_ok m_X8_step 4 := by unfold ar_ok; decide +kernel
set_option maxRecDepth 100000 in
theorem im_X8_step : Cond.instanceMethod yX8_step ∈ lw_good := lg_in (i := 314) rfl rfl
set_option maxRecDepth 100000 in
theorem se_X8_step : Cond.selects yX8_step.cls yX8_step yX8_step ∈ lw_good := lg_in (i := 315) rfl rfl
set_option maxRecDepth 100000 in
theorem cw_X8_near : cw_ok m_X8_near := ⟨lg_in (i := 323) rfl rfl, lg_in (i := 1) rfl rfl, ⟨by decide +kernel, by decide +kernel⟩, by decide⟩
theorem ar_X8_near : ar_ok m_X8_near 3 := by unfold ar_ok; decide +kernel
set_option maxRecDepth 100000 in
theorem im_X8_near : Cond.instanceMethod yX8_near ∈ lw_good := lg_in (i := 321) rfl rfl
set_option maxRecDepth 100000 in
theorem se_X8_near : Cond.selects yX8_near.cls yX8_near yX8_near ∈ lw_good := lg_in (i := 322) rfl rfl
set_option maxRecDepth 100000 in
theorem cw_X8_paper : cw_ok m_X8_paper := ⟨lg_in (i := 388) rfl rfl, lg_in (i := 1) rfl rfl, ⟨by decide +kernel, by decide +kernel⟩, by decide⟩
theorem ar_X8_paper : ar_ok m_X8_paper 4 := by unfold ar_ok; decide +kernel
set_option maxRecDepth 100000 in
theorem im_X8_paper : Cond.instanceMethod yX8_paper ∈ lw_good := lg_in (i := 386) rfl rfl
set_option maxRecDepth 100000 in
theorem se_X8_paper : Cond.selects yX8_paper.cls yX8_paper yX8_paper ∈ lw_good := lg_in (i := 387) rfl rfl
set_option maxRecDepth 100000 in
theorem cw_X8_list : cw_ok m_X8_list := ⟨lg_in (i := 392) rfl rfl, lg_in (i := 1) rfl rfl, ⟨by decide +kernel, by decide +kernel⟩, by decide⟩
theorem ar_X8_list : ar_ok m_X8_list 2 := by unfold ar_ok; decide +kernel
set_option maxRecDepth 100000 in
theorem im_X8_list : Cond.instanceMethod yX8_list ∈ lw_good := lg_in (i := 390) rfl rfl
set_option maxRecDepth 100000 in
theorem se_X8_list : Cond.selects yX8_list.cls yX8_list yX8_list ∈ lw_good := lg_in (i := 391) rfl rfl
set_option maxRecDepth 100000 in
theorem cw_X8_falls : cw_ok m_X8_falls := ⟨lg_in (i := 404) rfl rfl, lg_in (i := 1) rfl rfl, ⟨by decide +kernel, by decide +kernel⟩, by decide⟩
theorem ar_X8_falls : ar_ok m_X8_falls 2 := by unfold ar_ok; decide +kernel
set_option maxRecDepth 100000 in
theorem im_X8_falls : Cond.instanceMethod yX8_falls ∈ lw_good := lg_in (i := 402) rfl rfl
set_option maxRecDepth 100000 in
theorem se_X8_falls : Cond.selects yX8_falls.cls yX8_falls yX8_falls ∈ lw_good := lg_in (i := 403) rfl rfl
set_option maxRecDepth 100000 in
theorem cw_X8_feed : cw_ok m_X8_feed := ⟨lg_in (i := 409) rfl rfl, lg_in (i := 1) rfl rfl, ⟨by decide +kernel, by decide +kernel⟩, by decide⟩
theorem ar_X8_feed : ar_ok m_X8_feed 5 := by unfold ar_ok; decide +kernel
set_option maxRecDepth 100000 in
theorem im_X8_feed : Cond.instanceMethod yX8_feed ∈ lw_good := lg_in (i := 407) rfl rfl
set_option maxRecDepth 100000 in
theorem se_X8_feed : Cond.selects yX8_feed.cls yX8_feed yX8_feed ∈ lw_good := lg_in (i := 408) rfl rfl
set_option maxRecDepth 100000 in
theorem cw_X8_end : cw_ok m_X8_end := ⟨lg_in (i := 417) rfl rfl, lg_in (i := 1) rfl rfl, ⟨by decide +kernel, by decide +kernel⟩, by decide⟩
theorem ar_X8_end : ar_ok m_X8_end 1 := by unfold ar_ok; decide +kernel
set_option maxRecDepth 100000 in
theorem im_X8_end : Cond.instanceMethod yX8_end ∈ lw_good := lg_in (i := 415) rfl rfl
set_option maxRecDepth 100000 in
theorem se_X8_end : Cond.selects yX8_end.cls yX8_end yX8_end ∈ lw_good := lg_in (i := 416) rfl rfl
set_option maxRecDepth 100000 in
theorem cw_X8_law : cw_ok m_X8_law := ⟨lg_in (i := 421) rfl rfl, lg_in (i := 1) rfl rfl, ⟨by decide +kernel, by decide +kernel⟩, by decide⟩
theorem ar_X8_law : ar_ok m_X8_law 0 := by unfold ar_ok; decide +kernel
set_option maxRecDepth 100000 in
theorem im_X8_law : Cond.instanceMethod yX8_law ∈ lw_good := lg_in (i := 419) rfl rfl
set_option maxRecDepth 100000 in
theorem se_X8_law : Cond.selects yX8_law.cls yX8_law yX8_law ∈ lw_good := lg_in (i := 420) rfl rfl
set_option maxRecDepth 100000 in
theorem cw_X8_rules : cw_ok m_X8_rules := ⟨lg_in (i := 594) rfl rfl, lg_in (i := 1) rfl rfl, ⟨by decide +kernel, by decide +kernel⟩, by decide⟩
theorem ar_X8_rules : ar_ok m_X8_rules 2 := by unfold ar_ok; decide +kernel
set_option maxRecDepth 100000 in
theorem im_X8_rules : Cond.instanceMethod yX8_rules ∈ lw_good := lg_in (i := 592) rfl rfl
set_option maxRecDepth 100000 in
theorem se_X8_rules : Cond.selects yX8_rules.cls yX8_rules yX8_rules ∈ lw_good := lg_in (i := 593) rfl rfl
set_option maxRecDepth 100000 in
theorem cw_X8_may : cw_ok m_X8_may := ⟨lg_in (i := 598) rfl rfl, lg_in (i := 1) rfl rfl, ⟨by decide +kernel, by decide +kernel⟩, by decide⟩
theorem ar_X8_may : ar_ok m_X8_may 2 := by unfold ar_ok; decide +kernel
set_option maxRecDepth 100000 in
theorem im_X8_may : Cond.instanceMethod yX8_may ∈ lw_good := lg_in (i := 596) rfl rfl
set_option maxRecDepth 100000 in
theorem se_X8_may : Cond.selects yX8_may.cls yX8_may yX8_may ∈ lw_good := lg_in (i := 597) rfl rfl
set_option maxRecDepth 100000 in
theorem cw_X8_commands : cw_ok m_X8_commands := ⟨lg_in (i := 664) rfl rfl, lg_in (i := 1) rfl rfl, ⟨by decide +kernel, by decide +kernel⟩, by decide⟩
theorem ar_X8_commands : ar_ok m_X8_commands 2 := by unfold ar_ok; decide +kernel
set_option maxRecDepth 100000 in
theorem im_X8_commands : Cond.instanceMethod yX8_commands ∈ lw_good := lg_in (i := 662) rfl rfl
set_option maxRecDepth 100000 in
theorem se_X8_commands : Cond.selects yX8_commands.cls yX8_commands yX8_commands ∈ lw_good := lg_in (i := 663) rfl rfl
set_option maxRecDepth 100000 in
theorem cw_X8_ahead : cw_ok m_X8_ahead := ⟨lg_in (i := 668) rfl rfl, lg_in (i := 1) rfl rfl, ⟨by decide +kernel, by decide +kernel⟩, by decide⟩
theorem ar_X8_ahead : ar_ok m_X8_ahead 5 := by unfold ar_ok; decide +kernel
set_option maxRecDepth 100000 in
theorem im_X8_ahead : Cond.instanceMethod yX8_ahead ∈ lw_good := lg_in (i := 666) rfl rfl
set_option maxRecDepth 100000 in
theorem se_X8_ahead : Cond.selects yX8_ahead.cls yX8_ahead yX8_ahead ∈ lw_good := lg_in (i := 667) rfl rfl
set_option maxRecDepth 100000 in
theorem cw_X8_message : cw_ok m_X8_message := ⟨lg_in (i := 680) rfl rfl, lg_in (i := 1) rfl rfl, ⟨by decide +kernel, by decide +kernel⟩, by decide⟩
theorem ar_X8_message : ar_ok m_X8_message 4 := by unfold ar_ok; decide +kernel
set_option maxRecDepth 100000 in
theorem im_X8_message : Cond.instanceMethod yX8_message ∈ lw_good := lg_in (i := 678) rfl rfl
set_option maxRecDepth 100000 in
theorem se_X8_message : Cond.selects yX8_message.cls yX8_message yX8_message ∈ lw_good := lg_in (i := 679) rfl rfl
set_option maxRecDepth 100000 in
theorem cw_X8_sight : cw_ok m_X8_sight := ⟨lg_in (i := 684) rfl rfl, lg_in (i := 1) rfl rfl, ⟨by decide +kernel, by decide +kernel⟩, by decide⟩
theorem ar_X8_sight : ar_ok m_X8_sight 1 := by unfold ar_ok; decide +kernel
set_option maxRecDepth 100000 in
theorem im_X8_sight : Cond.instanceMethod yX8_sight ∈ lw_good := lg_in (i := 682) rfl rfl
set_option maxRecDepth 100000 in
theorem se_X8_sight : Cond.selects yX8_sight.cls yX8_sight yX8_sight ∈ lw_good := lg_in (i := 683) rfl rfl
set_option maxRecDepth 100000 in
theorem cw_X8_knows : cw_ok m_X8_knows := ⟨lg_in (i := 688) rfl rfl, lg_in (i := 1) rfl rfl, ⟨by decide +kernel, by decide +kernel⟩, by decide⟩
theorem ar_X8_knows : ar_ok m_X8_knows 4 := by unfold ar_ok; decide +kernel
set_option maxRecDepth 100000 in
theorem im_X8_knows : Cond.instanceMethod yX8_knows ∈ lw_good := lg_in (i := 686) rfl rfl
set_option maxRecDepth 100000 in
theorem se_X8_knows : Cond.selects yX8_knows.cls yX8_knows yX8_knows ∈ lw_good := lg_in (i := 687) rfl rfl
set_option maxRecDepth 100000 in
theorem cw_X8_thinks : cw_ok m_X8_thinks := ⟨lg_in (i := 725) rfl rfl, lg_in (i := 1) rfl rfl, ⟨by decide +kernel, by decide +kernel⟩, by decide⟩
theorem ar_X8_thinks : ar_ok m_X8_thinks 3 := by unfold ar_ok; decide +kernel
set_option maxRecDepth 100000 in
theorem im_X8_thinks : Cond.instanceMethod yX8_thinks ∈ lw_good := lg_in (i := 723) rfl rfl
set_option maxRecDepth 100000 in
theorem se_X8_thinks : Cond.selects yX8_thinks.cls yX8_thinks yX8_thinks ∈ lw_good := lg_in (i := 724) rfl rfl
set_option maxRecDepth 100000 in
theorem cw_X8_wrong : cw_ok m_X8_wrong := ⟨lg_in (i := 750) rfl rfl, lg_in (i := 1) rfl rfl, ⟨by decide +kernel, by decide +kernel⟩, by decide⟩
theorem ar_X8_wrong : ar_ok m_X8_wrong 2 := by unfold ar_ok; decide +kernel
set_option maxRecDepth 100000 in
theorem im_X8_wrong : Cond.instanceMethod yX8_wrong ∈ lw_good := lg_in (i := 748) rfl rfl
set_option maxRecDepth 100000 in
theorem se_X8_wrong : Cond.selects yX8_wrong.cls yX8_wrong yX8_wrong ∈ lw_good := lg_in (i := 749) rfl rfl
set_option maxRecDepth 100000 in
theorem cw_X8_order : cw_ok m_X8_order := ⟨lg_in (i := 759) rfl rfl, lg_in (i := 1) rfl rfl, ⟨by decide +kernel, by decide +kernel⟩, by decide⟩
theorem ar_X8_order : ar_ok m_X8_order 6 := by unfold ar_ok; decide +kernel
set_option maxRecDepth 100000 in
theorem im_X8_order : Cond.instanceMethod yX8_order ∈ lw_good := lg_in (i := 757) rfl rfl
set_option maxRecDepth 100000 in
theorem se_X8_order : Cond.selects yX8_order.cls yX8_order yX8_order ∈ lw_good := lg_in (i := 758) rfl rfl
set_option maxRecDepth 100000 in
theorem cw_X8_seat : cw_ok m_X8_seat := ⟨lg_in (i := 763) rfl rfl, lg_in (i := 1) rfl rfl, ⟨by decide +kernel, by decide +kernel⟩, by decide⟩
theorem ar_X8_seat : ar_ok m_X8_seat 1 := by unfold ar_ok; decide +kernel
set_option maxRecDepth 100000 in
theorem im_X8_seat : Cond.instanceMethod yX8_seat ∈ lw_good := lg_in (i := 761) rfl rfl
set_option maxRecDepth 100000 in
theorem se_X8_seat : Cond.selects yX8_seat.cls yX8_seat yX8_seat ∈ lw_good := lg_in (i := 762) rfl rfl
set_option maxRecDepth 100000 in
theorem cw_X8_force : cw_ok m_X8_force := ⟨lg_in (i := 771) rfl rfl, lg_in (i := 1) rfl rfl, ⟨by decide +kernel, by decide +kernel⟩, by decide⟩
theorem ar_X8_force : ar_ok m_X8_force 2 := by unfold ar_ok; decide +kernel
set_option maxRecDepth 100000 in
theorem im_X8_force : Cond.instanceMethod yX8_force ∈ lw_good := lg_in (i := 769) rfl rfl
set_option maxRecDepth 100000 in
theorem se_X8_force : Cond.selects yX8_force.cls yX8_force yX8_force ∈ lw_good := lg_in (i := 770) rfl rfl
set_option maxRecDepth 100000 in
theorem cw_X8_bound : cw_ok m_X8_bound := ⟨lg_in (i := 781) rfl rfl, lg_in (i := 1) rfl rfl, ⟨by decide +kernel, by decide +kernel⟩, by decide⟩
theorem ar_X8_bound : ar_ok m_X8_bound 2 := by unfold ar_ok; decide +kernel
set_option maxRecDepth 100000 in
theorem im_X8_bound : Cond.instanceMethod yX8_bound ∈ lw_good := lg_in (i := 779) rfl rfl
set_option maxRecDepth 100000 in
theorem se_X8_bound : Cond.selects yX8_bound.cls yX8_bound yX8_bound ∈ lw_good := lg_in (i := 780) rfl rfl
set_option maxRecDepth 100000 in
theorem cw_X8_cross : cw_ok m_X8_cross := ⟨lg_in (i := 790) rfl rfl, lg_in (i := 1) rfl rfl, ⟨by decide +kernel, by decide +kernel⟩, by decide⟩
theorem ar_X8_cross : ar_ok m_X8_cross 2 := by unfold ar_ok; decide +kernel
set_option maxRecDepth 100000 in
theorem im_X8_cross : Cond.instanceMethod yX8_cross ∈ lw_good := lg_in (i := 788) rfl rfl
set_option maxRecDepth 100000 in
theorem se_X8_cross : Cond.selects yX8_cross.cls yX8_cross yX8_cross ∈ lw_good := lg_in (i := 789) rfl rfl
set_option maxRecDepth 100000 in
theorem cw_X8_answers : cw_ok m_X8_answers := ⟨lg_in (i := 795) rfl rfl, lg_in (i := 1) rfl rfl, ⟨by decide +kernel, by decide +kernel⟩, by decide⟩
theorem ar_X8_answers : ar_ok m_X8_answers 3 := by unfold ar_ok; decide +kernel
set_option maxRecDepth 100000 in
theorem im_X8_answers : Cond.instanceMethod yX8_answers ∈ lw_good := lg_in (i := 793) rfl rfl
set_option maxRecDepth 100000 in
theorem se_X8_answers : Cond.selects yX8_answers.cls yX8_answers yX8_answers ∈ lw_good := lg_in (i := 794) rfl rfl
set_option maxRecDepth 100000 in
theorem cw_X8_gaps : cw_ok m_X8_gaps := ⟨lg_in (i := 799) rfl rfl, lg_in (i := 1) rfl rfl, ⟨by decide +kernel, by decide +kernel⟩, by decide⟩
theorem ar_X8_gaps : ar_ok m_X8_gaps 4 := by unfold ar_ok; decide +kernel
set_option maxRecDepth 100000 in
theorem im_X8_gaps : Cond.instanceMethod yX8_gaps ∈ lw_good := lg_in (i := 797) rfl rfl
set_option maxRecDepth 100000 in
theorem se_X8_gaps : Cond.selects yX8_gaps.cls yX8_gaps yX8_gaps ∈ lw_good := lg_in (i := 798) rfl rfl
set_option maxRecDepth 100000 in
theorem cw_X8_doubt : cw_ok m_X8_doubt := ⟨lg_in (i := 807) rfl rfl, lg_in (i := 1) rfl rfl, ⟨by decide +kernel, by decide +kernel⟩, by decide⟩
theorem ar_X8_doubt : ar_ok m_X8_doubt 3 := by unfold ar_ok; decide +kernel
set_option maxRecDepth 100000 in
theorem im_X8_doubt : Cond.instanceMethod yX8_doubt ∈ lw_good := lg_in (i := 805) rfl rfl
set_option maxRecDepth 100000 in
theorem se_X8_doubt : Cond.selects yX8_doubt.cls yX8_doubt yX8_doubt ∈ lw_good := lg_in (i := 806) rfl rfl
set_option maxRecDepth 100000 in
theorem cw_X8_brief : cw_ok m_X8_brief := ⟨lg_in (i := 825) rfl rfl, lg_in (i := 1) rfl rfl, ⟨by decide +kernel, by decide +kernel⟩, by decide⟩
theorem ar_X8_brief : ar_ok m_X8_brief 4 := by unfold ar_ok; decide +kernel
set_option maxRecDepth 100000 in
theorem im_X8_brief : Cond.instanceMethod yX8_brief ∈ lw_good := lg_in (i := 823) rfl rfl
set_option maxRecDepth 100000 in
theorem se_X8_brief : Cond.selects yX8_brief.cls yX8_brief yX8_brief ∈ lw_good := lg_in (i := 824) rfl rfl
set_option maxRecDepth 100000 in
theorem cw_X8_fights : cw_ok m_X8_fights := ⟨lg_in (i := 829) rfl rfl, lg_in (i := 1) rfl rfl, ⟨by decide +kernel, by decide +kernel⟩, by decide⟩
theorem ar_X8_fights : ar_ok m_X8_fights 6 := by unfold ar_ok; decide +kernel
set_option maxRecDepth 100000 in
theorem im_X8_fights : Cond.instanceMethod yX8_fights ∈ lw_good := lg_in (i := 827) rfl rfl
set_option maxRecDepth 100000 in
theorem se_X8_fights : Cond.selects yX8_fights.cls yX8_fights yX8_fights ∈ lw_good := lg_in (i := 828) rfl rfl
set_option maxRecDepth 100000 in
theorem cw_X8_allied : cw_ok m_X8_allied := ⟨lg_in (i := 838) rfl rfl, lg_in (i := 1) rfl rfl, ⟨by decide +kernel, by decide +kernel⟩, by decide⟩
theorem ar_X8_allied : ar_ok m_X8_allied 4 := by unfold ar_ok; decide +kernel
set_option maxRecDepth 100000 in
theorem im_X8_allied : Cond.instanceMethod yX8_allied ∈ lw_good := lg_in (i := 836) rfl rfl
set_option maxRecDepth 100000 in
theorem se_X8_allied : Cond.selects yX8_allied.cls yX8_allied yX8_allied ∈ lw_good := lg_in (i := 837) rfl rfl
set_option maxRecDepth 100000 in
theorem cw_X8_mended : cw_ok m_X8_mended := ⟨lg_in (i := 842) rfl rfl, lg_in (i := 1) rfl rfl, ⟨by decide +kernel, by decide +kernel⟩, by decide⟩
theorem ar_X8_mended : ar_ok m_X8_mended 3 := by unfold ar_ok; decide +kernel
set_option maxRecDepth 100000 in
theorem im_X8_mended : Cond.instanceMethod yX8_mended ∈ lw_good := lg_in (i := 840) rfl rfl
set_option maxRecDepth 100000 in
theorem se_X8_mended : Cond.selects yX8_mended.cls yX8_mended yX8_mended ∈ lw_good := lg_in (i := 841) rfl rfl
set_option maxRecDepth 100000 in
theorem cw_X8_judge : cw_ok m_X8_judge := ⟨lg_in (i := 846) rfl rfl, lg_in (i := 1) rfl rfl, ⟨by decide +kernel, by decide +kernel⟩, by decide⟩
theorem ar_X8_judge : ar_ok m_X8_judge 4 := by unfold ar_ok; decide +kernel
set_option maxRecDepth 100000 in
theorem im_X8_judge : Cond.instanceMethod yX8_judge ∈ lw_good := lg_in (i := 844) rfl rfl
set_option maxRecDepth 100000 in
theorem se_X8_judge : Cond.selects yX8_judge.cls yX8_judge yX8_judge ∈ lw_good := lg_in (i := 845) rfl rfl
set_option maxRecDepth 100000 in
theorem cw_X8_hangs : cw_ok m_X8_hangs := ⟨lg_in (i := 850) rfl rfl, lg_in (i := 1) rfl rfl, ⟨by decide +kernel, by decide +kernel⟩, by decide⟩
theorem ar_X8_hangs : ar_ok m_X8_hangs 3 := by unfold ar_ok; decide +kernel
set_option maxRecDepth 100000 in
theorem im_X8_hangs : Cond.instanceMethod yX8_hangs ∈ lw_good := lg_in (i := 848) rfl rfl
set_option maxRecDepth 100000 in
theorem se_X8_hangs : Cond.selects yX8_hangs.cls yX8_hangs yX8_hangs ∈ lw_good := lg_in (i := 849) rfl rfl
set_option maxRecDepth 100000 in
theorem cw_X8_mark : cw_ok m_X8_mark := ⟨lg_in (i := 854) rfl rfl, lg_in (i := 1) rfl rfl, ⟨by decide +kernel, by decide +kernel⟩, by decide⟩
theorem ar_X8_mark : ar_ok m_X8_mark 1 := by unfold ar_ok; decide +kernel
set_option maxRecDepth 100000 in
theorem im_X8_mark : Cond.instanceMethod yX8_mark ∈ lw_good := lg_in (i := 852) rfl rfl
set_option maxRecDepth 100000 in
theorem se_X8_mark : Cond.selects yX8_mark.cls yX8_mark yX8_mark ∈ lw_good := lg_in (i := 853) rfl rfl
set_option maxRecDepth 100000 in
theorem cw_X8_back : cw_ok m_X8_back := ⟨lg_in (i := 867) rfl rfl, lg_in (i := 1) rfl rfl, ⟨by decide +kernel, by decide +kernel⟩, by decide⟩
theorem ar_X8_back : ar_ok m_X8_back 1 := by unfold ar_ok; decide +kernel
set_option maxRecDepth 100000 in
theorem im_X8_back : Cond.instanceMethod yX8_back ∈ lw_good := lg_in (i := 865) rfl rfl
set_option maxRecDepth 100000 in
theorem se_X8_back : Cond.selects yX8_back.cls yX8_back yX8_back ∈ lw_good := lg_in (i := 866) rfl rfl
set_option maxRecDepth 100000 in
theorem cw_X8_count : cw_ok m_X8_count := ⟨lg_in (i := 871) rfl rfl, lg_in (i := 1) rfl rfl, ⟨by decide +kernel, by decide +kernel⟩, by decide⟩
theorem ar_X8_count : ar_ok m_X8_count 1 := by unfold ar_ok; decide +kernel
set_option maxRecDepth 100000 in
theorem im_X8_count : Cond.instanceMethod yX8_count ∈ lw_good := lg_in (i := 869) rfl rfl
set_option maxRecDepth 100000 in
theorem se_X8_count : Cond.selects yX8_count.cls yX8_count yX8_count ∈ lw_good := lg_in (i := 870) rfl rfl
set_option maxRecDepth 100000 in
theorem cw_X8_isIn : cw_ok m_X8_isIn := ⟨lg_in (i := 297) rfl rfl, lg_in (i := 1) rfl rfl, ⟨by decide +kernel, by decide +kernel⟩, by decide⟩
theorem ar_X8_isIn : ar_ok m_X8_isIn 2 := by unfold ar_ok; decide +kernel
set_option maxRecDepth 100000 in
theorem st_X8_isIn : Cond.static yX8_isIn ∈ lw_good := lg_in (i := 296) rfl rfl
set_option maxRecDepth 100000 in
theorem cw_X8_isMinute : cw_ok m_X8_isMinute := ⟨lg_in (i := 319) rfl rfl, lg_in (i := 1) rfl rfl, ⟨by decide +kernel, by decide +kernel⟩, by decide⟩
theorem ar_X8_isMinute : ar_ok m_X8_isMinute 1 := by unfold ar_ok; decide +kernel
set_option maxRecDepth 100000 in
theorem st_X8_isMinute : Cond.static yX8_isMinute ∈ lw_good := lg_in (i := 318) rfl rfl
set_option maxRecDepth 100000 in
theorem cw_X8_isSpot : cw_ok m_X8_isSpot := ⟨lg_in (i := 300) rfl rfl, lg_in (i := 1) rfl rfl, ⟨by decide +kernel, by decide +kernel⟩, by decide⟩
theorem ar_X8_isSpot : ar_ok m_X8_isSpot 2 := by unfold ar_ok; decide +kernel
set_option maxRecDepth 100000 in
theorem st_X8_isSpot : Cond.static yX8_isSpot ∈ lw_good := lg_in (i := 299) rfl rfl
set_option maxRecDepth 100000 in
theorem cw_X8_hasBit : cw_ok m_X8_hasBit := ⟨lg_in (i := 613) rfl rfl, lg_in (i := 1) rfl rfl, ⟨by decide +kernel, by decide +kernel⟩, by decide⟩
theorem ar_X8_hasBit : ar_ok m_X8_hasBit 2 := by unfold ar_ok; decide +kernel
set_option maxRecDepth 100000 in
theorem st_X8_hasBit : Cond.static yX8_hasBit ∈ lw_good := lg_in (i := 612) rfl rfl
set_option maxRecDepth 100000 in
theorem cw_X8_isSpan : cw_ok m_X8_isSpan := ⟨lg_in (i := 802) rfl rfl, lg_in (i := 1) rfl rfl, ⟨by decide +kernel, by decide +kernel⟩, by decide⟩
theorem ar_X8_isSpan : ar_ok m_X8_isSpan 2 := by unfold ar_ok; decide +kernel
set_option maxRecDepth 100000 in
theorem st_X8_isSpan : Cond.static yX8_isSpan ∈ lw_good := lg_in (i := 801) rfl rfl
set_option maxRecDepth 100000 in
theorem cw_X8_isBodyInMinute : cw_ok m_X8_isBodyInMinute := ⟨lg_in (i := 327) rfl rfl, lg_in (i := 1) rfl rfl, ⟨by decide +kernel, by decide +kernel⟩, by decide⟩
theorem ar_X8_isBodyInMinute : ar_ok m_X8_isBodyInMinute 2 := by unfold ar_ok; decide +kernel
set_option maxRecDepth 100000 in
theorem im_X8_isBodyInMinute : Cond.instanceMethod yX8_isBodyInMinute ∈ lw_good := lg_in (i := 326) rfl rfl
set_option maxRecDepth 100000 in
theorem se_X8_isBodyInMinute : Cond.selects yX8_isBodyInMinute.cls yX8_isBodyInMinute yX8_isBodyInMinute ∈ lw_good := lg_sel (i := 0) rfl rfl
set_option maxRecDepth 100000 in
theorem cw_X8_putOnTape : cw_ok m_X8_putOnTape := ⟨lg_in (i := 413) rfl rfl, lg_in (i := 1) rfl rfl, ⟨by decide +kernel, by decide +kernel⟩, by decide⟩
theorem ar_X8_putOnTape : ar_ok m_X8_putOnTape 1 := by unfold ar_ok; decide +kernel
set_option maxRecDepth 100000 in
theorem im_X8_putOnTape : Cond.instanceMethod yX8_putOnTape ∈ lw_good := lg_in (i := 412) rfl rfl
set_option maxRecDepth 100000 in
theorem se_X8_putOnTape : Cond.selects yX8_putOnTape.cls yX8_putOnTape yX8_putOnTape ∈ lw_good := lg_sel (i := 4) rfl rfl
set_option maxRecDepth 100000 in
theorem cw_X8_lawOf : cw_ok m_X8_lawOf := ⟨lg_in (i := 606) rfl rfl, lg_in (i := 1) rfl rfl, ⟨by decide +kernel, by decide +kernel⟩, by decide⟩
theorem ar_X8_lawOf : ar_ok m_X8_lawOf 1 := by unfold ar_ok; decide +kernel
set_option maxRecDepth 100000 in
theorem im_X8_lawOf : Cond.instanceMethod yX8_lawOf ∈ lw_good := lg_in (i := 605) rfl rfl
set_option maxRecDepth 100000 in
theorem se_X8_lawOf : Cond.selects yX8_lawOf.cls yX8_lawOf yX8_lawOf ∈ lw_good := lg_sel (i := 19) rfl rfl
set_option maxRecDepth 100000 in
theorem cw_X8_survey : cw_ok m_X8_survey := ⟨lg_in (i := 602) rfl rfl, lg_in (i := 1) rfl rfl, ⟨by decide +kernel, by decide +kernel⟩, by decide⟩
theorem ar_X8_survey : ar_ok m_X8_survey 2 := by unfold ar_ok; decide +kernel
set_option maxRecDepth 100000 in
theorem im_X8_survey : Cond.instanceMethod yX8_survey ∈ lw_good := lg_in (i := 601) rfl rfl
set_option maxRecDepth 100000 in
theorem se_X8_survey : Cond.selects yX8_survey.cls yX8_survey yX8_survey ∈ lw_good := lg_sel (i := 18) rfl rfl
set_option maxRecDepth 100000 in
theorem cw_X8_surveyMinds : cw_ok m_X8_surveyMinds := ⟨lg_in (i := 729) rfl rfl, lg_in (i := 1) rfl rfl, ⟨by decide +kernel, by decide +kernel⟩, by decide⟩
theorem ar_X8_surveyMinds : ar_ok m_X8_surveyMinds 3 := by unfold ar_ok; decide +kernel
set_option maxRecDepth 100000 in
theorem im_X8_surveyMinds : Cond.instanceMethod yX8_surveyMinds ∈ lw_good := lg_in (i := 728) rfl rfl
set_option maxRecDepth 100000 in
theorem se_X8_surveyMinds : Cond.selects yX8_surveyMinds.cls yX8_surveyMinds yX8_surveyMinds ∈ lw_good := lg_sel (i := 23) rfl rfl
set_option maxRecDepth 100000 in
theorem cw_X8_wrongAfter : cw_ok m_X8_wrongAfter := ⟨lg_in (i := 754) rfl rfl, lg_in (i := 1) rfl rfl, ⟨by decide +kernel, by decide +kernel⟩, by decide⟩
theorem ar_X8_wrongAfter : ar_ok m_X8_wrongAfter 1 := by unfold ar_ok; decide +kernel
set_option maxRecDepth 100000 in
theorem im_X8_wrongAfter : Cond.instanceMethod yX8_wrongAfter ∈ lw_good := lg_in (i := 753) rfl rfl
set_option maxRecDepth 100000 in
theorem se_X8_wrongAfter : Cond.selects yX8_wrongAfter.cls yX8_wrongAfter yX8_wrongAfter ∈ lw_good := lg_sel (i := 24) rfl rfl
set_option maxRecDepth 100000 in
theorem cw_X8_wrongAfterFallOf : cw_ok m_X8_wrongAfterFallOf := ⟨lg_in (i := 815) rfl rfl, lg_in (i := 1) rfl rfl, ⟨by decide +kernel, by decide +kernel⟩, by decide⟩
theorem ar_X8_wrongAfterFallOf : ar_ok m_X8_wrongAfterFallOf 1 := by unfold ar_ok; decide +kernel
set_option maxRecDepth 100000 in
theorem im_X8_wrongAfterFallOf : Cond.instanceMethod yX8_wrongAfterFallOf ∈ lw_good := lg_in (i := 814) rfl rfl
set_option maxRecDepth 100000 in
theorem se_X8_wrongAfterFallOf : Cond.selects yX8_wrongAfterFallOf.cls yX8_wrongAfterFallOf yX8_wrongAfterFallOf ∈ lw_good := lg_sel (i := 29) rfl rfl
set_option maxRecDepth 100000 in
theorem cw_X8_worstFall : cw_ok m_X8_worstFall := ⟨lg_in (i := 811) rfl rfl, lg_in (i := 1) rfl rfl, ⟨by decide +kernel, by decide +kernel⟩, by decide⟩
theorem ar_X8_worstFall : ar_ok m_X8_worstFall 0 := by unfold ar_ok; decide +kernel
set_option maxRecDepth 100000 in
theorem im_X8_worstFall : Cond.instanceMethod yX8_worstFall ∈ lw_good := lg_in (i := 810) rfl rfl
set_option maxRecDepth 100000 in
theorem se_X8_worstFall : Cond.selects yX8_worstFall.cls yX8_worstFall yX8_worstFall ∈ lw_good := lg_sel (i := 28) rfl rfl
set_option maxRecDepth 100000 in
theorem cw_X8_seatOf : cw_ok m_X8_seatOf := ⟨lg_in (i := 767) rfl rfl, lg_in (i := 1) rfl rfl, ⟨by decide +kernel, by decide +kernel⟩, by decide⟩
theorem ar_X8_seatOf : ar_ok m_X8_seatOf 1 := by unfold ar_ok; decide +kernel
set_option maxRecDepth 100000 in
theorem im_X8_seatOf : Cond.instanceMethod yX8_seatOf ∈ lw_good := lg_in (i := 766) rfl rfl
set_option maxRecDepth 100000 in
theorem se_X8_seatOf : Cond.selects yX8_seatOf.cls yX8_seatOf yX8_seatOf ∈ lw_good := lg_sel (i := 25) rfl rfl
set_option maxRecDepth 100000 in
theorem cw_X8_isRunning : cw_ok m_X8_isRunning := ⟨lg_in (i := 775) rfl rfl, lg_in (i := 1) rfl rfl, ⟨by decide +kernel, by decide +kernel⟩, by decide⟩
theorem ar_X8_isRunning : ar_ok m_X8_isRunning 2 := by unfold ar_ok; decide +kernel
set_option maxRecDepth 100000 in
theorem im_X8_isRunning : Cond.instanceMethod yX8_isRunning ∈ lw_good := lg_in (i := 774) rfl rfl
set_option maxRecDepth 100000 in
theorem se_X8_isRunning : Cond.selects yX8_isRunning.cls yX8_isRunning yX8_isRunning ∈ lw_good := lg_sel (i := 26) rfl rfl
set_option maxRecDepth 100000 in
theorem cw_X8_bindingOrder : cw_ok m_X8_bindingOrder := ⟨lg_in (i := 785) rfl rfl, lg_in (i := 1) rfl rfl, ⟨by decide +kernel, by decide +kernel⟩, by decide⟩
theorem ar_X8_bindingOrder : ar_ok m_X8_bindingOrder 2 := by unfold ar_ok; decide +kernel
set_option maxRecDepth 100000 in
theorem im_X8_bindingOrder : Cond.instanceMethod yX8_bindingOrder ∈ lw_good := lg_in (i := 784) rfl rfl
set_option maxRecDepth 100000 in
theorem se_X8_bindingOrder : Cond.selects yX8_bindingOrder.cls yX8_bindingOrder yX8_bindingOrder ∈ lw_good := lg_sel (i := 27) rfl rfl
set_option maxRecDepth 100000 in
theorem cw_X9_init : cw_ok m_X9_init := ⟨lg_in (i := 880) rfl rfl, lg_in (i := 10) rfl rfl, ⟨by decide +kernel, by decide +kernel⟩, by decide⟩
theorem ar_X9_init : ar_ok m_X9_init 0 := by unfold ar_ok; decide +kernel
set_option maxRecDepth 100000 in
theorem im_X9_init : Cond.instanceMethod yX9_init ∈ lw_good := lg_in (i := 879) rfl rfl
set_option maxRecDepth 100000 in
theorem cw_X9_in : cw_ok m_X9_in := ⟨lg_in (i := 1107) rfl rfl, lg_in (i := 10) rfl rfl, ⟨by decide +kernel, by decide +kernel⟩, by decide⟩
theorem ar_X9_in : ar_ok m_X9_in 3 := by unfold ar_ok; decide +kernel
set_option maxRecDepth 100000 in
theorem st_X9_in : Cond.static yX9_in ∈ lw_good := lg_in (i := 1106) rfl rfl
set_option maxRecDepth 100000 in
theorem cw_X9_isMinute : cw_ok m_X9_isMinute := ⟨lg_in (i := 1126) rfl rfl, lg_in (i := 10) rfl rfl, ⟨by decide +kernel, by decide +kernel⟩, by decide⟩
theorem ar_X9_isMinute : ar_ok m_X9_isMinute 1 := by unfold ar_ok; decide +kernel
set_option maxRecDepth 100000 in
theorem st_X9_isMinute : Cond.static yX9_isMinute ∈ lw_good := lg_in (i := 1125) rfl rfl
set_option maxRecDepth 100000 in
theorem cw_X9_isBody : cw_ok m_X9_isBody := ⟨lg_in (i := 1104) rfl rfl, lg_in (i := 10) rfl rfl, ⟨by decide +kernel, by decide +kernel⟩, by decide⟩
theorem ar_X9_isBody : ar_ok m_X9_isBody 1 := by unfold ar_ok; decide +kernel
set_option maxRecDepth 100000 in
theorem im_X9_isBody : Cond.instanceMethod yX9_isBody ∈ lw_good := lg_in (i := 1103) rfl rfl
set_option maxRecDepth 100000 in
theorem se_X9_isBody : Cond.selects yX9_isBody.cls yX9_isBody yX9_isBody ∈ lw_good := lg_sel (i := 30) rfl rfl
set_option maxRecDepth 100000 in
theorem cw_X9_isPerson : cw_ok m_X9_isPerson := ⟨lg_in (i := 1123) rfl rfl, lg_in (i := 10) rfl rfl, ⟨by decide +kernel, by decide +kernel⟩, by decide⟩
theorem ar_X9_isPerson : ar_ok m_X9_isPerson 1 := by unfold ar_ok; decide +kernel
set_option maxRecDepth 100000 in
theorem im_X9_isPerson : Cond.instanceMethod yX9_isPerson ∈ lw_good := lg_in (i := 1122) rfl rfl
set_option maxRecDepth 100000 in
theorem se_X9_isPerson : Cond.selects yX9_isPerson.cls yX9_isPerson yX9_isPerson ∈ lw_good := lg_sel (i := 31) rfl rfl
set_option maxRecDepth 100000 in
theorem cw_X9_body : cw_ok m_X9_body := ⟨lg_in (i := 1100) rfl rfl, lg_in (i := 10) rfl rfl, ⟨by decide +kernel, by decide +kernel⟩, by decide⟩
theorem ar_X9_body : ar_ok m_X9_body 4 := by unfold ar_ok; decide +kernel
set_option maxRecDepth 100000 in
theorem im_X9_body : Cond.instanceMethod yX9_body ∈ lw_good := lg_in (i := 1098) rfl rfl
set_option maxRecDepth 100000 in
theorem se_X9_body : Cond.selects yX9_body.cls yX9_body yX9_body ∈ lw_good := lg_in (i := 1099) rfl rfl
set_option maxRecDepth 100000 in
theorem cw_X9_person : cw_ok m_X9_person := ⟨lg_in (i := 1113) rfl rfl, lg_in (i := 10) rfl rfl, ⟨by decide +kernel, by decide +kernel⟩, by decide⟩
theorem ar_X9_person : ar_ok m_X9_person 5 := by unfold ar_ok; decide +kernel
set_option maxRecDepth 100000 in
theorem im_X9_person : Cond.instanceMethod yX9_person ∈ lw_good := lg_in (i := 1111) rfl rfl
set_option maxRecDepth 100000 in
theorem se_X9_person : Cond.selects yX9_person.cls yX9_person yX9_person ∈ lw_good := lg_in (i := 1112) rfl rfl
set_option maxRecDepth 100000 in
theorem cw_X9_step : cw_ok m_X9_step := ⟨lg_in (i := 1119) rfl rfl, lg_in (i := 10) rfl rfl, ⟨by decide +kernel, by decide +kernel⟩, by decide⟩
theorem ar_X9_step : ar_ok m_X9_step 4 := by unfold ar_ok; decide +kernel
set_option maxRecDepth 100000 in
theorem im_X9_step : Cond.instanceMethod yX9_step ∈ lw_good := lg_in (i := 1117) rfl rfl
set_option maxRecDepth 100000 in
theorem se_X9_step : Cond.selects yX9_step.cls yX9_step yX9_step ∈ lw_good := lg_in (i := 1118) rfl rfl
set_option maxRecDepth 100000 in
theorem cw_X9_stepAt : cw_ok m_X9_stepAt := ⟨lg_in (i := 1143) rfl rfl, lg_in (i := 10) rfl rfl, ⟨by decide +kernel, by decide +kernel⟩, by decide⟩
theorem ar_X9_stepAt : ar_ok m_X9_stepAt 2 := by unfold ar_ok; decide +kernel
set_option maxRecDepth 100000 in
theorem im_X9_stepAt : Cond.instanceMethod yX9_stepAt ∈ lw_good := lg_in (i := 1142) rfl rfl
set_option maxRecDepth 100000 in
theorem se_X9_stepAt : Cond.selects yX9_stepAt.cls yX9_stepAt yX9_stepAt ∈ lw_good := lg_sel (i := 34) rfl rfl
set_option maxRecDepth 100000 in
theorem cw_X9_placeX : cw_ok m_X9_placeX := ⟨lg_in (i := 1139) rfl rfl, lg_in (i := 10) rfl rfl, ⟨by decide +kernel, by decide +kernel⟩, by decide⟩
theorem ar_X9_placeX : ar_ok m_X9_placeX 2 := by unfold ar_ok; decide +kernel
set_option maxRecDepth 100000 in
theorem im_X9_placeX : Cond.instanceMethod yX9_placeX ∈ lw_good := lg_in (i := 1138) rfl rfl
set_option maxRecDepth 100000 in
theorem se_X9_placeX : Cond.selects yX9_placeX.cls yX9_placeX yX9_placeX ∈ lw_good := lg_sel (i := 33) rfl rfl
set_option maxRecDepth 100000 in
theorem cw_X9_placeY : cw_ok m_X9_placeY := ⟨lg_in (i := 1150) rfl rfl, lg_in (i := 10) rfl rfl, ⟨by decide +kernel, by decide +kernel⟩, by decide⟩
theorem ar_X9_placeY : ar_ok m_X9_placeY 2 := by unfold ar_ok; decide +kernel
set_option maxRecDepth 100000 in
theorem im_X9_placeY : Cond.instanceMethod yX9_placeY ∈ lw_good := lg_in (i := 1149) rfl rfl
set_option maxRecDepth 100000 in
theorem se_X9_placeY : Cond.selects yX9_placeY.cls yX9_placeY yX9_placeY ∈ lw_good := lg_sel (i := 35) rfl rfl
set_option maxRecDepth 100000 in
theorem cw_X9_apart : cw_ok m_X9_apart := ⟨lg_in (i := 1146) rfl rfl, lg_in (i := 10) rfl rfl, ⟨by decide +kernel, by decide +kernel⟩, by decide⟩
theorem ar_X9_apart : ar_ok m_X9_apart 2 := by unfold ar_ok; decide +kernel
set_option maxRecDepth 100000 in
theorem st_X9_apart : Cond.static yX9_apart ∈ lw_good := lg_in (i := 1145) rfl rfl
set_option maxRecDepth 100000 in
theorem cw_X9_nearTo : cw_ok m_X9_nearTo := ⟨lg_in (i := 1135) rfl rfl, lg_in (i := 10) rfl rfl, ⟨by decide +kernel, by decide +kernel⟩, by decide⟩
theorem ar_X9_nearTo : ar_ok m_X9_nearTo 3 := by unfold ar_ok; decide +kernel
set_option maxRecDepth 100000 in
theorem im_X9_nearTo : Cond.instanceMethod yX9_nearTo ∈ lw_good := lg_in (i := 1134) rfl rfl
set_option maxRecDepth 100000 in
theorem se_X9_nearTo : Cond.selects yX9_nearTo.cls yX9_nearTo yX9_nearTo ∈ lw_good := lg_sel (i := 32) rfl rfl
set_option maxRecDepth 100000 in
theorem cw_X9_near : cw_ok m_X9_near := ⟨lg_in (i := 1131) rfl rfl, lg_in (i := 10) rfl rfl, ⟨by decide +kernel, by decide +kernel⟩, by decide⟩
theorem ar_X9_near : ar_ok m_X9_near 3 := by unfold ar_ok; decide +kernel
set_option maxRecDepth 100000 in
theorem im_X9_near : Cond.instanceMethod yX9_near ∈ lw_good := lg_in (i := 1129) rfl rfl
set_option maxRecDepth 100000 in
theorem se_X9_near : Cond.selects yX9_near.cls yX9_near yX9_near ∈ lw_good := lg_in (i := 1130) rfl rfl
set_option maxRecDepth 100000 in
theorem cw_X9_paper : cw_ok m_X9_paper := ⟨lg_in (i := 1154) rfl rfl, lg_in (i := 10) rfl rfl, ⟨by decide +kernel, by decide +kernel⟩, by decide⟩
theorem ar_X9_paper : ar_ok m_X9_paper 4 := by unfold ar_ok; decide +kernel
set_option maxRecDepth 100000 in
theorem im_X9_paper : Cond.instanceMethod yX9_paper ∈ lw_good := lg_in (i := 1152) rfl rfl
set_option maxRecDepth 100000 in
theorem se_X9_paper : Cond.selects yX9_paper.cls yX9_paper yX9_paper ∈ lw_good := lg_in (i := 1153) rfl rfl
set_option maxRecDepth 100000 in
theorem cw_X9_placeIn : cw_ok m_X9_placeIn := ⟨lg_in (i := 1162) rfl rfl, lg_in (i := 10) rfl rfl, ⟨by decide +kernel, by decide +kernel⟩, by decide⟩
theorem ar_X9_placeIn : ar_ok m_X9_placeIn 2 := by unfold ar_ok; decide +kernel
set_option maxRecDepth 100000 in
theorem im_X9_placeIn : Cond.instanceMethod yX9_placeIn ∈ lw_good := lg_in (i := 1161) rfl rfl
set_option maxRecDepth 100000 in
theorem se_X9_placeIn : Cond.selects yX9_placeIn.cls yX9_placeIn yX9_placeIn ∈ lw_good := lg_sel (i := 36) rfl rfl
set_option maxRecDepth 100000 in
theorem cw_X9_list : cw_ok m_X9_list := ⟨lg_in (i := 1158) rfl rfl, lg_in (i := 10) rfl rfl, ⟨by decide +kernel, by decide +kernel⟩, by decide⟩
theorem ar_X9_list : ar_ok m_X9_list 2 := by unfold ar_ok; decide +kernel
set_option maxRecDepth 100000 in
theorem im_X9_list : Cond.instanceMethod yX9_list ∈ lw_good := lg_in (i := 1156) rfl rfl
set_option maxRecDepth 100000 in
theorem se_X9_list : Cond.selects yX9_list.cls yX9_list yX9_list ∈ lw_good := lg_in (i := 1157) rfl rfl
set_option maxRecDepth 100000 in
theorem cw_X9_falls : cw_ok m_X9_falls := ⟨lg_in (i := 1166) rfl rfl, lg_in (i := 10) rfl rfl, ⟨by decide +kernel, by decide +kernel⟩, by decide⟩
theorem ar_X9_falls : ar_ok m_X9_falls 2 := by unfold ar_ok; decide +kernel
set_option maxRecDepth 100000 in
theorem im_X9_falls : Cond.instanceMethod yX9_falls ∈ lw_good := lg_in (i := 1164) rfl rfl
set_option maxRecDepth 100000 in
theorem se_X9_falls : Cond.selects yX9_falls.cls yX9_falls yX9_falls ∈ lw_good := lg_in (i := 1165) rfl rfl
set_option maxRecDepth 100000 in
theorem cw_X9_feed : cw_ok m_X9_feed := ⟨lg_in (i := 1170) rfl rfl, lg_in (i := 10) rfl rfl, ⟨by decide +kernel, by decide +kernel⟩, by decide⟩
theorem ar_X9_feed : ar_ok m_X9_feed 5 := by unfold ar_ok; decide +kernel
set_option maxRecDepth 100000 in
theorem im_X9_feed : Cond.instanceMethod yX9_feed ∈ lw_good := lg_in (i := 1168) rfl rfl
set_option maxRecDepth 100000 in
theorem se_X9_feed : Cond.selects yX9_feed.cls yX9_feed yX9_feed ∈ lw_good := lg_in (i := 1169) rfl rfl
set_option maxRecDepth 100000 in
theorem cw_X9_put : cw_ok m_X9_put := ⟨lg_in (i := 1174) rfl rfl, lg_in (i := 10) rfl rfl, ⟨by decide +kernel, by decide +kernel⟩, by decide⟩
theorem ar_X9_put : ar_ok m_X9_put 1 := by unfold ar_ok; decide +kernel
set_option maxRecDepth 100000 in
theorem im_X9_put : Cond.instanceMethod yX9_put ∈ lw_good := lg_in (i := 1173) rfl rfl
set_option maxRecDepth 100000 in
theorem se_X9_put : Cond.selects yX9_put.cls yX9_put yX9_put ∈ lw_good := lg_sel (i := 37) rfl rfl
set_option maxRecDepth 100000 in
theorem cw_X9_end : cw_ok m_X9_end := ⟨lg_in (i := 1178) rfl rfl, lg_in (i := 10) rfl rfl, ⟨by decide +kernel, by decide +kernel⟩, by decide⟩
theorem ar_X9_end : ar_ok m_X9_end 1 := by unfold ar_ok; decide +kernel
set_option maxRecDepth 100000 in
theorem im_X9_end : Cond.instanceMethod yX9_end ∈ lw_good := lg_in (i := 1176) rfl rfl
set_option maxRecDepth 100000 in
theorem se_X9_end : Cond.selects yX9_end.cls yX9_end yX9_end ∈ lw_good := lg_in (i := 1177) rfl rfl
set_option maxRecDepth 100000 in
theorem cw_X9_wordOf : cw_ok m_X9_wordOf := ⟨lg_in (i := 1272) rfl rfl, lg_in (i := 10) rfl rfl, ⟨by decide +kernel, by decide +kernel⟩, by decide⟩
theorem ar_X9_wordOf : ar_ok m_X9_wordOf 1 := by unfold ar_ok; decide +kernel
set_option maxRecDepth 100000 in
theorem st_X9_wordOf : Cond.static yX9_wordOf ∈ lw_good := lg_in (i := 1271) rfl rfl
set_option maxRecDepth 100000 in
theorem cw_X9_clauseOf : cw_ok m_X9_clauseOf := ⟨lg_in (i := 1197) rfl rfl, lg_in (i := 10) rfl rfl, ⟨by decide +kernel, by decide +kernel⟩, by decide⟩
theorem ar_X9_clauseOf : ar_ok m_X9_clauseOf 1 := by unfold ar_ok; decide +kernel
set_option maxRecDepth 100000 in
theorem st_X9_clauseOf : Cond.static yX9_clauseOf ∈ lw_good := lg_in (i := 1196) rfl rfl
set_option maxRecDepth 100000 in
theorem cw_X9_keyName : cw_ok m_X9_keyName := ⟨lg_in (i := 1213) rfl rfl, lg_in (i := 10) rfl rfl, ⟨by decide +kernel, by decide +kernel⟩, by decide⟩
theorem ar_X9_keyName : ar_ok m_X9_keyName 1 := by unfold ar_ok; decide +kernel
set_option maxRecDepth 100000 in
theorem st_X9_keyName : Cond.static yX9_keyName ∈ lw_good := lg_in (i := 1212) rfl rfl
set_option maxRecDepth 100000 in
theorem cw_X9_fails : cw_ok m_X9_fails := ⟨lg_in (i := 1210) rfl rfl, lg_in (i := 10) rfl rfl, ⟨by decide +kernel, by decide +kernel⟩, by decide⟩
theorem ar_X9_fails : ar_ok m_X9_fails 2 := by unfold ar_ok; decide +kernel
set_option maxRecDepth 100000 in
theorem im_X9_fails : Cond.instanceMethod yX9_fails ∈ lw_good := lg_in (i := 1209) rfl rfl
set_option maxRecDepth 100000 in
theorem se_X9_fails : Cond.selects yX9_fails.cls yX9_fails yX9_fails ∈ lw_good := lg_sel (i := 42) rfl rfl
set_option maxRecDepth 100000 in
theorem cw_X9_sign : cw_ok m_X9_sign := ⟨lg_in (i := 1194) rfl rfl, lg_in (i := 10) rfl rfl, ⟨by decide +kernel, by decide +kernel⟩, by decide⟩
theorem ar_X9_sign : ar_ok m_X9_sign 0 := by unfold ar_ok; decide +kernel
set_option maxRecDepth 100000 in
theorem im_X9_sign : Cond.instanceMethod yX9_sign ∈ lw_good := lg_in (i := 1193) rfl rfl
set_option maxRecDepth 100000 in
theorem se_X9_sign : Cond.selects yX9_sign.cls yX9_sign yX9_sign ∈ lw_good := lg_sel (i := 40) rfl rfl
set_option maxRecDepth 100000 in
theorem cw_X9_blanks : cw_ok m_X9_blanks := ⟨lg_in (i := 1190) rfl rfl, lg_in (i := 10) rfl rfl, ⟨by decide +kernel, by decide +kernel⟩, by decide⟩
theorem ar_X9_blanks : ar_ok m_X9_blanks 0 := by unfold ar_ok; decide +kernel
set_option maxRecDepth 100000 in
theorem im_X9_blanks : Cond.instanceMethod yX9_blanks ∈ lw_good := lg_in (i := 1189) rfl rfl
set_option maxRecDepth 100000 in
theorem se_X9_blanks : Cond.selects yX9_blanks.cls yX9_blanks yX9_blanks ∈ lw_good := lg_sel (i := 39) rfl rfl
set_option maxRecDepth 100000 in
theorem cw_X9_isDigit : cw_ok m_X9_isDigit := ⟨lg_in (i := 1254) rfl rfl, lg_in (i := 10) rfl rfl, ⟨by decide +kernel, by decide +kernel⟩, by decide⟩
theorem ar_X9_isDigit : ar_ok m_X9_isDigit 0 := by unfold ar_ok; decide +kernel
set_option maxRecDepth 100000 in
theorem im_X9_isDigit : Cond.instanceMethod yX9_isDigit ∈ lw_good := lg_in (i := 1253) rfl rfl
set_option maxRecDepth 100000 in
theorem se_X9_isDigit : Cond.selects yX9_isDigit.cls yX9_isDigit yX9_isDigit ∈ lw_good := lg_sel (i := 50) rfl rfl
set_option maxRecDepth 100000 in
theorem cw_X9_stands : cw_ok m_X9_stands := ⟨lg_in (i := 1204) rfl rfl, lg_in (i := 10) rfl rfl, ⟨by decide +kernel, by decide +kernel⟩, by decide⟩
theorem ar_X9_stands : ar_ok m_X9_stands 1 := by unfold ar_ok; decide +kernel
set_option maxRecDepth 100000 in
theorem im_X9_stands : Cond.instanceMethod yX9_stands ∈ lw_good := lg_in (i := 1203) rfl rfl
set_option maxRecDepth 100000 in
theorem se_X9_stands : Cond.selects yX9_stands.cls yX9_stands yX9_stands ∈ lw_good := lg_sel (i := 41) rfl rfl
set_option maxRecDepth 100000 in
theorem cw_X9_takes : cw_ok m_X9_takes := ⟨lg_in (i := 1225) rfl rfl, lg_in (i := 10) rfl rfl, ⟨by decide +kernel, by decide +kernel⟩, by decide⟩
theorem ar_X9_takes : ar_ok m_X9_takes 1 := by unfold ar_ok; decide +kernel
set_option maxRecDepth 100000 in
theorem im_X9_takes : Cond.instanceMethod yX9_takes ∈ lw_good := lg_in (i := 1224) rfl rfl
set_option maxRecDepth 100000 in
theorem se_X9_takes : Cond.selects yX9_takes.cls yX9_takes yX9_takes ∈ lw_good := lg_sel (i := 43) rfl rfl
set_option maxRecDepth 100000 in
theorem cw_X9_entry : cw_ok m_X9_entry := ⟨lg_in (i := 1269) rfl rfl, lg_in (i := 10) rfl rfl, ⟨by decide +kernel, by decide +kernel⟩, by decide⟩
theorem ar_X9_entry : ar_ok m_X9_entry 2 := by unfold ar_ok; decide +kernel
set_option maxRecDepth 100000 in
theorem im_X9_entry : Cond.instanceMethod yX9_entry ∈ lw_good := lg_in (i := 1268) rfl rfl
set_option maxRecDepth 100000 in
theorem se_X9_entry : Cond.selects yX9_entry.cls yX9_entry yX9_entry ∈ lw_good := lg_sel (i := 53) rfl rfl
set_option maxRecDepth 100000 in
theorem cw_X9_isCounted : cw_ok m_X9_isCounted := ⟨lg_in (i := 1265) rfl rfl, lg_in (i := 10) rfl rfl, ⟨by decide +kernel, by decide +kernel⟩, by decide⟩
theorem ar_X9_isCounted : ar_ok m_X9_isCounted 1 := by unfold ar_ok; decide +kernel
set_option maxRecDepth 100000 in
theorem im_X9_isCounted : Cond.instanceMethod yX9_isCounted ∈ lw_good := lg_in (i := 1264) rfl rfl
set_option maxRecDepth 100000 in
theorem se_X9_isCounted : Cond.selects yX9_isCounted.cls yX9_isCounted yX9_isCounted ∈ lw_good := lg_sel (i := 52) rfl rfl
set_option maxRecDepth 100000 in
theorem cw_X9_digits : cw_ok m_X9_digits := ⟨lg_in (i := 1261) rfl rfl, lg_in (i := 10) rfl rfl, ⟨by decide +kernel, by decide +kernel⟩, by decide⟩
theorem ar_X9_digits : ar_ok m_X9_digits 1 := by unfold ar_ok; decide +kernel
set_option maxRecDepth 100000 in
theorem im_X9_digits : Cond.instanceMethod yX9_digits ∈ lw_good := lg_in (i := 1260) rfl rfl
set_option maxRecDepth 100000 in
theorem se_X9_digits : Cond.selects yX9_digits.cls yX9_digits yX9_digits ∈ lw_good := lg_sel (i := 51) rfl rfl
set_option maxRecDepth 100000 in
theorem cw_X9_value : cw_ok m_X9_value := ⟨lg_in (i := 1250) rfl rfl, lg_in (i := 10) rfl rfl, ⟨by decide +kernel, by decide +kernel⟩, by decide⟩
theorem ar_X9_value : ar_ok m_X9_value 0 := by unfold ar_ok; decide +kernel
set_option maxRecDepth 100000 in
theorem im_X9_value : Cond.instanceMethod yX9_value ∈ lw_good := lg_in (i := 1249) rfl rfl
set_option maxRecDepth 100000 in
theorem se_X9_value : Cond.selects yX9_value.cls yX9_value yX9_value ∈ lw_good := lg_sel (i := 49) rfl rfl
set_option maxRecDepth 100000 in
theorem cw_X9_sum : cw_ok m_X9_sum := ⟨lg_in (i := 1246) rfl rfl, lg_in (i := 10) rfl rfl, ⟨by decide +kernel, by decide +kernel⟩, by decide⟩
theorem ar_X9_sum : ar_ok m_X9_sum 0 := by unfold ar_ok; decide +kernel
set_option maxRecDepth 100000 in
theorem im_X9_sum : Cond.instanceMethod yX9_sum ∈ lw_good := lg_in (i := 1245) rfl rfl
set_option maxRecDepth 100000 in
theorem se_X9_sum : Cond.selects yX9_sum.cls yX9_sum yX9_sum ∈ lw_good := lg_sel (i := 48) rfl rfl
set_option maxRecDepth 100000 in
theorem cw_X9_compared : cw_ok m_X9_compared := ⟨lg_in (i := 1242) rfl rfl, lg_in (i := 10) rfl rfl, ⟨by decide +kernel, by decide +kernel⟩, by decide⟩
theorem ar_X9_compared : ar_ok m_X9_compared 0 := by unfold ar_ok; decide +kernel
set_option maxRecDepth 100000 in
theorem im_X9_compared : Cond.instanceMethod yX9_compared ∈ lw_good := lg_in (i := 1241) rfl rfl
set_option maxRecDepth 100000 in
theorem se_X9_compared : Cond.selects yX9_compared.cls yX9_compared yX9_compared ∈ lw_good := lg_sel (i := 47) rfl rfl
set_option maxRecDepth 100000 in
theorem cw_X9_top : cw_ok m_X9_top := ⟨lg_in (i := 1287) rfl rfl, lg_in (i := 10) rfl rfl, ⟨by decide +kernel, by decide +kernel⟩, by decide⟩
theorem ar_X9_top : ar_ok m_X9_top 0 := by unfold ar_ok; decide +kernel
set_option maxRecDepth 100000 in
theorem im_X9_top : Cond.instanceMethod yX9_top ∈ lw_good := lg_in (i := 1286) rfl rfl
set_option maxRecDepth 100000 in
theorem se_X9_top : Cond.selects yX9_top.cls yX9_top yX9_top ∈ lw_good := lg_sel (i := 55) rfl rfl
set_option maxRecDepth 100000 in
theorem cw_X9_opens : cw_ok m_X9_opens := ⟨lg_in (i := 1238) rfl rfl, lg_in (i := 10) rfl rfl, ⟨by decide +kernel, by decide +kernel⟩, by decide⟩
theorem ar_X9_opens : ar_ok m_X9_opens 1 := by unfold ar_ok; decide +kernel
set_option maxRecDepth 100000 in
theorem im_X9_opens : Cond.instanceMethod yX9_opens ∈ lw_good := lg_in (i := 1237) rfl rfl
set_option maxRecDepth 100000 in
theorem se_X9_opens : Cond.selects yX9_opens.cls yX9_opens yX9_opens ∈ lw_good := lg_sel (i := 46) rfl rfl
set_option maxRecDepth 100000 in
theorem cw_X9_answers : cw_ok m_X9_answers := ⟨lg_in (i := 1283) rfl rfl, lg_in (i := 10) rfl rfl, ⟨by decide +kernel, by decide +kernel⟩, by decide⟩
theorem ar_X9_answers : ar_ok m_X9_answers 1 := by unfold ar_ok; decide +kernel
set_option maxRecDepth 100000 in
theorem im_X9_answers : Cond.instanceMethod yX9_answers ∈ lw_good := lg_in (i := 1282) rfl rfl
set_option maxRecDepth 100000 in
theorem se_X9_answers : Cond.selects yX9_answers.cls yX9_answers yX9_answers ∈ lw_good := lg_sel (i := 54) rfl rfl
set_option maxRecDepth 100000 in
theorem cw_X9_fact : cw_ok m_X9_fact := ⟨lg_in (i := 1233) rfl rfl, lg_in (i := 10) rfl rfl, ⟨by decide +kernel, by decide +kernel⟩, by decide⟩
theorem ar_X9_fact : ar_ok m_X9_fact 0 := by unfold ar_ok; decide +kernel
set_option maxRecDepth 100000 in
theorem im_X9_fact : Cond.instanceMethod yX9_fact ∈ lw_good := lg_in (i := 1232) rfl rfl
set_option maxRecDepth 100000 in
theorem se_X9_fact : Cond.selects yX9_fact.cls yX9_fact yX9_fact ∈ lw_good := lg_sel (i := 45) rfl rfl
set_option maxRecDepth 100000 in
theorem cw_X9_test : cw_ok m_X9_test := ⟨lg_in (i := 1229) rfl rfl, lg_in (i := 10) rfl rfl, ⟨by decide +kernel, by decide +kernel⟩, by decide⟩
theorem ar_X9_test : ar_ok m_X9_test 0 := by unfold ar_ok; decide +kernel
set_option maxRecDepth 100000 in
theorem im_X9_test : Cond.instanceMethod yX9_test ∈ lw_good := lg_in (i := 1228) rfl rfl
set_option maxRecDepth 100000 in
theorem se_X9_test : Cond.selects yX9_test.cls yX9_test yX9_test ∈ lw_good := lg_sel (i := 44) rfl rfl
set_option maxRecDepth 100000 in
theorem cw_X9_clause : cw_ok m_X9_clause := ⟨lg_in (i := 1186) rfl rfl, lg_in (i := 10) rfl rfl, ⟨by decide +kernel, by decide +kernel⟩, by decide⟩
theorem ar_X9_clause : ar_ok m_X9_clause 1 := by unfold ar_ok; decide +kernel
set_option maxRecDepth 100000 in
theorem im_X9_clause : Cond.instanceMethod yX9_clause ∈ lw_good := lg_in (i := 1185) rfl rfl
set_option maxRecDepth 100000 in
theorem se_X9_clause : Cond.selects yX9_clause.cls yX9_clause yX9_clause ∈ lw_good := lg_sel (i := 38) rfl rfl
set_option maxRecDepth 100000 in
theorem cw_X9_law : cw_ok m_X9_law := ⟨lg_in (i := 1182) rfl rfl, lg_in (i := 10) rfl rfl, ⟨by decide +kernel, by decide +kernel⟩, by decide⟩
theorem ar_X9_law : ar_ok m_X9_law 0 := by unfold ar_ok; decide +kernel
set_option maxRecDepth 100000 in
theorem im_X9_law : Cond.instanceMethod yX9_law ∈ lw_good := lg_in (i := 1180) rfl rfl
set_option maxRecDepth 100000 in
theorem se_X9_law : Cond.selects yX9_law.cls yX9_law yX9_law ∈ lw_good := lg_in (i := 1181) rfl rfl
set_option maxRecDepth 100000 in
theorem cw_X9_rules : cw_ok m_X9_rules := ⟨lg_in (i := 1293) rfl rfl, lg_in (i := 10) rfl rfl, ⟨by decide +kernel, by decide +kernel⟩, by decide⟩
theorem ar_X9_rules : ar_ok m_X9_rules 2 := by unfold ar_ok; decide +kernel
set_option maxRecDepth 100000 in
theorem im_X9_rules : Cond.instanceMethod yX9_rules ∈ lw_good := lg_in (i := 1291) rfl rfl
set_option maxRecDepth 100000 in
theorem se_X9_rules : Cond.selects yX9_rules.cls yX9_rules yX9_rules ∈ lw_good := lg_in (i := 1292) rfl rfl
set_option maxRecDepth 100000 in
theorem cw_X9_truth : cw_ok m_X9_truth := ⟨lg_in (i := 1332) rfl rfl, lg_in (i := 10) rfl rfl, ⟨by decide +kernel, by decide +kernel⟩, by decide⟩
theorem ar_X9_truth : ar_ok m_X9_truth 1 := by unfold ar_ok; decide +kernel
set_option maxRecDepth 100000 in
theorem st_X9_truth : Cond.static yX9_truth ∈ lw_good := lg_in (i := 1331) rfl rfl
set_option maxRecDepth 100000 in
theorem cw_X9_both : cw_ok m_X9_both := ⟨lg_in (i := 1329) rfl rfl, lg_in (i := 10) rfl rfl, ⟨by decide +kernel, by decide +kernel⟩, by decide⟩
theorem ar_X9_both : ar_ok m_X9_both 3 := by unfold ar_ok; decide +kernel
set_option maxRecDepth 100000 in
theorem st_X9_both : Cond.static yX9_both ∈ lw_good := lg_in (i := 1328) rfl rfl
set_option maxRecDepth 100000 in
theorem cw_X9_answer : cw_ok m_X9_answer := ⟨lg_in (i := 1326) rfl rfl, lg_in (i := 10) rfl rfl, ⟨by decide +kernel, by decide +kernel⟩, by decide⟩
theorem ar_X9_answer : ar_ok m_X9_answer 3 := by unfold ar_ok; decide +kernel
set_option maxRecDepth 100000 in
theorem im_X9_answer : Cond.instanceMethod yX9_answer ∈ lw_good := lg_in (i := 1325) rfl rfl
set_option maxRecDepth 100000 in
theorem se_X9_answer : Cond.selects yX9_answer.cls yX9_answer yX9_answer ∈ lw_good := lg_sel (i := 62) rfl rfl
set_option maxRecDepth 100000 in
theorem cw_X9_asItIs : cw_ok m_X9_asItIs := ⟨lg_in (i := 1302) rfl rfl, lg_in (i := 10) rfl rfl, ⟨by decide +kernel, by decide +kernel⟩, by decide⟩
theorem ar_X9_asItIs : ar_ok m_X9_asItIs 1 := by unfold ar_ok; decide +kernel
set_option maxRecDepth 100000 in
theorem im_X9_asItIs : Cond.instanceMethod yX9_asItIs ∈ lw_good := lg_in (i := 1301) rfl rfl
set_option maxRecDepth 100000 in
theorem se_X9_asItIs : Cond.selects yX9_asItIs.cls yX9_asItIs yX9_asItIs ∈ lw_good := lg_sel (i := 56) rfl rfl
set_option maxRecDepth 100000 in
theorem cw_X9_hasPaper : cw_ok m_X9_hasPaper := ⟨lg_in (i := 1322) rfl rfl, lg_in (i := 10) rfl rfl, ⟨by decide +kernel, by decide +kernel⟩, by decide⟩
theorem ar_X9_hasPaper : ar_ok m_X9_hasPaper 3 := by unfold ar_ok; decide +kernel
set_option maxRecDepth 100000 in
theorem im_X9_hasPaper : Cond.instanceMethod yX9_hasPaper ∈ lw_good := lg_in (i := 1321) rfl rfl
set_option maxRecDepth 100000 in
theorem se_X9_hasPaper : Cond.selects yX9_hasPaper.cls yX9_hasPaper yX9_hasPaper ∈ lw_good := lg_sel (i := 61) rfl rfl
set_option maxRecDepth 100000 in
theorem cw_X9_below : cw_ok m_X9_below := ⟨lg_in (i := 1310) rfl rfl, lg_in (i := 10) rfl rfl, ⟨by decide +kernel, by decide +kernel⟩, by decide⟩
theorem ar_X9_below : ar_ok m_X9_below 2 := by unfold ar_ok; decide +kernel
set_option maxRecDepth 100000 in
theorem im_X9_below : Cond.instanceMethod yX9_below ∈ lw_good := lg_in (i := 1309) rfl rfl
set_option maxRecDepth 100000 in
theorem se_X9_below : Cond.selects yX9_below.cls yX9_below yX9_below ∈ lw_good := lg_sel (i := 58) rfl rfl
set_option maxRecDepth 100000 in
theorem cw_X9_looks : cw_ok m_X9_looks := ⟨lg_in (i := 1318) rfl rfl, lg_in (i := 10) rfl rfl, ⟨by decide +kernel, by decide +kernel⟩, by decide⟩
theorem ar_X9_looks : ar_ok m_X9_looks 3 := by unfold ar_ok; decide +kernel
set_option maxRecDepth 100000 in
theorem im_X9_looks : Cond.instanceMethod yX9_looks ∈ lw_good := lg_in (i := 1317) rfl rfl
set_option maxRecDepth 100000 in
theorem se_X9_looks : Cond.selects yX9_looks.cls yX9_looks yX9_looks ∈ lw_good := lg_sel (i := 60) rfl rfl
set_option maxRecDepth 100000 in
theorem cw_X9_keyed : cw_ok m_X9_keyed := ⟨lg_in (i := 1335) rfl rfl, lg_in (i := 10) rfl rfl, ⟨by decide +kernel, by decide +kernel⟩, by decide⟩
theorem ar_X9_keyed : ar_ok m_X9_keyed 2 := by unfold ar_ok; decide +kernel
set_option maxRecDepth 100000 in
theorem st_X9_keyed : Cond.static yX9_keyed ∈ lw_good := lg_in (i := 1334) rfl rfl
set_option maxRecDepth 100000 in
theorem cw_X9_works : cw_ok m_X9_works := ⟨lg_in (i := 1314) rfl rfl, lg_in (i := 10) rfl rfl, ⟨by decide +kernel, by decide +kernel⟩, by decide⟩
theorem ar_X9_works : ar_ok m_X9_works 4 := by unfold ar_ok; decide +kernel
set_option maxRecDepth 100000 in
theorem im_X9_works : Cond.instanceMethod yX9_works ∈ lw_good := lg_in (i := 1313) rfl rfl
set_option maxRecDepth 100000 in
theorem se_X9_works : Cond.selects yX9_works.cls yX9_works yX9_works ∈ lw_good := lg_sel (i := 59) rfl rfl
set_option maxRecDepth 100000 in
theorem cw_X9_parts : cw_ok m_X9_parts := ⟨lg_in (i := 1360) rfl rfl, lg_in (i := 10) rfl rfl, ⟨by decide +kernel, by decide +kernel⟩, by decide⟩
theorem ar_X9_parts : ar_ok m_X9_parts 3 := by unfold ar_ok; decide +kernel
set_option maxRecDepth 100000 in
theorem im_X9_parts : Cond.instanceMethod yX9_parts ∈ lw_good := lg_in (i := 1359) rfl rfl
set_option maxRecDepth 100000 in
theorem se_X9_parts : Cond.selects yX9_parts.cls yX9_parts yX9_parts ∈ lw_good := lg_sel (i := 67) rfl rfl
set_option maxRecDepth 100000 in
theorem cw_X9_isAhead : cw_ok m_X9_isAhead := ⟨lg_in (i := 1356) rfl rfl, lg_in (i := 10) rfl rfl, ⟨by decide +kernel, by decide +kernel⟩, by decide⟩
theorem ar_X9_isAhead : ar_ok m_X9_isAhead 3 := by unfold ar_ok; decide +kernel
set_option maxRecDepth 100000 in
theorem im_X9_isAhead : Cond.instanceMethod yX9_isAhead ∈ lw_good := lg_in (i := 1355) rfl rfl
set_option maxRecDepth 100000 in
theorem se_X9_isAhead : Cond.selects yX9_isAhead.cls yX9_isAhead yX9_isAhead ∈ lw_good := lg_sel (i := 66) rfl rfl
set_option maxRecDepth 100000 in
theorem cw_X9_mayOf : cw_ok m_X9_mayOf := ⟨lg_in (i := 1306) rfl rfl, lg_in (i := 10) rfl rfl, ⟨by decide +kernel, by decide +kernel⟩, by decide⟩
theorem ar_X9_mayOf : ar_ok m_X9_mayOf 2 := by unfold ar_ok; decide +kernel
set_option maxRecDepth 100000 in
theorem im_X9_mayOf : Cond.instanceMethod yX9_mayOf ∈ lw_good := lg_in (i := 1305) rfl rfl
set_option maxRecDepth 100000 in
theorem se_X9_mayOf : Cond.selects yX9_mayOf.cls yX9_mayOf yX9_mayOf ∈ lw_good := lg_sel (i := 57) rfl rfl
set_option maxRecDepth 100000 in
theorem cw_X9_firstOf : cw_ok m_X9_firstOf := ⟨lg_in (i := 1352) rfl rfl, lg_in (i := 10) rfl rfl, ⟨by decide +kernel, by decide +kernel⟩, by decide⟩
theorem ar_X9_firstOf : ar_ok m_X9_firstOf 2 := by unfold ar_ok; decide +kernel
set_option maxRecDepth 100000 in
theorem im_X9_firstOf : Cond.instanceMethod yX9_firstOf ∈ lw_good := lg_in (i := 1351) rfl rfl
set_option maxRecDepth 100000 in
theorem se_X9_firstOf : Cond.selects yX9_firstOf.cls yX9_firstOf yX9_firstOf ∈ lw_good := lg_sel (i := 65) rfl rfl
set_option maxRecDepth 100000 in
theorem cw_X9_chosen : cw_ok m_X9_chosen := ⟨lg_in (i := 1348) rfl rfl, lg_in (i := 10) rfl rfl, ⟨by decide +kernel, by decide +kernel⟩, by decide⟩
theorem ar_X9_chosen : ar_ok m_X9_chosen 2 := by unfold ar_ok; decide +kernel
set_option maxRecDepth 100000 in
theorem im_X9_chosen : Cond.instanceMethod yX9_chosen ∈ lw_good := lg_in (i := 1347) rfl rfl
set_option maxRecDepth 100000 in
theorem se_X9_chosen : Cond.selects yX9_chosen.cls yX9_chosen yX9_chosen ∈ lw_good := lg_sel (i := 64) rfl rfl
set_option maxRecDepth 100000 in
theorem cw_X9_may : cw_ok m_X9_may := ⟨lg_in (i := 1298) rfl rfl, lg_in (i := 10) rfl rfl, ⟨by decide +kernel, by decide +kernel⟩, by decide⟩
theorem ar_X9_may : ar_ok m_X9_may 2 := by unfold ar_ok; decide +kernel
set_option maxRecDepth 100000 in
theorem im_X9_may : Cond.instanceMethod yX9_may ∈ lw_good := lg_in (i := 1296) rfl rfl
set_option maxRecDepth 100000 in
theorem se_X9_may : Cond.selects yX9_may.cls yX9_may yX9_may ∈ lw_good := lg_in (i := 1297) rfl rfl
set_option maxRecDepth 100000 in
theorem cw_X9_commanding : cw_ok m_X9_commanding := ⟨lg_in (i := 1344) rfl rfl, lg_in (i := 10) rfl rfl, ⟨by decide +kernel, by decide +kernel⟩, by decide⟩
theorem ar_X9_commanding : ar_ok m_X9_commanding 2 := by unfold ar_ok; decide +kernel
set_option maxRecDepth 100000 in
theorem im_X9_commanding : Cond.instanceMethod yX9_commanding ∈ lw_good := lg_in (i := 1343) rfl rfl
set_option maxRecDepth 100000 in
theorem se_X9_commanding : Cond.selects yX9_commanding.cls yX9_commanding yX9_commanding ∈ lw_good := lg_sel (i := 63) rfl rfl
set_option maxRecDepth 100000 in
theorem cw_X9_commands : cw_ok m_X9_commands := ⟨lg_in (i := 1340) rfl rfl, lg_in (i := 10) rfl rfl, ⟨by decide +kernel, by decide +kernel⟩, by decide⟩
theorem ar_X9_commands : ar_ok m_X9_commands 2 := by unfold ar_ok; decide +kernel
set_option maxRecDepth 100000 in
theorem im_X9_commands : Cond.instanceMethod yX9_commands ∈ lw_good := lg_in (i := 1338) rfl rfl
set_option maxRecDepth 100000 in
theorem se_X9_commands : Cond.selects yX9_commands.cls yX9_commands yX9_commands ∈ lw_good := lg_in (i := 1339) rfl rfl
set_option maxRecDepth 100000 in
theorem cw_X9_ahead : cw_ok m_X9_ahead := ⟨lg_in (i := 1364) rfl rfl, lg_in (i := 10) rfl rfl, ⟨by decide +kernel, by decide +kernel⟩, by decide⟩
theorem ar_X9_ahead : ar_ok m_X9_ahead 5 := by unfold ar_ok; decide +kernel
set_option maxRecDepth 100000 in
theorem im_X9_ahead : Cond.instanceMethod yX9_ahead ∈ lw_good := lg_in (i := 1362) rfl rfl
set_option maxRecDepth 100000 in
theorem se_X9_ahead : Cond.selects yX9_ahead.cls yX9_ahead yX9_ahead ∈ lw_good := lg_in (i := 1363) rfl rfl
set_option maxRecDepth 100000 in
theorem cw_X9_message : cw_ok m_X9_message := ⟨lg_in (i := 1368) rfl rfl, lg_in (i := 10) rfl rfl, ⟨by decide +kernel, by decide +kernel⟩, by decide⟩
theorem ar_X9_message : ar_ok m_X9_message 4 := by unfold ar_ok; decide +kernel
set_option maxRecDepth 100000 in
theorem im_X9_message : Cond.instanceMethod yX9_message ∈ lw_good := lg_in (i := 1366) rfl rfl
set_option maxRecDepth 100000 in
theorem se_X9_message : Cond.selects yX9_message.cls yX9_message yX9_message ∈ lw_good := lg_in (i := 1367) rfl rfl
set_option maxRecDepth 100000 in
theorem cw_X9_sight : cw_ok m_X9_sight := ⟨lg_in (i := 1372) rfl rfl, lg_in (i := 10) rfl rfl, ⟨by decide +kernel, by decide +kernel⟩, by decide⟩
theorem ar_X9_sight : ar_ok m_X9_sight 1 := by unfold ar_ok; decide +kernel
set_option maxRecDepth 100000 in
theorem im_X9_sight : Cond.instanceMethod yX9_sight ∈ lw_good := lg_in (i := 1370) rfl rfl
set_option maxRecDepth 100000 in
theorem se_X9_sight : Cond.selects yX9_sight.cls yX9_sight yX9_sight ∈ lw_good := lg_in (i := 1371) rfl rfl
set_option maxRecDepth 100000 in
theorem cw_X9_hasHeard : cw_ok m_X9_hasHeard := ⟨lg_in (i := 1384) rfl rfl, lg_in (i := 10) rfl rfl, ⟨by decide +kernel, by decide +kernel⟩, by decide⟩
theorem ar_X9_hasHeard : ar_ok m_X9_hasHeard 4 := by unfold ar_ok; decide +kernel
set_option maxRecDepth 100000 in
theorem im_X9_hasHeard : Cond.instanceMethod yX9_hasHeard ∈ lw_good := lg_in (i := 1383) rfl rfl
set_option maxRecDepth 100000 in
theorem se_X9_hasHeard : Cond.selects yX9_hasHeard.cls yX9_hasHeard yX9_hasHeard ∈ lw_good := lg_sel (i := 69) rfl rfl
set_option maxRecDepth 100000 in
theorem cw_X9_saw : cw_ok m_X9_saw := ⟨lg_in (i := 1392) rfl rfl, lg_in (i := 10) rfl rfl, ⟨by decide +kernel, by decide +kernel⟩, by decide⟩
theorem ar_X9_saw : ar_ok m_X9_saw 3 := by unfold ar_ok; decide +kernel
set_option maxRecDepth 100000 in
theorem im_X9_saw : Cond.instanceMethod yX9_saw ∈ lw_good := lg_in (i := 1391) rfl rfl
set_option maxRecDepth 100000 in
theorem se_X9_saw : Cond.selects yX9_saw.cls yX9_saw yX9_saw ∈ lw_good := lg_sel (i := 71) rfl rfl
set_option maxRecDepth 100000 in
theorem cw_X9_hasFallen : cw_ok m_X9_hasFallen := ⟨lg_in (i := 1380) rfl rfl, lg_in (i := 10) rfl rfl, ⟨by decide +kernel, by decide +kernel⟩, by decide⟩
theorem ar_X9_hasFallen : ar_ok m_X9_hasFallen 2 := by unfold ar_ok; decide +kernel
set_option maxRecDepth 100000 in
theorem im_X9_hasFallen : Cond.instanceMethod yX9_hasFallen ∈ lw_good := lg_in (i := 1379) rfl rfl
set_option maxRecDepth 100000 in
theorem se_X9_hasFallen : Cond.selects yX9_hasFallen.cls yX9_hasFallen yX9_hasFallen ∈ lw_good := lg_sel (i := 68) rfl rfl
set_option maxRecDepth 100000 in
theorem cw_X9_knowsFall : cw_ok m_X9_knowsFall := ⟨lg_in (i := 1388) rfl rfl, lg_in (i := 10) rfl rfl, ⟨by decide +kernel, by decide +kernel⟩, by decide⟩
theorem ar_X9_knowsFall : ar_ok m_X9_knowsFall 3 := by unfold ar_ok; decide +kernel
set_option maxRecDepth 100000 in
theorem im_X9_knowsFall : Cond.instanceMethod yX9_knowsFall ∈ lw_good := lg_in (i := 1387) rfl rfl
set_option maxRecDepth 100000 in
theorem se_X9_knowsFall : Cond.selects yX9_knowsFall.cls yX9_knowsFall yX9_knowsFall ∈ lw_good := lg_sel (i := 70) rfl rfl
set_option maxRecDepth 100000 in
theorem cw_X9_knows : cw_ok m_X9_knows := ⟨lg_in (i := 1376) rfl rfl, lg_in (i := 10) rfl rfl, ⟨by decide +kernel, by decide +kernel⟩, by decide⟩
theorem ar_X9_knows : ar_ok m_X9_knows 4 := by unfold ar_ok; decide +kernel
set_option maxRecDepth 100000 in
theorem im_X9_knows : Cond.instanceMethod yX9_knows ∈ lw_good := lg_in (i := 1374) rfl rfl
set_option maxRecDepth 100000 in
theorem se_X9_knows : Cond.selects yX9_knows.cls yX9_knows yX9_knows ∈ lw_good := lg_in (i := 1375) rfl rfl
set_option maxRecDepth 100000 in
theorem cw_X9_nobodyBesides : cw_ok m_X9_nobodyBesides := ⟨lg_in (i := 1400) rfl rfl, lg_in (i := 10) rfl rfl, ⟨by decide +kernel, by decide +kernel⟩, by decide⟩
theorem ar_X9_nobodyBesides : ar_ok m_X9_nobodyBesides 0 := by unfold ar_ok; decide +kernel
set_option maxRecDepth 100000 in
theorem im_X9_nobodyBesides : Cond.instanceMethod yX9_nobodyBesides ∈ lw_good := lg_in (i := 1399) rfl rfl
set_option maxRecDepth 100000 in
theorem se_X9_nobodyBesides : Cond.selects yX9_nobodyBesides.cls yX9_nobodyBesides yX9_nobodyBesides ∈ lw_good := lg_sel (i := 72) rfl rfl
set_option maxRecDepth 100000 in
theorem cw_X9_asTaken : cw_ok m_X9_asTaken := ⟨lg_in (i := 1404) rfl rfl, lg_in (i := 10) rfl rfl, ⟨by decide +kernel, by decide +kernel⟩, by decide⟩
theorem ar_X9_asTaken : ar_ok m_X9_asTaken 2 := by unfold ar_ok; decide +kernel
set_option maxRecDepth 100000 in
theorem im_X9_asTaken : Cond.instanceMethod yX9_asTaken ∈ lw_good := lg_in (i := 1403) rfl rfl
set_option maxRecDepth 100000 in
theorem se_X9_asTaken : Cond.selects yX9_asTaken.cls yX9_asTaken yX9_asTaken ∈ lw_good := lg_sel (i := 73) rfl rfl
set_option maxRecDepth 100000 in
theorem cw_X9_thinks : cw_ok m_X9_thinks := ⟨lg_in (i := 1396) rfl rfl, lg_in (i := 10) rfl rfl, ⟨by decide +kernel, by decide +kernel⟩, by decide⟩
theorem ar_X9_thinks : ar_ok m_X9_thinks 3 := by unfold ar_ok; decide +kernel
set_option maxRecDepth 100000 in
theorem im_X9_thinks : Cond.instanceMethod yX9_thinks ∈ lw_good := lg_in (i := 1394) rfl rfl
set_option maxRecDepth 100000 in
theorem se_X9_thinks : Cond.selects yX9_thinks.cls yX9_thinks yX9_thinks ∈ lw_good := lg_in (i := 1395) rfl rfl
set_option maxRecDepth 100000 in
theorem cw_X9_commandingBesides : cw_ok m_X9_commandingBesides := ⟨lg_in (i := 1416) rfl rfl, lg_in (i := 10) rfl rfl, ⟨by decide +kernel, by decide +kernel⟩, by decide⟩
theorem ar_X9_commandingBesides : ar_ok m_X9_commandingBesides 2 := by unfold ar_ok; decide +kernel
set_option maxRecDepth 100000 in
theorem im_X9_commandingBesides : Cond.instanceMethod yX9_commandingBesides ∈ lw_good := lg_in (i := 1415) rfl rfl
set_option maxRecDepth 100000 in
theorem se_X9_commandingBesides : Cond.selects yX9_commandingBesides.cls yX9_commandingBesides yX9_commandingBesides ∈ lw_good := lg_sel (i := 75) rfl rfl
set_option maxRecDepth 100000 in
theorem cw_X9_wrongs : cw_ok m_X9_wrongs := ⟨lg_in (i := 1412) rfl rfl, lg_in (i := 10) rfl rfl, ⟨by decide +kernel, by decide +kernel⟩, by decide⟩
theorem ar_X9_wrongs : ar_ok m_X9_wrongs 2 := by unfold ar_ok; decide +kernel
set_option maxRecDepth 100000 in
theorem im_X9_wrongs : Cond.instanceMethod yX9_wrongs ∈ lw_good := lg_in (i := 1411) rfl rfl
set_option maxRecDepth 100000 in
theorem se_X9_wrongs : Cond.selects yX9_wrongs.cls yX9_wrongs yX9_wrongs ∈ lw_good := lg_sel (i := 74) rfl rfl
set_option maxRecDepth 100000 in
theorem cw_X9_wrong : cw_ok m_X9_wrong := ⟨lg_in (i := 1408) rfl rfl, lg_in (i := 10) rfl rfl, ⟨by decide +kernel, by decide +kernel⟩, by decide⟩
theorem ar_X9_wrong : ar_ok m_X9_wrong 2 := by unfold ar_ok; decide +kernel
set_option maxRecDepth 100000 in
theorem im_X9_wrong : Cond.instanceMethod yX9_wrong ∈ lw_good := lg_in (i := 1406) rfl rfl
set_option maxRecDepth 100000 in
theorem se_X9_wrong : Cond.selects yX9_wrong.cls yX9_wrong yX9_wrong ∈ lw_good := lg_in (i := 1407) rfl rfl
set_option maxRecDepth 100000 in
theorem cw_X9_order : cw_ok m_X9_order := ⟨lg_in (i := 1420) rfl rfl, lg_in (i := 10) rfl rfl, ⟨by decide +kernel, by decide +kernel⟩, by decide⟩
theorem ar_X9_order : ar_ok m_X9_order 6 := by unfold ar_ok; decide +kernel
set_option maxRecDepth 100000 in
theorem im_X9_order : Cond.instanceMethod yX9_order ∈ lw_good := lg_in (i := 1418) rfl rfl
set_option maxRecDepth 100000 in
theorem se_X9_order : Cond.selects yX9_order.cls yX9_order yX9_order ∈ lw_good := lg_in (i := 1419) rfl rfl
set_option maxRecDepth 100000 in
theorem cw_X9_isOrder : cw_ok m_X9_isOrder := ⟨lg_in (i := 1428) rfl rfl, lg_in (i := 10) rfl rfl, ⟨by decide +kernel, by decide +kernel⟩, by decide⟩
theorem ar_X9_isOrder : ar_ok m_X9_isOrder 1 := by unfold ar_ok; decide +kernel
set_option maxRecDepth 100000 in
theorem im_X9_isOrder : Cond.instanceMethod yX9_isOrder ∈ lw_good := lg_in (i := 1427) rfl rfl
set_option maxRecDepth 100000 in
theorem se_X9_isOrder : Cond.selects yX9_isOrder.cls yX9_isOrder yX9_isOrder ∈ lw_good := lg_sel (i := 76) rfl rfl
set_option maxRecDepth 100000 in
theorem cw_X9_seatOf : cw_ok m_X9_seatOf := ⟨lg_in (i := 1432) rfl rfl, lg_in (i := 10) rfl rfl, ⟨by decide +kernel, by decide +kernel⟩, by decide⟩
theorem ar_X9_seatOf : ar_ok m_X9_seatOf 1 := by unfold ar_ok; decide +kernel
set_option maxRecDepth 100000 in
theorem im_X9_seatOf : Cond.instanceMethod yX9_seatOf ∈ lw_good := lg_in (i := 1431) rfl rfl
set_option maxRecDepth 100000 in
theorem se_X9_seatOf : Cond.selects yX9_seatOf.cls yX9_seatOf yX9_seatOf ∈ lw_good := lg_sel (i := 77) rfl rfl
set_option maxRecDepth 100000 in
theorem cw_X9_seat : cw_ok m_X9_seat := ⟨lg_in (i := 1424) rfl rfl, lg_in (i := 10) rfl rfl, ⟨by decide +kernel, by decide +kernel⟩, by decide⟩
theorem ar_X9_seat : ar_ok m_X9_seat 1 := by unfold ar_ok; decide +kernel
set_option maxRecDepth 100000 in
theorem im_X9_seat : Cond.instanceMethod yX9_seat ∈ lw_good := lg_in (i := 1422) rfl rfl
set_option maxRecDepth 100000 in
theorem se_X9_seat : Cond.selects yX9_seat.cls yX9_seat yX9_seat ∈ lw_good := lg_in (i := 1423) rfl rfl
set_option maxRecDepth 100000 in
theorem cw_X9_isLapsed : cw_ok m_X9_isLapsed := ⟨lg_in (i := 1444) rfl rfl, lg_in (i := 10) rfl rfl, ⟨by decide +kernel, by decide +kernel⟩, by decide⟩
theorem ar_X9_isLapsed : ar_ok m_X9_isLapsed 2 := by unfold ar_ok; decide +kernel
set_option maxRecDepth 100000 in
theorem im_X9_isLapsed : Cond.instanceMethod yX9_isLapsed ∈ lw_good := lg_in (i := 1443) rfl rfl
set_option maxRecDepth 100000 in
theorem se_X9_isLapsed : Cond.selects yX9_isLapsed.cls yX9_isLapsed yX9_isLapsed ∈ lw_good := lg_sel (i := 79) rfl rfl
set_option maxRecDepth 100000 in
theorem cw_X9_isInForce : cw_ok m_X9_isInForce := ⟨lg_in (i := 1440) rfl rfl, lg_in (i := 10) rfl rfl, ⟨by decide +kernel, by decide +kernel⟩, by decide⟩
theorem ar_X9_isInForce : ar_ok m_X9_isInForce 2 := by unfold ar_ok; decide +kernel
set_option maxRecDepth 100000 in
theorem im_X9_isInForce : Cond.instanceMethod yX9_isInForce ∈ lw_good := lg_in (i := 1439) rfl rfl
set_option maxRecDepth 100000 in
theorem se_X9_isInForce : Cond.selects yX9_isInForce.cls yX9_isInForce yX9_isInForce ∈ lw_good := lg_sel (i := 78) rfl rfl
set_option maxRecDepth 100000 in
theorem cw_X9_force : cw_ok m_X9_force := ⟨lg_in (i := 1436) rfl rfl, lg_in (i := 10) rfl rfl, ⟨by decide +kernel, by decide +kernel⟩, by decide⟩
theorem ar_X9_force : ar_ok m_X9_force 2 := by unfold ar_ok; decide +kernel
set_option maxRecDepth 100000 in
theorem im_X9_force : Cond.instanceMethod yX9_force ∈ lw_good := lg_in (i := 1434) rfl rfl
set_option maxRecDepth 100000 in
theorem se_X9_force : Cond.selects yX9_force.cls yX9_force yX9_force ∈ lw_good := lg_in (i := 1435) rfl rfl
set_option maxRecDepth 100000 in
theorem cw_X9_level : cw_ok m_X9_level := ⟨lg_in (i := 1456) rfl rfl, lg_in (i := 10) rfl rfl, ⟨by decide +kernel, by decide +kernel⟩, by decide⟩
theorem ar_X9_level : ar_ok m_X9_level 1 := by unfold ar_ok; decide +kernel
set_option maxRecDepth 100000 in
theorem im_X9_level : Cond.instanceMethod yX9_level ∈ lw_good := lg_in (i := 1455) rfl rfl
set_option maxRecDepth 100000 in
theorem se_X9_level : Cond.selects yX9_level.cls yX9_level yX9_level ∈ lw_good := lg_sel (i := 81) rfl rfl
set_option maxRecDepth 100000 in
theorem cw_X9_binding : cw_ok m_X9_binding := ⟨lg_in (i := 1452) rfl rfl, lg_in (i := 10) rfl rfl, ⟨by decide +kernel, by decide +kernel⟩, by decide⟩
theorem ar_X9_binding : ar_ok m_X9_binding 2 := by unfold ar_ok; decide +kernel
set_option maxRecDepth 100000 in
theorem im_X9_binding : Cond.instanceMethod yX9_binding ∈ lw_good := lg_in (i := 1451) rfl rfl
set_option maxRecDepth 100000 in
theorem se_X9_binding : Cond.selects yX9_binding.cls yX9_binding yX9_binding ∈ lw_good := lg_sel (i := 80) rfl rfl
set_option maxRecDepth 100000 in
theorem cw_X9_bound : cw_ok m_X9_bound := ⟨lg_in (i := 1448) rfl rfl, lg_in (i := 10) rfl rfl, ⟨by decide +kernel, by decide +kernel⟩, by decide⟩
theorem ar_X9_bound : ar_ok m_X9_bound 2 := by unfold ar_ok; decide +kernel
set_option maxRecDepth 100000 in
theorem im_X9_bound : Cond.instanceMethod yX9_bound ∈ lw_good := lg_in (i := 1446) rfl rfl
set_option maxRecDepth 100000 in
theorem se_X9_bound : Cond.selects yX9_bound.cls yX9_bound yX9_bound ∈ lw_good := lg_in (i := 1447) rfl rfl
set_option maxRecDepth 100000 in
theorem cw_X9_cross : cw_ok m_X9_cross := ⟨lg_in (i := 1460) rfl rfl, lg_in (i := 10) rfl rfl, ⟨by decide +kernel, by decide +kernel⟩, by decide⟩
theorem ar_X9_cross : ar_ok m_X9_cross 2 := by unfold ar_ok; decide +kernel
set_option maxRecDepth 100000 in
theorem im_X9_cross : Cond.instanceMethod yX9_cross ∈ lw_good := lg_in (i := 1458) rfl rfl
set_option maxRecDepth 100000 in
theorem se_X9_cross : Cond.selects yX9_cross.cls yX9_cross yX9_cross ∈ lw_good := lg_in (i := 1459) rfl rfl
set_option maxRecDepth 100000 in
theorem cw_X9_answers_ : cw_ok m_X9_answers_ := ⟨lg_in (i := 1464) rfl rfl, lg_in (i := 10) rfl rfl, ⟨by decide +kernel, by decide +kernel⟩, by decide⟩
theorem ar_X9_answers_ : ar_ok m_X9_answers_ 3 := by unfold ar_ok; decide +kernel
set_option maxRecDepth 100000 in
theorem im_X9_answers_ : Cond.instanceMethod yX9_answers_ ∈ lw_good := lg_in (i := 1462) rfl rfl
set_option maxRecDepth 100000 in
theorem se_X9_answers_ : Cond.selects yX9_answers_.cls yX9_answers_ yX9_answers_ ∈ lw_good := lg_in (i := 1463) rfl rfl
set_option maxRecDepth 100000 in
theorem cw_X9_gaps : cw_ok m_X9_gaps := ⟨lg_in (i := 1468) rfl rfl, lg_in (i := 10) rfl rfl, ⟨by decide +kernel, by decide +kernel⟩, by decide⟩
theorem ar_X9_gaps : ar_ok m_X9_gaps 4 := by unfold ar_ok; decide +kernel
set_option maxRecDepth 100000 in
theorem im_X9_gaps : Cond.instanceMethod yX9_gaps ∈ lw_good := lg_in (i := 1466) rfl rfl
set_option maxRecDepth 100000 in
theorem se_X9_gaps : Cond.selects yX9_gaps.cls yX9_gaps yX9_gaps ∈ lw_good := lg_in (i := 1467) rfl rfl
set_option maxRecDepth 100000 in
theorem cw_X9_bits : cw_ok m_X9_bits := ⟨lg_in (i := 1479) rfl rfl, lg_in (i := 10) rfl rfl, ⟨by decide +kernel, by decide +kernel⟩, by decide⟩
theorem ar_X9_bits : ar_ok m_X9_bits 1 := by unfold ar_ok; decide +kernel
set_option maxRecDepth 100000 in
theorem st_X9_bits : Cond.static yX9_bits ∈ lw_good := lg_in (i := 1478) rfl rfl
set_option maxRecDepth 100000 in
theorem cw_X9_doubted : cw_ok m_X9_doubted := ⟨lg_in (i := 1476) rfl rfl, lg_in (i := 10) rfl rfl, ⟨by decide +kernel, by decide +kernel⟩, by decide⟩
theorem ar_X9_doubted : ar_ok m_X9_doubted 2 := by unfold ar_ok; decide +kernel
set_option maxRecDepth 100000 in
theorem im_X9_doubted : Cond.instanceMethod yX9_doubted ∈ lw_good := lg_in (i := 1475) rfl rfl
set_option maxRecDepth 100000 in
theorem se_X9_doubted : Cond.selects yX9_doubted.cls yX9_doubted yX9_doubted ∈ lw_good := lg_sel (i := 82) rfl rfl
set_option maxRecDepth 100000 in
theorem cw_X9_doubt : cw_ok m_X9_doubt := ⟨lg_in (i := 1472) rfl rfl, lg_in (i := 10) rfl rfl, ⟨by decide +kernel, by decide +kernel⟩, by decide⟩
theorem ar_X9_doubt : ar_ok m_X9_doubt 3 := by unfold ar_ok; decide +kernel
set_option maxRecDepth 100000 in
theorem im_X9_doubt : Cond.instanceMethod yX9_doubt ∈ lw_good := lg_in (i := 1470) rfl rfl
set_option maxRecDepth 100000 in
theorem se_X9_doubt : Cond.selects yX9_doubt.cls yX9_doubt yX9_doubt ∈ lw_good := lg_in (i := 1471) rfl rfl
set_option maxRecDepth 100000 in
theorem cw_X9_allied : cw_ok m_X9_allied := ⟨lg_in (i := 1483) rfl rfl, lg_in (i := 10) rfl rfl, ⟨by decide +kernel, by decide +kernel⟩, by decide⟩
theorem ar_X9_allied : ar_ok m_X9_allied 4 := by unfold ar_ok; decide +kernel
set_option maxRecDepth 100000 in
theorem im_X9_allied : Cond.instanceMethod yX9_allied ∈ lw_good := lg_in (i := 1481) rfl rfl
set_option maxRecDepth 100000 in
theorem se_X9_allied : Cond.selects yX9_allied.cls yX9_allied yX9_allied ∈ lw_good := lg_in (i := 1482) rfl rfl
set_option maxRecDepth 100000 in
theorem cw_X9_mended : cw_ok m_X9_mended := ⟨lg_in (i := 1487) rfl rfl, lg_in (i := 10) rfl rfl, ⟨by decide +kernel, by decide +kernel⟩, by decide⟩
theorem ar_X9_mended : ar_ok m_X9_mended 3 := by unfold ar_ok; decide +kernel
set_option maxRecDepth 100000 in
theorem im_X9_mended : Cond.instanceMethod yX9_mended ∈ lw_good := lg_in (i := 1485) rfl rfl
set_option maxRecDepth 100000 in
theorem se_X9_mended : Cond.selects yX9_mended.cls yX9_mended yX9_mended ∈ lw_good := lg_in (i := 1486) rfl rfl
set_option maxRecDepth 100000 in
theorem cw_X9_judge : cw_ok m_X9_judge := ⟨lg_in (i := 1491) rfl rfl, lg_in (i := 10) rfl rfl, ⟨by decide +kernel, by decide +kernel⟩, by decide⟩
theorem ar_X9_judge : ar_ok m_X9_judge 4 := by unfold ar_ok; decide +kernel
set_option maxRecDepth 100000 in
theorem im_X9_judge : Cond.instanceMethod yX9_judge ∈ lw_good := lg_in (i := 1489) rfl rfl
set_option maxRecDepth 100000 in
theorem se_X9_judge : Cond.selects yX9_judge.cls yX9_judge yX9_judge ∈ lw_good := lg_in (i := 1490) rfl rfl
set_option maxRecDepth 100000 in
theorem cw_X9_hangs : cw_ok m_X9_hangs := ⟨lg_in (i := 1495) rfl rfl, lg_in (i := 10) rfl rfl, ⟨by decide +kernel, by decide +kernel⟩, by decide⟩
theorem ar_X9_hangs : ar_ok m_X9_hangs 3 := by unfold ar_ok; decide +kernel
set_option maxRecDepth 100000 in
theorem im_X9_hangs : Cond.instanceMethod yX9_hangs ∈ lw_good := lg_in (i := 1493) rfl rfl
set_option maxRecDepth 100000 in
theorem se_X9_hangs : Cond.selects yX9_hangs.cls yX9_hangs yX9_hangs ∈ lw_good := lg_in (i := 1494) rfl rfl
set_option maxRecDepth 100000 in
theorem cw_X9_brief : cw_ok m_X9_brief := ⟨lg_in (i := 1499) rfl rfl, lg_in (i := 10) rfl rfl, ⟨by decide +kernel, by decide +kernel⟩, by decide⟩
theorem ar_X9_brief : ar_ok m_X9_brief 4 := by unfold ar_ok; decide +kernel
set_option maxRecDepth 100000 in
theorem im_X9_brief : Cond.instanceMethod yX9_brief ∈ lw_good := lg_in (i := 1497) rfl rfl
set_option maxRecDepth 100000 in
theorem se_X9_brief : Cond.selects yX9_brief.cls yX9_brief yX9_brief ∈ lw_good := lg_in (i := 1498) rfl rfl
set_option maxRecDepth 100000 in
theorem cw_X9_fights : cw_ok m_X9_fights := ⟨lg_in (i := 1504) rfl rfl, lg_in (i := 10) rfl rfl, ⟨by decide +kernel, by decide +kernel⟩, by decide⟩
theorem ar_X9_fights : ar_ok m_X9_fights 6 := by unfold ar_ok; decide +kernel
set_option maxRecDepth 100000 in
theorem im_X9_fights : Cond.instanceMethod yX9_fights ∈ lw_good := lg_in (i := 1502) rfl rfl
set_option maxRecDepth 100000 in
theorem se_X9_fights : Cond.selects yX9_fights.cls yX9_fights yX9_fights ∈ lw_good := lg_in (i := 1503) rfl rfl
set_option maxRecDepth 100000 in
theorem cw_X9_carry : cw_ok m_X9_carry := ⟨lg_in (i := 1522) rfl rfl, lg_in (i := 10) rfl rfl, ⟨by decide +kernel, by decide +kernel⟩, by decide⟩
theorem ar_X9_carry : ar_ok m_X9_carry 1 := by unfold ar_ok; decide +kernel
set_option maxRecDepth 100000 in
theorem im_X9_carry : Cond.instanceMethod yX9_carry ∈ lw_good := lg_in (i := 1521) rfl rfl
set_option maxRecDepth 100000 in
theorem se_X9_carry : Cond.selects yX9_carry.cls yX9_carry yX9_carry ∈ lw_good := lg_sel (i := 84) rfl rfl
set_option maxRecDepth 100000 in
theorem cw_X9_carries : cw_ok m_X9_carries := ⟨lg_in (i := 1518) rfl rfl, lg_in (i := 10) rfl rfl, ⟨by decide +kernel, by decide +kernel⟩, by decide⟩
theorem ar_X9_carries : ar_ok m_X9_carries 1 := by unfold ar_ok; decide +kernel
set_option maxRecDepth 100000 in
theorem im_X9_carries : Cond.instanceMethod yX9_carries ∈ lw_good := lg_in (i := 1517) rfl rfl
set_option maxRecDepth 100000 in
theorem se_X9_carries : Cond.selects yX9_carries.cls yX9_carries yX9_carries ∈ lw_good := lg_sel (i := 83) rfl rfl
set_option maxRecDepth 100000 in
theorem cw_X9_mark : cw_ok m_X9_mark := ⟨lg_in (i := 1514) rfl rfl, lg_in (i := 10) rfl rfl, ⟨by decide +kernel, by decide +kernel⟩, by decide⟩
theorem ar_X9_mark : ar_ok m_X9_mark 1 := by unfold ar_ok; decide +kernel
set_option maxRecDepth 100000 in
theorem im_X9_mark : Cond.instanceMethod yX9_mark ∈ lw_good := lg_in (i := 1512) rfl rfl
set_option maxRecDepth 100000 in
theorem se_X9_mark : Cond.selects yX9_mark.cls yX9_mark yX9_mark ∈ lw_good := lg_in (i := 1513) rfl rfl
set_option maxRecDepth 100000 in
theorem cw_X9_back : cw_ok m_X9_back := ⟨lg_in (i := 1526) rfl rfl, lg_in (i := 10) rfl rfl, ⟨by decide +kernel, by decide +kernel⟩, by decide⟩
theorem ar_X9_back : ar_ok m_X9_back 1 := by unfold ar_ok; decide +kernel
set_option maxRecDepth 100000 in
theorem im_X9_back : Cond.instanceMethod yX9_back ∈ lw_good := lg_in (i := 1524) rfl rfl
set_option maxRecDepth 100000 in
theorem se_X9_back : Cond.selects yX9_back.cls yX9_back yX9_back ∈ lw_good := lg_in (i := 1525) rfl rfl
set_option maxRecDepth 100000 in
theorem cw_X9_count : cw_ok m_X9_count := ⟨lg_in (i := 1530) rfl rfl, lg_in (i := 10) rfl rfl, ⟨by decide +kernel, by decide +kernel⟩, by decide⟩
theorem ar_X9_count : ar_ok m_X9_count 1 := by unfold ar_ok; decide +kernel
set_option maxRecDepth 100000 in
theorem im_X9_count : Cond.instanceMethod yX9_count ∈ lw_good := lg_in (i := 1528) rfl rfl
set_option maxRecDepth 100000 in
theorem se_X9_count : Cond.selects yX9_count.cls yX9_count yX9_count ∈ lw_good := lg_in (i := 1529) rfl rfl
set_option maxRecDepth 100000 in
theorem cw_J6_bitCount_0f7a4 : cw_ok m_J6_bitCount_0f7a4 := ⟨lg_in (i := 818) rfl rfl, lg_in (i := 18) rfl rfl, ⟨by decide +kernel, by decide +kernel⟩, by decide⟩
theorem ar_J6_bitCount_0f7a4 : ar_ok m_J6_bitCount_0f7a4 1 := by unfold ar_ok; decide +kernel
set_option maxRecDepth 100000 in
theorem st_J6_bitCount_0f7a4 : Cond.static yJ6_bitCount_0f7a4 ∈ lw_good := lg_in (i := 817) rfl rfl
set_option maxRecDepth 100000 in
theorem cw_J9_abs_0f7a4 : cw_ok m_J9_abs_0f7a4 := ⟨lg_in (i := 363) rfl rfl, lg_in (i := 4) rfl rfl, ⟨by decide +kernel, by decide +kernel⟩, by decide⟩
theorem ar_J9_abs_0f7a4 : ar_ok m_J9_abs_0f7a4 1 := by unfold ar_ok; decide +kernel
set_option maxRecDepth 100000 in
theorem st_J9_abs_0f7a4 : Cond.static yJ9_abs_0f7a4 ∈ lw_good := lg_in (i := 362) rfl rfl
set_option maxRecDepth 100000 in
theorem cw_J9_max_7cf53 : cw_ok m_J9_max_7cf53 := ⟨lg_in (i := 41) rfl rfl, lg_in (i := 4) rfl rfl, ⟨by decide +kernel, by decide +kernel⟩, by decide⟩
theorem ar_J9_max_7cf53 : ar_ok m_J9_max_7cf53 2 := by unfold ar_ok; decide +kernel
set_option maxRecDepth 100000 in
theorem st_J9_max_7cf53 : Cond.static yJ9_max_7cf53 ∈ lw_good := lg_in (i := 40) rfl rfl
set_option maxRecDepth 100000 in
theorem cw_J9_min_7cf53 : cw_ok m_J9_min_7cf53 := ⟨lg_in (i := 428) rfl rfl, lg_in (i := 4) rfl rfl, ⟨by decide +kernel, by decide +kernel⟩, by decide⟩
theorem ar_J9_min_7cf53 : ar_ok m_J9_min_7cf53 2 := by unfold ar_ok; decide +kernel
set_option maxRecDepth 100000 in
theorem st_J9_min_7cf53 : Cond.static yJ9_min_7cf53 ∈ lw_good := lg_in (i := 427) rfl rfl
set_option maxRecDepth 100000 in
theorem cw_J0_length_8abf5 : cw_ok m_J0_length_8abf5 := ⟨lg_in (i := 447) rfl rfl, lg_in (i := 12) rfl rfl, ⟨by decide +kernel, by decide +kernel⟩, by decide⟩
theorem ar_J0_length_8abf5 : ar_ok m_J0_length_8abf5 0 := by unfold ar_ok; decide +kernel
set_option maxRecDepth 100000 in
theorem im_J0_length_8abf5 : Cond.instanceMethod yJ0_length_8abf5 ∈ lw_good := lg_in (i := 445) rfl rfl
set_option maxRecDepth 100000 in
theorem se_J0_length_8abf5 : Cond.selects yJ0_length_8abf5.cls yJ0_length_8abf5 yJ0_length_8abf5 ∈ lw_good := lg_in (i := 446) rfl rfl
set_option maxRecDepth 100000 in
theorem cw_J0_charAt_5068e : cw_ok m_J0_charAt_5068e := ⟨lg_in (i := 457) rfl rfl, lg_in (i := 12) rfl rfl, ⟨by decide +kernel, by decide +kernel⟩, by decide⟩
theorem ar_J0_charAt_5068e : ar_ok m_J0_charAt_5068e 1 := by unfold ar_ok; decide +kernel
set_option maxRecDepth 100000 in
theorem im_J0_charAt_5068e : Cond.instanceMethod yJ0_charAt_5068e ∈ lw_good := lg_in (i := 455) rfl rfl
set_option maxRecDepth 100000 in
theorem se_J0_charAt_5068e : Cond.selects yJ0_charAt_5068e.cls yJ0_charAt_5068e yJ0_charAt_5068e ∈ lw_good := lg_in (i := 456) rfl rfl
set_option maxRecDepth 100000 in
theorem cw_J0_coder_7d493 : cw_ok m_J0_coder_7d493 := ⟨lg_in (i := 451) rfl rfl, lg_in (i := 12) rfl rfl, ⟨by decide +kernel, by decide +kernel⟩, by decide⟩
theorem ar_J0_coder_7d493 : ar_ok m_J0_coder_7d493 0 := by unfold ar_ok; decide +kernel
set_option maxRecDepth 100000 in
theorem im_J0_coder_7d493 : Cond.instanceMethod yJ0_coder_7d493 ∈ lw_good := lg_in (i := 449) rfl rfl
set_option maxRecDepth 100000 in
theorem se_J0_coder_7d493 : Cond.selects yJ0_coder_7d493.cls yJ0_coder_7d493 yJ0_coder_7d493 ∈ lw_good := lg_in (i := 450) rfl rfl
set_option maxRecDepth 100000 in
theorem cw_J0_isLatin1_aae02 : cw_ok m_J0_isLatin1_aae02 := ⟨lg_in (i := 461) rfl rfl, lg_in (i := 12) rfl rfl, ⟨by decide +kernel, by decide +kernel⟩, by decide⟩
theorem ar_J0_isLatin1_aae02 : ar_ok m_J0_isLatin1_aae02 0 := by unfold ar_ok; decide +kernel
set_option maxRecDepth 100000 in
theorem im_J0_isLatin1_aae02 : Cond.instanceMethod yJ0_isLatin1_aae02 ∈ lw_good := lg_in (i := 459) rfl rfl
set_option maxRecDepth 100000 in
theorem se_J0_isLatin1_aae02 : Cond.selects yJ0_isLatin1_aae02.cls yJ0_isLatin1_aae02 yJ0_isLatin1_aae02 ∈ lw_good := lg_in (i := 460) rfl rfl
set_option maxRecDepth 100000 in
theorem cw_J0_checkIndex_df160 : cw_ok m_J0_checkIndex_df160 := ⟨lg_in (i := 467) rfl rfl, lg_in (i := 12) rfl rfl, ⟨by decide +kernel, by decide +kernel⟩, by decide⟩
theorem ar_J0_checkIndex_df160 : ar_ok m_J0_checkIndex_df160 2 := by unfold ar_ok; decide +kernel
set_option maxRecDepth 100000 in
theorem st_J0_checkIndex_df160 : Cond.static yJ0_checkIndex_df160 ∈ lw_good := lg_in (i := 466) rfl rfl
set_option maxRecDepth 100000 in
theorem cw_J1_charAt_3b067 : cw_ok m_J1_charAt_3b067 := ⟨lg_in (i := 464) rfl rfl, lg_in (i := 13) rfl rfl, ⟨by decide +kernel, by decide +kernel⟩, by decide⟩
theorem ar_J1_charAt_3b067 : ar_ok m_J1_charAt_3b067 2 := by unfold ar_ok; decide +kernel
set_option maxRecDepth 100000 in
theorem st_J1_charAt_3b067 : Cond.static yJ1_charAt_3b067 ∈ lw_good := lg_in (i := 463) rfl rfl
set_option maxRecDepth 100000 in
theorem cw_J2_getChar_3b067 : cw_ok m_J2_getChar_3b067 := ⟨lg_in (i := 485) rfl rfl, lg_in (i := 15) rfl rfl, ⟨by decide +kernel, by decide +kernel⟩, by decide⟩
theorem ar_J2_getChar_3b067 : ar_ok m_J2_getChar_3b067 2 := by unfold ar_ok; decide +kernel
set_option maxRecDepth 100000 in
theorem st_J2_getChar_3b067 : Cond.static yJ2_getChar_3b067 ∈ lw_good := lg_in (i := 484) rfl rfl
set_option maxRecDepth 100000 in
theorem cw_J2_length_9d52b : cw_ok m_J2_length_9d52b := ⟨lg_in (i := 481) rfl rfl, lg_in (i := 15) rfl rfl, ⟨by decide +kernel, by decide +kernel⟩, by decide⟩
theorem ar_J2_length_9d52b : ar_ok m_J2_length_9d52b 1 := by unfold ar_ok; decide +kernel
set_option maxRecDepth 100000 in
theorem st_J2_length_9d52b : Cond.static yJ2_length_9d52b ∈ lw_good := lg_in (i := 480) rfl rfl
set_option maxRecDepth 100000 in
theorem cw_J2_charAt_3b067 : cw_ok m_J2_charAt_3b067 := ⟨lg_in (i := 475) rfl rfl, lg_in (i := 15) rfl rfl, ⟨by decide +kernel, by decide +kernel⟩, by decide⟩
theorem ar_J2_charAt_3b067 : ar_ok m_J2_charAt_3b067 2 := by unfold ar_ok; decide +kernel
set_option maxRecDepth 100000 in
theorem st_J2_charAt_3b067 : Cond.static yJ2_charAt_3b067 ∈ lw_good := lg_in (i := 474) rfl rfl
set_option maxRecDepth 100000 in
theorem cw_J2_checkIndex_2214a : cw_ok m_J2_checkIndex_2214a := ⟨lg_in (i := 478) rfl rfl, lg_in (i := 15) rfl rfl, ⟨by decide +kernel, by decide +kernel⟩, by decide⟩
theorem ar_J2_checkIndex_2214a : ar_ok m_J2_checkIndex_2214a 2 := by unfold ar_ok; decide +kernel
set_option maxRecDepth 100000 in
theorem st_J2_checkIndex_2214a : Cond.static yJ2_checkIndex_2214a ∈ lw_good := lg_in (i := 477) rfl rfl
set_option maxRecDepth 100000 in
theorem cw_J7_fill_53178 : cw_ok m_J7_fill_53178 := ⟨lg_in (i := 334) rfl rfl, lg_in (i := 11) rfl rfl, ⟨by decide +kernel, by decide +kernel⟩, by decide⟩
theorem ar_J7_fill_53178 : ar_ok m_J7_fill_53178 2 := by unfold ar_ok; decide +kernel
set_option maxRecDepth 100000 in
theorem st_J7_fill_53178 : Cond.static yJ7_fill_53178 ∈ lw_good := lg_in (i := 333) rfl rfl
set_option maxRecDepth 100000 in
theorem cw_J7_copyOf_59c91 : cw_ok m_J7_copyOf_59c91 := ⟨lg_in (i := 556) rfl rfl, lg_in (i := 11) rfl rfl, ⟨by decide +kernel, by decide +kernel⟩, by decide⟩
theorem ar_J7_copyOf_59c91 : ar_ok m_J7_copyOf_59c91 2 := by unfold ar_ok; decide +kernel
set_option maxRecDepth 100000 in
theorem st_J7_copyOf_59c91 : Cond.static yJ7_copyOf_59c91 ∈ lw_good := lg_in (i := 555) rfl rfl
set_option maxRecDepth 100000 in
theorem cw_J3_checkIndex_8e157 : cw_ok m_J3_checkIndex_8e157 := ⟨lg_in (i := 472) rfl rfl, lg_in (i := 14) rfl rfl, ⟨by decide +kernel, by decide +kernel⟩, by decide⟩
theorem ar_J3_checkIndex_8e157 : ar_ok m_J3_checkIndex_8e157 3 := by unfold ar_ok; decide +kernel
set_option maxRecDepth 100000 in
theorem st_J3_checkIndex_8e157 : Cond.static yJ3_checkIndex_8e157 ∈ lw_good := lg_in (i := 471) rfl rfl
def mS_ : List (Nat × Nat) := [(10, 3), (16, 3), (29, 1), (30, 1), (31, 1), (32, 1), (33, 3), (39, 1), (57, 3), (109, 2), (110, 1), (111, 2), (112, 2), (113, 2), (126, 3), (127, 1), (136, 2), (146, 1), (147, 1), (148, 1), (169, 1), (170, 3), (176, 2), (213, 1), (227, 1), (228, 1), (229, 2), (230, 2), (235, 2), (236, 2), (237, 2), (238, 1), (239, 2), (240, 2), (241, 2), (242, 2), (243, 3)]
def mV_ : List (Nat × Nat × Nat) := [(1, 3, 1), (2, 4, 1), (3, 2, 1), (4, 3, 1), (5, 2, 1), (6, 3, 1), (7, 1, 1), (8, 3, 1), (9, 3, 1), (11, 2, 1), (13, 3, 2), (14, 2, 2), (15, 3, 2), (17, 3, 2), (18, 2, 2), (19, 2, 2), (20, 2, 2), (21, 2, 2), (22, 1, 2), (25, 2, 4), (26, 2, 4), (27, 3, 4), (28, 3, 4), (34, 0, 4), (35, 1, 4), (36, 1, 4), (37, 0, 4), (38, 0, 4), (40, 1, 4), (41, 1, 4), (42, 0, 4), (43, 0, 4), (44, 0, 4), (46, 2, 5), (47, 3, 5), (48, 3, 5), (50, 2, 6), (51, 3, 6), (52, 1, 6), (53, 2, 6), (54, 2, 6), (55, 3, 6), (56, 2, 6), (59, 1, 7), (60, 2, 7), (61, 3, 7), (62, 0, 7), (63, 1, 7), (65, 1, 8), (66, 2, 8), (67, 0, 8), (68, 3, 8), (69, 1, 8), (70, 2, 8), (71, 2, 8), (73, 4, 9), (74, 5, 9), (75, 4, 9), (76, 3, 9), (77, 4, 9), (78, 2, 9), (79, 2, 9), (80, 5, 9), (81, 1, 9), (82, 0, 9), (83, 2, 9), (84, 2, 9), (85, 2, 9), (86, 5, 9), (87, 4, 9), (88, 1, 9), (89, 4, 9), (90, 3, 9), (91, 2, 9), (92, 6, 9), (93, 1, 9), (94, 2, 9), (95, 2, 9), (96, 2, 9), (97, 3, 9), (98, 4, 9), (99, 3, 9), (100, 4, 9), (101, 6, 9), (102, 4, 9), (103, 3, 9), (104, 4, 9), (105, 3, 9), (106, 1, 9), (107, 1, 9), (108, 1, 9), (114, 2, 9), (115, 1, 9), (116, 1, 9), (117, 2, 9), (118, 3, 9), (119, 1, 9), (120, 1, 9), (121, 0, 9), (122, 1, 9), (123, 2, 9), (124, 2, 9), (128, 1, 10), (129, 1, 10), (130, 4, 10), (131, 5, 10), (132, 4, 10), (133, 2, 10), (134, 2, 10), (135, 2, 10), (137, 3, 10), (138, 3, 10), (139, 4, 10), (140, 2, 10), (141, 2, 10), (142, 2, 10), (143, 5, 10), (144, 1, 10), (145, 1, 10), (149, 2, 10), (150, 0, 10), (151, 0, 10), (152, 0, 10), (153, 1, 10), (154, 1, 10), (155, 2, 10), (156, 1, 10), (157, 1, 10), (158, 0, 10), (159, 0, 10), (160, 0, 10), (161, 0, 10), (162, 1, 10), (163, 1, 10), (164, 0, 10), (165, 0, 10), (166, 1, 10), (167, 0, 10), (168, 2, 10), (171, 3, 10), (172, 1, 10), (173, 3, 10), (174, 2, 10), (175, 3, 10), (177, 4, 10), (178, 3, 10), (179, 3, 10), (180, 2, 10), (181, 2, 10), (182, 2, 10), (183, 2, 10), (184, 2, 10), (185, 2, 10), (186, 5, 10), (187, 4, 10), (188, 1, 10), (189, 4, 10), (190, 3, 10), (191, 2, 10), (192, 3, 10), (193, 4, 10), (194, 0, 10), (195, 2, 10), (196, 3, 10), (197, 2, 10), (198, 2, 10), (199, 2, 10), (200, 6, 10), (201, 1, 10), (202, 1, 10), (203, 1, 10), (204, 2, 10), (205, 2, 10), (206, 2, 10), (207, 1, 10), (208, 2, 10), (209, 2, 10), (210, 2, 10), (211, 3, 10), (212, 4, 10), (214, 2, 10), (215, 3, 10), (216, 4, 10), (217, 3, 10), (218, 4, 10), (219, 3, 10), (220, 4, 10), (221, 6, 10), (222, 1, 10), (223, 1, 10), (224, 1, 10), (225, 1, 10), (226, 1, 10), (231, 0, 40), (232, 1, 40), (233, 0, 40), (234, 0, 40)]
def mI_ : List (Nat × Nat) := [(0, 0), (12, 0), (23, 1), (24, 0), (45, 0), (49, 0), (58, 2), (64, 0), (72, 0), (125, 0)]
set_option maxRecDepth 100000 in
theorem mS_ok : ∀ q ∈ mS_, cw_ok (mtab q.1) ∧ Cond.static (mtab q.1).1 ∈ lw_good ∧ ar_ok (mtab q.1) q.2 := List.forall_mem_cons.mpr ⟨⟨cw_X0_joined, st_X0_joined, ar_X0_joined⟩, List.forall_mem_cons.mpr ⟨⟨cw_X1_note, st_X1_note, ar_X1_note⟩, List.forall_mem_cons.mpr ⟨⟨cw_X3_isLetter, st_X3_isLetter, ar_X3_isLetter⟩, List.forall_mem_cons.mpr ⟨⟨cw_X3_isDigit, st_X3_isDigit, ar_X3_isDigit⟩, List.forall_mem_cons.mpr ⟨⟨cw_X3_wideSignKind, st_X3_wideSignKind, ar_X3_wideSignKind⟩, List.forall_mem_cons.mpr ⟨⟨cw_X3_signKind, st_X3_signKind, ar_X3_signKind⟩, List.forall_mem_cons.mpr ⟨⟨cw_X3_wordKind, st_X3_wordKind, ar_X3_wordKind⟩, List.forall_mem_cons.mpr ⟨⟨cw_X3_isKey, st_X3_isKey, ar_X3_isKey⟩, List.forall_mem_cons.mpr ⟨⟨cw_X5_fits, st_X5_fits, ar_X5_fits⟩, List.forall_mem_cons.mpr ⟨⟨cw_X8_isIn, st_X8_isIn, ar_X8_isIn⟩, List.forall_mem_cons.mpr ⟨⟨cw_X8_isMinute, st_X8_isMinute, ar_X8_isMinute⟩, List.forall_mem_cons.mpr ⟨⟨cw_X8_isSpot, st_X8_isSpot, ar_X8_isSpot⟩, List.forall_mem_cons.mpr ⟨⟨cw_X8_hasBit, st_X8_hasBit, ar_X8_hasBit⟩, List.forall_mem_cons.mpr ⟨⟨cw_X8_isSpan, st_X8_isSpan, ar_X8_isSpan⟩, List.forall_mem_cons.mpr ⟨⟨cw_X9_in, st_X9_in, ar_X9_in⟩, List.forall_mem_cons.mpr ⟨⟨cw_X9_isMinute, st_X9_isMinute, ar_X9_isMinute⟩, List.forall_mem_cons.mpr ⟨⟨cw_X9_apart, st_X9_apart, ar_X9_apart⟩, List.forall_mem_cons.mpr ⟨⟨cw_X9_wordOf, st_X9_wordOf, ar_X9_wordOf⟩, List.forall_mem_cons.mpr ⟨⟨cw_X9_clauseOf, st_X9_clauseOf, ar_X9_clauseOf⟩, List.forall_mem_cons.mpr ⟨⟨cw_X9_keyName, st_X9_keyName, ar_X9_keyName⟩, List.forall_mem_cons.mpr ⟨⟨cw_X9_truth, st_X9_truth, ar_X9_truth⟩, List.forall_mem_cons.mpr ⟨⟨cw_X9_both, st_X9_both, ar_X9_both⟩, List.forall_mem_cons.mpr ⟨⟨cw_X9_keyed, st_X9_keyed, ar_X9_keyed⟩, List.forall_mem_cons.mpr ⟨⟨cw_X9_bits, st_X9_bits, ar_X9_bits⟩, List.forall_mem_cons.mpr ⟨⟨cw_J6_bitCount_0f7a4, st_J6_bitCount_0f7a4, ar_J6_bitCount_0f7a4⟩, List.forall_mem_cons.mpr ⟨⟨cw_J9_abs_0f7a4, st_J9_abs_0f7a4, ar_J9_abs_0f7a4⟩, List.forall_mem_cons.mpr ⟨⟨cw_J9_max_7cf53, st_J9_max_7cf53, ar_J9_max_7cf53⟩, List.forall_mem_cons.mpr ⟨⟨cw_J9_min_7cf53, st_J9_min_7cf53, ar_J9_min_7cf53⟩, List.forall_mem_cons.mpr ⟨⟨cw_J0_checkIndex_df160, st_J0_checkIndex_df160, ar_J0_checkIndex_df160⟩, List.forall_mem_cons.mpr ⟨⟨cw_J1_charAt_3b067, st_J1_charAt_3b067, ar_J1_charAt_3b067⟩, List.forall_mem_cons.mpr ⟨⟨cw_J2_getChar_3b067, st_J2_getChar_3b067, ar_J2_getChar_3b067⟩, List.forall_mem_cons.mpr ⟨⟨cw_J2_length_9d52b, st_J2_length_9d52b, ar_J2_length_9d52b⟩, List.forall_mem_cons.mpr ⟨⟨cw_J2_charAt_3b067, st_J2_charAt_3b067, ar_J2_charAt_3b067⟩, List.forall_mem_cons.mpr ⟨⟨cw_J2_checkIndex_2214a, st_J2_checkIndex_2214a, ar_J2_checkIndex_2214a⟩, List.forall_mem_cons.mpr ⟨⟨cw_J7_fill_53178, st_J7_fill_53178, ar_J7_fill_53178⟩, List.forall_mem_cons.mpr ⟨⟨cw_J7_copyOf_59c91, st_J7_copyOf_59c91, ar_J7_copyOf_59c91⟩, List.forall_mem_cons.mpr ⟨⟨cw_J3_checkIndex_8e157, st_J3_checkIndex_8e157, ar_J3_checkIndex_8e157⟩, (fun _ h => absurd h List.not_mem_nil)⟩⟩⟩⟩⟩⟩⟩⟩⟩⟩⟩⟩⟩⟩⟩⟩⟩⟩⟩⟩⟩⟩⟩⟩⟩⟩⟩⟩⟩⟩⟩⟩⟩⟩⟩⟩⟩
set_option maxRecDepth 100000 in
theorem mV_ok : ∀ q ∈ mV_, cw_ok (mtab q.1) ∧ Cond.instanceMethod (mtab q.1).1 ∈ lw_good ∧ Cond.selects (mtab q.1).1.cls (mtab q.1).1 (mtab q.1).1 ∈ lw_good ∧ ar_ok (mtab q.1) q.2.1 ∧ ((∃ (ci : Nat) (r : vw_C), vwCl[ci]? = some r ∧ q.2.2 = ci + 1 ∧ (mtab q.1).1.cls = r.1) ∨ (q.2.2 = 40 ∧ (mtab q.1).1.cls = "java/lang/String")) := List.forall_mem_cons.mpr ⟨⟨cw_X0_gather, im_X0_gather, se_X0_gather, ar_X0_gather, Or.inl ⟨0, (RX0, TX0, 6), rfl, rfl, rfl⟩⟩, List.forall_mem_cons.mpr ⟨⟨cw_X0_gatherOne, im_X0_gatherOne, se_X0_gatherOne, ar_X0_gatherOne, Or.inl ⟨0, (RX0, TX0, 6), rfl, rfl, rfl⟩⟩, List.forall_mem_cons.mpr ⟨⟨cw_X0_gatherList, im_X0_gatherList, se_X0_gatherList, ar_X0_gatherList, Or.inl ⟨0, (RX0, TX0, 6), rfl, rfl, rfl⟩⟩, List.forall_mem_cons.mpr ⟨⟨cw_X0_gatherPapers, im_X0_gatherPapers, se_X0_gatherPapers, ar_X0_gatherPapers, Or.inl ⟨0, (RX0, TX0, 6), rfl, rfl, rfl⟩⟩, List.forall_mem_cons.mpr ⟨⟨cw_X0_get, im_X0_get, se_X0_get, ar_X0_get, Or.inl ⟨0, (RX0, TX0, 6), rfl, rfl, rfl⟩⟩, List.forall_mem_cons.mpr ⟨⟨cw_X0_set, im_X0_set, se_X0_set, ar_X0_set, Or.inl ⟨0, (RX0, TX0, 6), rfl, rfl, rfl⟩⟩, List.forall_mem_cons.mpr ⟨⟨cw_X0_trueForm, im_X0_trueForm, se_X0_trueForm, ar_X0_trueForm, Or.inl ⟨0, (RX0, TX0, 6), rfl, rfl, rfl⟩⟩, List.forall_mem_cons.mpr ⟨⟨cw_X0_anyHolds, im_X0_anyHolds, se_X0_anyHolds, ar_X0_anyHolds, Or.inl ⟨0, (RX0, TX0, 6), rfl, rfl, rfl⟩⟩, List.forall_mem_cons.mpr ⟨⟨cw_X0_holds, im_X0_holds, se_X0_holds, ar_X0_holds, Or.inl ⟨0, (RX0, TX0, 6), rfl, rfl, rfl⟩⟩, List.forall_mem_cons.mpr ⟨⟨cw_X0_keyValue, im_X0_keyValue, se_X0_keyValue, ar_X0_keyValue, Or.inl ⟨0, (RX0, TX0, 6), rfl, rfl, rfl⟩⟩, List.forall_mem_cons.mpr ⟨⟨cw_X1_learn, im_X1_learn, se_X1_learn, ar_X1_learn, Or.inl ⟨1, (RX1, TX1, 5), rfl, rfl, rfl⟩⟩, List.forall_mem_cons.mpr ⟨⟨cw_X1_witness, im_X1_witness, se_X1_witness, ar_X1_witness, Or.inl ⟨1, (RX1, TX1, 5), rfl, rfl, rfl⟩⟩, List.forall_mem_cons.mpr ⟨⟨cw_X1_hear, im_X1_hear, se_X1_hear, ar_X1_hear, Or.inl ⟨1, (RX1, TX1, 5), rfl, rfl, rfl⟩⟩, List.forall_mem_cons.mpr ⟨⟨cw_X1_learnHolders, im_X1_learnHolders, se_X1_learnHolders, ar_X1_learnHolders, Or.inl ⟨1, (RX1, TX1, 5), rfl, rfl, rfl⟩⟩, List.forall_mem_cons.mpr ⟨⟨cw_X1_watch, im_X1_watch, se_X1_watch, ar_X1_watch, Or.inl ⟨1, (RX1, TX1, 5), rfl, rfl, rfl⟩⟩, List.forall_mem_cons.mpr ⟨⟨cw_X1_isFallKnown, im_X1_isFallKnown, se_X1_isFallKnown, ar_X1_isFallKnown, Or.inl ⟨1, (RX1, TX1, 5), rfl, rfl, rfl⟩⟩, List.forall_mem_cons.mpr ⟨⟨cw_X1_isPaperKnown, im_X1_isPaperKnown, se_X1_isPaperKnown, ar_X1_isPaperKnown, Or.inl ⟨1, (RX1, TX1, 5), rfl, rfl, rfl⟩⟩, List.forall_mem_cons.mpr ⟨⟨cw_X1_fallenFor, im_X1_fallenFor, se_X1_fallenFor, ar_X1_fallenFor, Or.inl ⟨1, (RX1, TX1, 5), rfl, rfl, rfl⟩⟩, List.forall_mem_cons.mpr ⟨⟨cw_X1_holdersFor, im_X1_holdersFor, se_X1_holdersFor, ar_X1_holdersFor, Or.inl ⟨1, (RX1, TX1, 5), rfl, rfl, rfl⟩⟩, List.forall_mem_cons.mpr ⟨⟨cw_X3_read, im_X3_read, se_X3_read, ar_X3_read, Or.inl ⟨3, (RX3, TX3, 14), rfl, rfl, rfl⟩⟩, List.forall_mem_cons.mpr ⟨⟨cw_X3_cutAll, im_X3_cutAll, se_X3_cutAll, ar_X3_cutAll, Or.inl ⟨3, (RX3, TX3, 14), rfl, rfl, rfl⟩⟩, List.forall_mem_cons.mpr ⟨⟨cw_X3_cut, im_X3_cut, se_X3_cut, ar_X3_cut, Or.inl ⟨3, (RX3, TX3, 14), rfl, rfl, rfl⟩⟩, List.forall_mem_cons.mpr ⟨⟨cw_X3_addToken, im_X3_addToken, se_X3_addToken, ar_X3_addToken, Or.inl ⟨3, (RX3, TX3, 14), rfl, rfl, rfl⟩⟩, List.forall_mem_cons.mpr ⟨⟨cw_X3_kind, im_X3_kind, se_X3_kind, ar_X3_kind, Or.inl ⟨3, (RX3, TX3, 14), rfl, rfl, rfl⟩⟩, List.forall_mem_cons.mpr ⟨⟨cw_X3_fail, im_X3_fail, se_X3_fail, ar_X3_fail, Or.inl ⟨3, (RX3, TX3, 14), rfl, rfl, rfl⟩⟩, List.forall_mem_cons.mpr ⟨⟨cw_X3_emit, im_X3_emit, se_X3_emit, ar_X3_emit, Or.inl ⟨3, (RX3, TX3, 14), rfl, rfl, rfl⟩⟩, List.forall_mem_cons.mpr ⟨⟨cw_X3_readClause, im_X3_readClause, se_X3_readClause, ar_X3_readClause, Or.inl ⟨3, (RX3, TX3, 14), rfl, rfl, rfl⟩⟩, List.forall_mem_cons.mpr ⟨⟨cw_X3_takeKeyAndIf, im_X3_takeKeyAndIf, se_X3_takeKeyAndIf, ar_X3_takeKeyAndIf, Or.inl ⟨3, (RX3, TX3, 14), rfl, rfl, rfl⟩⟩, List.forall_mem_cons.mpr ⟨⟨cw_X3_readTest, im_X3_readTest, se_X3_readTest, ar_X3_readTest, Or.inl ⟨3, (RX3, TX3, 14), rfl, rfl, rfl⟩⟩, List.forall_mem_cons.mpr ⟨⟨cw_X3_readFact, im_X3_readFact, se_X3_readFact, ar_X3_readFact, Or.inl ⟨3, (RX3, TX3, 14), rfl, rfl, rfl⟩⟩, List.forall_mem_cons.mpr ⟨⟨cw_X3_takeSign, im_X3_takeSign, se_X3_takeSign, ar_X3_takeSign, Or.inl ⟨3, (RX3, TX3, 14), rfl, rfl, rfl⟩⟩, List.forall_mem_cons.mpr ⟨⟨cw_X3_readSum, im_X3_readSum, se_X3_readSum, ar_X3_readSum, Or.inl ⟨3, (RX3, TX3, 14), rfl, rfl, rfl⟩⟩, List.forall_mem_cons.mpr ⟨⟨cw_X3_readValue, im_X3_readValue, se_X3_readValue, ar_X3_readValue, Or.inl ⟨3, (RX3, TX3, 14), rfl, rfl, rfl⟩⟩, List.forall_mem_cons.mpr ⟨⟨cw_X4_find, im_X4_find, se_X4_find, ar_X4_find, Or.inl ⟨4, (RX4, TX4, 3), rfl, rfl, rfl⟩⟩, List.forall_mem_cons.mpr ⟨⟨cw_X4_toSpot, im_X4_toSpot, se_X4_toSpot, ar_X4_toSpot, Or.inl ⟨4, (RX4, TX4, 3), rfl, rfl, rfl⟩⟩, List.forall_mem_cons.mpr ⟨⟨cw_X4_areWithin, im_X4_areWithin, se_X4_areWithin, ar_X4_areWithin, Or.inl ⟨4, (RX4, TX4, 3), rfl, rfl, rfl⟩⟩, List.forall_mem_cons.mpr ⟨⟨cw_X5_build, im_X5_build, se_X5_build, ar_X5_build, Or.inl ⟨5, (RX5, TX5, 4), rfl, rfl, rfl⟩⟩, List.forall_mem_cons.mpr ⟨⟨cw_X5_weigh, im_X5_weigh, se_X5_weigh, ar_X5_weigh, Or.inl ⟨5, (RX5, TX5, 4), rfl, rfl, rfl⟩⟩, List.forall_mem_cons.mpr ⟨⟨cw_X5_insert, im_X5_insert, se_X5_insert, ar_X5_insert, Or.inl ⟨5, (RX5, TX5, 4), rfl, rfl, rfl⟩⟩, List.forall_mem_cons.mpr ⟨⟨cw_X5_decidingClause, im_X5_decidingClause, se_X5_decidingClause, ar_X5_decidingClause, Or.inl ⟨5, (RX5, TX5, 4), rfl, rfl, rfl⟩⟩, List.forall_mem_cons.mpr ⟨⟨cw_X5_isBefore, im_X5_isBefore, se_X5_isBefore, ar_X5_isBefore, Or.inl ⟨5, (RX5, TX5, 4), rfl, rfl, rfl⟩⟩, List.forall_mem_cons.mpr ⟨⟨cw_X5_inPlace, im_X5_inPlace, se_X5_inPlace, ar_X5_inPlace, Or.inl ⟨5, (RX5, TX5, 4), rfl, rfl, rfl⟩⟩, List.forall_mem_cons.mpr ⟨⟨cw_X5_everybody, im_X5_everybody, se_X5_everybody, ar_X5_everybody, Or.inl ⟨5, (RX5, TX5, 4), rfl, rfl, rfl⟩⟩, List.forall_mem_cons.mpr ⟨⟨cw_X6_has, im_X6_has, se_X6_has, ar_X6_has, Or.inl ⟨6, (RX6, TX6, 4), rfl, rfl, rfl⟩⟩, List.forall_mem_cons.mpr ⟨⟨cw_X6_get, im_X6_get, se_X6_get, ar_X6_get, Or.inl ⟨6, (RX6, TX6, 4), rfl, rfl, rfl⟩⟩, List.forall_mem_cons.mpr ⟨⟨cw_X6_set, im_X6_set, se_X6_set, ar_X6_set, Or.inl ⟨6, (RX6, TX6, 4), rfl, rfl, rfl⟩⟩, List.forall_mem_cons.mpr ⟨⟨cw_X6_open, im_X6_open, se_X6_open, ar_X6_open, Or.inl ⟨6, (RX6, TX6, 4), rfl, rfl, rfl⟩⟩, List.forall_mem_cons.mpr ⟨⟨cw_X6_become, im_X6_become, se_X6_become, ar_X6_become, Or.inl ⟨6, (RX6, TX6, 4), rfl, rfl, rfl⟩⟩, List.forall_mem_cons.mpr ⟨⟨cw_X7_become, im_X7_become, se_X7_become, ar_X7_become, Or.inl ⟨7, (RX7, TX7, 8), rfl, rfl, rfl⟩⟩, List.forall_mem_cons.mpr ⟨⟨cw_X7_isFallen, im_X7_isFallen, se_X7_isFallen, ar_X7_isFallen, Or.inl ⟨7, (RX7, TX7, 8), rfl, rfl, rfl⟩⟩, List.forall_mem_cons.mpr ⟨⟨cw_X7_fallsTold, im_X7_fallsTold, se_X7_fallsTold, ar_X7_fallsTold, Or.inl ⟨7, (RX7, TX7, 8), rfl, rfl, rfl⟩⟩, List.forall_mem_cons.mpr ⟨⟨cw_X7_paperHolds, im_X7_paperHolds, se_X7_paperHolds, ar_X7_paperHolds, Or.inl ⟨7, (RX7, TX7, 8), rfl, rfl, rfl⟩⟩, List.forall_mem_cons.mpr ⟨⟨cw_X7_placesOnList, im_X7_placesOnList, se_X7_placesOnList, ar_X7_placesOnList, Or.inl ⟨7, (RX7, TX7, 8), rfl, rfl, rfl⟩⟩, List.forall_mem_cons.mpr ⟨⟨cw_X7_isOnList, im_X7_isOnList, se_X7_isOnList, ar_X7_isOnList, Or.inl ⟨7, (RX7, TX7, 8), rfl, rfl, rfl⟩⟩, List.forall_mem_cons.mpr ⟨⟨cw_X7_depthBelow, im_X7_depthBelow, se_X7_depthBelow, ar_X7_depthBelow, Or.inl ⟨7, (RX7, TX7, 8), rfl, rfl, rfl⟩⟩, List.forall_mem_cons.mpr ⟨⟨cw_X8_body, im_X8_body, se_X8_body, ar_X8_body, Or.inl ⟨8, (RX8, TX8, 11), rfl, rfl, rfl⟩⟩, List.forall_mem_cons.mpr ⟨⟨cw_X8_person, im_X8_person, se_X8_person, ar_X8_person, Or.inl ⟨8, (RX8, TX8, 11), rfl, rfl, rfl⟩⟩, List.forall_mem_cons.mpr ⟨⟨cw_X8_step, im_X8_step, se_X8_step, ar_X8_step, Or.inl ⟨8, (RX8, TX8, 11), rfl, rfl, rfl⟩⟩, List.forall_mem_cons.mpr ⟨⟨cw_X8_near, im_X8_near, se_X8_near, ar_X8_near, Or.inl ⟨8, (RX8, TX8, 11), rfl, rfl, rfl⟩⟩, List.forall_mem_cons.mpr ⟨⟨cw_X8_paper, im_X8_paper, se_X8_paper, ar_X8_paper, Or.inl ⟨8, (RX8, TX8, 11), rfl, rfl, rfl⟩⟩, List.forall_mem_cons.mpr ⟨⟨cw_X8_list, im_X8_list, se_X8_list, ar_X8_list, Or.inl ⟨8, (RX8, TX8, 11), rfl, rfl, rfl⟩⟩, List.forall_mem_cons.mpr ⟨⟨cw_X8_falls, im_X8_falls, se_X8_falls, ar_X8_falls, Or.inl ⟨8, (RX8, TX8, 11), rfl, rfl, rfl⟩⟩, List.forall_mem_cons.mpr ⟨⟨cw_X8_feed, im_X8_feed, se_X8_feed, ar_X8_feed, Or.inl ⟨8, (RX8, TX8, 11), rfl, rfl, rfl⟩⟩, List.forall_mem_cons.mpr ⟨⟨cw_X8_end, im_X8_end, se_X8_end, ar_X8_end, Or.inl ⟨8, (RX8, TX8, 11), rfl, rfl, rfl⟩⟩, List.forall_mem_cons.mpr ⟨⟨cw_X8_law, im_X8_law, se_X8_law, ar_X8_law, Or.inl ⟨8, (RX8, TX8, 11), rfl, rfl, rfl⟩⟩, List.forall_mem_cons.mpr ⟨⟨cw_X8_rules, im_X8_rules, se_X8_rules, ar_X8_rules, Or.inl ⟨8, (RX8, TX8, 11), rfl, rfl, rfl⟩⟩, List.forall_mem_cons.mpr ⟨⟨cw_X8_may, im_X8_may, se_X8_may, ar_X8_may, Or.inl ⟨8, (RX8, TX8, 11), rfl, rfl, rfl⟩⟩, List.forall_mem_cons.mpr ⟨⟨cw_X8_commands, im_X8_commands, se_X8_commands, ar_X8_commands, Or.inl ⟨8, (RX8, TX8, 11), rfl, rfl, rfl⟩⟩, List.forall_mem_cons.mpr ⟨⟨cw_X8_ahead, im_X8_ahead, se_X8_ahead, ar_X8_ahead, Or.inl ⟨8, (RX8, TX8, 11), rfl, rfl, rfl⟩⟩, List.forall_mem_cons.mpr ⟨⟨cw_X8_message, im_X8_message, se_X8_message, ar_X8_message, Or.inl ⟨8, (RX8, TX8, 11), rfl, rfl, rfl⟩⟩, List.forall_mem_cons.mpr ⟨⟨cw_X8_sight, im_X8_sight, se_X8_sight, ar_X8_sight, Or.inl ⟨8, (RX8, TX8, 11), rfl, rfl, rfl⟩⟩, List.forall_mem_cons.mpr ⟨⟨cw_X8_knows, im_X8_knows, se_X8_knows, ar_X8_knows, Or.inl ⟨8, (RX8, TX8, 11), rfl, rfl, rfl⟩⟩, List.forall_mem_cons.mpr ⟨⟨cw_X8_thinks, im_X8_thinks, se_X8_thinks, ar_X8_thinks, Or.inl ⟨8, (RX8, TX8, 11), rfl, rfl, rfl⟩⟩, List.forall_mem_cons.mpr ⟨⟨cw_X8_wrong, im_X8_wrong, se_X8_wrong, ar_X8_wrong, Or.inl ⟨8, (RX8, TX8, 11), rfl, rfl, rfl⟩⟩, List.forall_mem_cons.mpr ⟨⟨cw_X8_order, im_X8_order, se_X8_order, ar_X8_order, Or.inl ⟨8, (RX8, TX8, 11), rfl, rfl, rfl⟩⟩, List.forall_mem_cons.mpr ⟨⟨cw_X8_seat, im_X8_seat, se_X8_seat, ar_X8_seat, Or.inl ⟨8, (RX8, TX8, 11), rfl, rfl, rfl⟩⟩, List.forall_mem_cons.mpr ⟨⟨cw_X8_force, im_X8_force, se_X8_force, ar_X8_force, Or.inl ⟨8, (RX8, TX8, 11), rfl, rfl, rfl⟩⟩, List.forall_mem_cons.mpr ⟨⟨cw_X8_bound, im_X8_bound, se_X8_bound, ar_X8_bound, Or.inl ⟨8, (RX8, TX8, 11), rfl, rfl, rfl⟩⟩, List.forall_mem_cons.mpr ⟨⟨cw_X8_cross, im_X8_cross, se_X8_cross, ar_X8_cross, Or.inl ⟨8, (RX8, TX8, 11), rfl, rfl, rfl⟩⟩, List.forall_mem_cons.mpr ⟨⟨cw_X8_answers, im_X8_answers, se_X8_answers, ar_X8_answers, Or.inl ⟨8, (RX8, TX8, 11), rfl, rfl, rfl⟩⟩, List.forall_mem_cons.mpr ⟨⟨cw_X8_gaps, im_X8_gaps, se_X8_gaps, ar_X8_gaps, Or.inl ⟨8, (RX8, TX8, 11), rfl, rfl, rfl⟩⟩, List.forall_mem_cons.mpr ⟨⟨cw_X8_doubt, im_X8_doubt, se_X8_doubt, ar_X8_doubt, Or.inl ⟨8, (RX8, TX8, 11), rfl, rfl, rfl⟩⟩, List.forall_mem_cons.mpr ⟨⟨cw_X8_brief, im_X8_brief, se_X8_brief, ar_X8_brief, Or.inl ⟨8, (RX8, TX8, 11), rfl, rfl, rfl⟩⟩, List.forall_mem_cons.mpr ⟨⟨cw_X8_fights, im_X8_fights, se_X8_fights, ar_X8_fights, Or.inl ⟨8, (RX8, TX8, 11), rfl, rfl, rfl⟩⟩, List.forall_mem_cons.mpr ⟨⟨cw_X8_allied, im_X8_allied, se_X8_allied, ar_X8_allied, Or.inl ⟨8, (RX8, TX8, 11), rfl, rfl, rfl⟩⟩, List.forall_mem_cons.mpr ⟨⟨cw_X8_mended, im_X8_mended, se_X8_mended, ar_X8_mended, Or.inl ⟨8, (RX8, TX8, 11), rfl, rfl, rfl⟩⟩, List.forall_mem_cons.mpr ⟨⟨cw_X8_judge, im_X8_judge, se_X8_judge, ar_X8_judge, Or.inl ⟨8, (RX8, TX8, 11), rfl, rfl, rfl⟩⟩, List.forall_mem_cons.mpr ⟨⟨cw_X8_hangs, im_X8_hangs, se_X8_hangs, ar_X8_hangs, Or.inl ⟨8, (RX8, TX8, 11), rfl, rfl, rfl⟩⟩, List.forall_mem_cons.mpr ⟨⟨cw_X8_mark, im_X8_mark, se_X8_mark, ar_X8_mark, Or.inl ⟨8, (RX8, TX8, 11), rfl, rfl, rfl⟩⟩, List.forall_mem_cons.mpr ⟨⟨cw_X8_back, im_X8_back, se_X8_back, ar_X8_back, Or.inl ⟨8, (RX8, TX8, 11), rfl, rfl, rfl⟩⟩, List.forall_mem_cons.mpr ⟨⟨cw_X8_count, im_X8_count, se_X8_count, ar_X8_count, Or.inl ⟨8, (RX8, TX8, 11), rfl, rfl, rfl⟩⟩, List.forall_mem_cons.mpr ⟨⟨cw_X8_isBodyInMinute, im_X8_isBodyInMinute, se_X8_isBodyInMinute, ar_X8_isBodyInMinute, Or.inl ⟨8, (RX8, TX8, 11), rfl, rfl, rfl⟩⟩, List.forall_mem_cons.mpr ⟨⟨cw_X8_putOnTape, im_X8_putOnTape, se_X8_putOnTape, ar_X8_putOnTape, Or.inl ⟨8, (RX8, TX8, 11), rfl, rfl, rfl⟩⟩, List.forall_mem_cons.mpr ⟨⟨cw_X8_lawOf, im_X8_lawOf, se_X8_lawOf, ar_X8_lawOf, Or.inl ⟨8, (RX8, TX8, 11), rfl, rfl, rfl⟩⟩, List.forall_mem_cons.mpr ⟨⟨cw_X8_survey, im_X8_survey, se_X8_survey, ar_X8_survey, Or.inl ⟨8, (RX8, TX8, 11), rfl, rfl, rfl⟩⟩, List.forall_mem_cons.mpr ⟨⟨cw_X8_surveyMinds, im_X8_surveyMinds, se_X8_surveyMinds, ar_X8_surveyMinds, Or.inl ⟨8, (RX8, TX8, 11), rfl, rfl, rfl⟩⟩, List.forall_mem_cons.mpr ⟨⟨cw_X8_wrongAfter, im_X8_wrongAfter, se_X8_wrongAfter, ar_X8_wrongAfter, Or.inl ⟨8, (RX8, TX8, 11), rfl, rfl, rfl⟩⟩, List.forall_mem_cons.mpr ⟨⟨cw_X8_wrongAfterFallOf, im_X8_wrongAfterFallOf, se_X8_wrongAfterFallOf, ar_X8_wrongAfterFallOf, Or.inl ⟨8, (RX8, TX8, 11), rfl, rfl, rfl⟩⟩, List.forall_mem_cons.mpr ⟨⟨cw_X8_worstFall, im_X8_worstFall, se_X8_worstFall, ar_X8_worstFall, Or.inl ⟨8, (RX8, TX8, 11), rfl, rfl, rfl⟩⟩, List.forall_mem_cons.mpr ⟨⟨cw_X8_seatOf, im_X8_seatOf, se_X8_seatOf, ar_X8_seatOf, Or.inl ⟨8, (RX8, TX8, 11), rfl, rfl, rfl⟩⟩, List.forall_mem_cons.mpr ⟨⟨cw_X8_isRunning, im_X8_isRunning, se_X8_isRunning, ar_X8_isRunning, Or.inl ⟨8, (RX8, TX8, 11), rfl, rfl, rfl⟩⟩, List.forall_mem_cons.mpr ⟨⟨cw_X8_bindingOrder, im_X8_bindingOrder, se_X8_bindingOrder, ar_X8_bindingOrder, Or.inl ⟨8, (RX8, TX8, 11), rfl, rfl, rfl⟩⟩, List.forall_mem_cons.mpr ⟨⟨cw_X9_isBody, im_X9_isBody, se_X9_isBody, ar_X9_isBody, Or.inl ⟨9, (RX9, TX9, 71), rfl, rfl, rfl⟩⟩, List.forall_mem_cons.mpr ⟨⟨cw_X9_isPerson, im_X9_isPerson, se_X9_isPerson, ar_X9_isPerson, Or.inl ⟨9, (RX9, TX9, 71), rfl, rfl, rfl⟩⟩, List.forall_mem_cons.mpr ⟨⟨cw_X9_body, im_X9_body, se_X9_body, ar_X9_body, Or.inl ⟨9, (RX9, TX9, 71), rfl, rfl, rfl⟩⟩, List.forall_mem_cons.mpr ⟨⟨cw_X9_person, im_X9_person, se_X9_person, ar_X9_person, Or.inl ⟨9, (RX9, TX9, 71), rfl, rfl, rfl⟩⟩, List.forall_mem_cons.mpr ⟨⟨cw_X9_step, im_X9_step, se_X9_step, ar_X9_step, Or.inl ⟨9, (RX9, TX9, 71), rfl, rfl, rfl⟩⟩, List.forall_mem_cons.mpr ⟨⟨cw_X9_stepAt, im_X9_stepAt, se_X9_stepAt, ar_X9_stepAt, Or.inl ⟨9, (RX9, TX9, 71), rfl, rfl, rfl⟩⟩, List.forall_mem_cons.mpr ⟨⟨cw_X9_placeX, im_X9_placeX, se_X9_placeX, ar_X9_placeX, Or.inl ⟨9, (RX9, TX9, 71), rfl, rfl, rfl⟩⟩, List.forall_mem_cons.mpr ⟨⟨cw_X9_placeY, im_X9_placeY, se_X9_placeY, ar_X9_placeY, Or.inl ⟨9, (RX9, TX9, 71), rfl, rfl, rfl⟩⟩, List.forall_mem_cons.mpr ⟨⟨cw_X9_nearTo, im_X9_nearTo, se_X9_nearTo, ar_X9_nearTo, Or.inl ⟨9, (RX9, TX9, 71), rfl, rfl, rfl⟩⟩, List.forall_mem_cons.mpr ⟨⟨cw_X9_near, im_X9_near, se_X9_near, ar_X9_near, Or.inl ⟨9, (RX9, TX9, 71), rfl, rfl, rfl⟩⟩, List.forall_mem_cons.mpr ⟨⟨cw_X9_paper, im_X9_paper, se_X9_paper, ar_X9_paper, Or.inl ⟨9, (RX9, TX9, 71), rfl, rfl, rfl⟩⟩, List.forall_mem_cons.mpr ⟨⟨cw_X9_placeIn, im_X9_placeIn, se_X9_placeIn, ar_X9_placeIn, Or.inl ⟨9, (RX9, TX9, 71), rfl, rfl, rfl⟩⟩, List.forall_mem_cons.mpr ⟨⟨cw_X9_list, im_X9_list, se_X9_list, ar_X9_list, Or.inl ⟨9, (RX9, TX9, 71), rfl, rfl, rfl⟩⟩, List.forall_mem_cons.mpr ⟨⟨cw_X9_falls, im_X9_falls, se_X9_falls, ar_X9_falls, Or.inl ⟨9, (RX9, TX9, 71), rfl, rfl, rfl⟩⟩, List.forall_mem_cons.mpr ⟨⟨cw_X9_feed, im_X9_feed, se_X9_feed, ar_X9_feed, Or.inl ⟨9, (RX9, TX9, 71), rfl, rfl, rfl⟩⟩, List.forall_mem_cons.mpr ⟨⟨cw_X9_put, im_X9_put, se_X9_put, ar_X9_put, Or.inl ⟨9, (RX9, TX9, 71), rfl, rfl, rfl⟩⟩, List.forall_mem_cons.mpr ⟨⟨cw_X9_end, im_X9_end, se_X9_end, ar_X9_end, Or.inl ⟨9, (RX9, TX9, 71), rfl, rfl, rfl⟩⟩, List.forall_mem_cons.mpr ⟨⟨cw_X9_fails, im_X9_fails, se_X9_fails, ar_X9_fails, Or.inl ⟨9, (RX9, TX9, 71), rfl, rfl, rfl⟩⟩, List.forall_mem_cons.mpr ⟨⟨cw_X9_sign, im_X9_sign, se_X9_sign, ar_X9_sign, Or.inl ⟨9, (RX9, TX9, 71), rfl, rfl, rfl⟩⟩, List.forall_mem_cons.mpr ⟨⟨cw_X9_blanks, im_X9_blanks, se_X9_blanks, ar_X9_blanks, Or.inl ⟨9, (RX9, TX9, 71), rfl, rfl, rfl⟩⟩, List.forall_mem_cons.mpr ⟨⟨cw_X9_isDigit, im_X9_isDigit, se_X9_isDigit, ar_X9_isDigit, Or.inl ⟨9, (RX9, TX9, 71), rfl, rfl, rfl⟩⟩, List.forall_mem_cons.mpr ⟨⟨cw_X9_stands, im_X9_stands, se_X9_stands, ar_X9_stands, Or.inl ⟨9, (RX9, TX9, 71), rfl, rfl, rfl⟩⟩, List.forall_mem_cons.mpr ⟨⟨cw_X9_takes, im_X9_takes, se_X9_takes, ar_X9_takes, Or.inl ⟨9, (RX9, TX9, 71), rfl, rfl, rfl⟩⟩, List.forall_mem_cons.mpr ⟨⟨cw_X9_entry, im_X9_entry, se_X9_entry, ar_X9_entry, Or.inl ⟨9, (RX9, TX9, 71), rfl, rfl, rfl⟩⟩, List.forall_mem_cons.mpr ⟨⟨cw_X9_isCounted, im_X9_isCounted, se_X9_isCounted, ar_X9_isCounted, Or.inl ⟨9, (RX9, TX9, 71), rfl, rfl, rfl⟩⟩, List.forall_mem_cons.mpr ⟨⟨cw_X9_digits, im_X9_digits, se_X9_digits, ar_X9_digits, Or.inl ⟨9, (RX9, TX9, 71), rfl, rfl, rfl⟩⟩, List.forall_mem_cons.mpr ⟨⟨cw_X9_value, im_X9_value, se_X9_value, ar_X9_value, Or.inl ⟨9, (RX9, TX9, 71), rfl, rfl, rfl⟩⟩, List.forall_mem_cons.mpr ⟨⟨cw_X9_sum, im_X9_sum, se_X9_sum, ar_X9_sum, Or.inl ⟨9, (RX9, TX9, 71), rfl, rfl, rfl⟩⟩, List.forall_mem_cons.mpr ⟨⟨cw_X9_compared, im_X9_compared, se_X9_compared, ar_X9_compared, Or.inl ⟨9, (RX9, TX9, 71), rfl, rfl, rfl⟩⟩, List.forall_mem_cons.mpr ⟨⟨cw_X9_top, im_X9_top, se_X9_top, ar_X9_top, Or.inl ⟨9, (RX9, TX9, 71), rfl, rfl, rfl⟩⟩, List.forall_mem_cons.mpr ⟨⟨cw_X9_opens, im_X9_opens, se_X9_opens, ar_X9_opens, Or.inl ⟨9, (RX9, TX9, 71), rfl, rfl, rfl⟩⟩, List.forall_mem_cons.mpr ⟨⟨cw_X9_answers, im_X9_answers, se_X9_answers, ar_X9_answers, Or.inl ⟨9, (RX9, TX9, 71), rfl, rfl, rfl⟩⟩, List.forall_mem_cons.mpr ⟨⟨cw_X9_fact, im_X9_fact, se_X9_fact, ar_X9_fact, Or.inl ⟨9, (RX9, TX9, 71), rfl, rfl, rfl⟩⟩, List.forall_mem_cons.mpr ⟨⟨cw_X9_test, im_X9_test, se_X9_test, ar_X9_test, Or.inl ⟨9, (RX9, TX9, 71), rfl, rfl, rfl⟩⟩, List.forall_mem_cons.mpr ⟨⟨cw_X9_clause, im_X9_clause, se_X9_clause, ar_X9_clause, Or.inl ⟨9, (RX9, TX9, 71), rfl, rfl, rfl⟩⟩, List.forall_mem_cons.mpr ⟨⟨cw_X9_law, im_X9_law, se_X9_law, ar_X9_law, Or.inl ⟨9, (RX9, TX9, 71), rfl, rfl, rfl⟩⟩, List.forall_mem_cons.mpr ⟨⟨cw_X9_rules, im_X9_rules, se_X9_rules, ar_X9_rules, Or.inl ⟨9, (RX9, TX9, 71), rfl, rfl, rfl⟩⟩, List.forall_mem_cons.mpr ⟨⟨cw_X9_answer, im_X9_answer, se_X9_answer, ar_X9_answer, Or.inl ⟨9, (RX9, TX9, 71), rfl, rfl, rfl⟩⟩, List.forall_mem_cons.mpr ⟨⟨cw_X9_asItIs, im_X9_asItIs, se_X9_asItIs, ar_X9_asItIs, Or.inl ⟨9, (RX9, TX9, 71), rfl, rfl, rfl⟩⟩, List.forall_mem_cons.mpr ⟨⟨cw_X9_hasPaper, im_X9_hasPaper, se_X9_hasPaper, ar_X9_hasPaper, Or.inl ⟨9, (RX9, TX9, 71), rfl, rfl, rfl⟩⟩, List.forall_mem_cons.mpr ⟨⟨cw_X9_below, im_X9_below, se_X9_below, ar_X9_below, Or.inl ⟨9, (RX9, TX9, 71), rfl, rfl, rfl⟩⟩, List.forall_mem_cons.mpr ⟨⟨cw_X9_looks, im_X9_looks, se_X9_looks, ar_X9_looks, Or.inl ⟨9, (RX9, TX9, 71), rfl, rfl, rfl⟩⟩, List.forall_mem_cons.mpr ⟨⟨cw_X9_works, im_X9_works, se_X9_works, ar_X9_works, Or.inl ⟨9, (RX9, TX9, 71), rfl, rfl, rfl⟩⟩, List.forall_mem_cons.mpr ⟨⟨cw_X9_parts, im_X9_parts, se_X9_parts, ar_X9_parts, Or.inl ⟨9, (RX9, TX9, 71), rfl, rfl, rfl⟩⟩, List.forall_mem_cons.mpr ⟨⟨cw_X9_isAhead, im_X9_isAhead, se_X9_isAhead, ar_X9_isAhead, Or.inl ⟨9, (RX9, TX9, 71), rfl, rfl, rfl⟩⟩, List.forall_mem_cons.mpr ⟨⟨cw_X9_mayOf, im_X9_mayOf, se_X9_mayOf, ar_X9_mayOf, Or.inl ⟨9, (RX9, TX9, 71), rfl, rfl, rfl⟩⟩, List.forall_mem_cons.mpr ⟨⟨cw_X9_firstOf, im_X9_firstOf, se_X9_firstOf, ar_X9_firstOf, Or.inl ⟨9, (RX9, TX9, 71), rfl, rfl, rfl⟩⟩, List.forall_mem_cons.mpr ⟨⟨cw_X9_chosen, im_X9_chosen, se_X9_chosen, ar_X9_chosen, Or.inl ⟨9, (RX9, TX9, 71), rfl, rfl, rfl⟩⟩, List.forall_mem_cons.mpr ⟨⟨cw_X9_may, im_X9_may, se_X9_may, ar_X9_may, Or.inl ⟨9, (RX9, TX9, 71), rfl, rfl, rfl⟩⟩, List.forall_mem_cons.mpr ⟨⟨cw_X9_commanding, im_X9_commanding, se_X9_commanding, ar_X9_commanding, Or.inl ⟨9, (RX9, TX9, 71), rfl, rfl, rfl⟩⟩, List.forall_mem_cons.mpr ⟨⟨cw_X9_commands, im_X9_commands, se_X9_commands, ar_X9_commands, Or.inl ⟨9, (RX9, TX9, 71), rfl, rfl, rfl⟩⟩, List.forall_mem_cons.mpr ⟨⟨cw_X9_ahead, im_X9_ahead, se_X9_ahead, ar_X9_ahead, Or.inl ⟨9, (RX9, TX9, 71), rfl, rfl, rfl⟩⟩, List.forall_mem_cons.mpr ⟨⟨cw_X9_message, im_X9_message, se_X9_message, ar_X9_message, Or.inl ⟨9, (RX9, TX9, 71), rfl, rfl, rfl⟩⟩, List.forall_mem_cons.mpr ⟨⟨cw_X9_sight, im_X9_sight, se_X9_sight, ar_X9_sight, Or.inl ⟨9, (RX9, TX9, 71), rfl, rfl, rfl⟩⟩, List.forall_mem_cons.mpr ⟨⟨cw_X9_hasHeard, im_X9_hasHeard, se_X9_hasHeard, ar_X9_hasHeard, Or.inl ⟨9, (RX9, TX9, 71), rfl, rfl, rfl⟩⟩, List.forall_mem_cons.mpr ⟨⟨cw_X9_saw, im_X9_saw, se_X9_saw, ar_X9_saw, Or.inl ⟨9, (RX9, TX9, 71), rfl, rfl, rfl⟩⟩, List.forall_mem_cons.mpr ⟨⟨cw_X9_hasFallen, im_X9_hasFallen, se_X9_hasFallen, ar_X9_hasFallen, Or.inl ⟨9, (RX9, TX9, 71), rfl, rfl, rfl⟩⟩, List.forall_mem_cons.mpr ⟨⟨cw_X9_knowsFall, im_X9_knowsFall, se_X9_knowsFall, ar_X9_knowsFall, Or.inl ⟨9, (RX9, TX9, 71), rfl, rfl, rfl⟩⟩, List.forall_mem_cons.mpr ⟨⟨cw_X9_knows, im_X9_knows, se_X9_knows, ar_X9_knows, Or.inl ⟨9, (RX9, TX9, 71), rfl, rfl, rfl⟩⟩, List.forall_mem_cons.mpr ⟨⟨cw_X9_nobodyBesides, im_X9_nobodyBesides, se_X9_nobodyBesides, ar_X9_nobodyBesides, Or.inl ⟨9, (RX9, TX9, 71), rfl, rfl, rfl⟩⟩, List.forall_mem_cons.mpr ⟨⟨cw_X9_asTaken, im_X9_asTaken, se_X9_asTaken, ar_X9_asTaken, Or.inl ⟨9, (RX9, TX9, 71), rfl, rfl, rfl⟩⟩, List.forall_mem_cons.mpr ⟨⟨cw_X9_thinks, im_X9_thinks, se_X9_thinks, ar_X9_thinks, Or.inl ⟨9, (RX9, TX9, 71), rfl, rfl, rfl⟩⟩, List.forall_mem_cons.mpr ⟨⟨cw_X9_commandingBesides, im_X9_commandingBesides, se_X9_commandingBesides, ar_X9_commandingBesides, Or.inl ⟨9, (RX9, TX9, 71), rfl, rfl, rfl⟩⟩, List.forall_mem_cons.mpr ⟨⟨cw_X9_wrongs, im_X9_wrongs, se_X9_wrongs, ar_X9_wrongs, Or.inl ⟨9, (RX9, TX9, 71), rfl, rfl, rfl⟩⟩, List.forall_mem_cons.mpr ⟨⟨cw_X9_wrong, im_X9_wrong, se_X9_wrong, ar_X9_wrong, Or.inl ⟨9, (RX9, TX9, 71), rfl, rfl, rfl⟩⟩, List.forall_mem_cons.mpr ⟨⟨cw_X9_order, im_X9_order, se_X9_order, ar_X9_order, Or.inl ⟨9, (RX9, TX9, 71), rfl, rfl, rfl⟩⟩, List.forall_mem_cons.mpr ⟨⟨cw_X9_isOrder, im_X9_isOrder, se_X9_isOrder, ar_X9_isOrder, Or.inl ⟨9, (RX9, TX9, 71), rfl, rfl, rfl⟩⟩, List.forall_mem_cons.mpr ⟨⟨cw_X9_seatOf, im_X9_seatOf, se_X9_seatOf, ar_X9_seatOf, Or.inl ⟨9, (RX9, TX9, 71), rfl, rfl, rfl⟩⟩, List.forall_mem_cons.mpr ⟨⟨cw_X9_seat, im_X9_seat, se_X9_seat, ar_X9_seat, Or.inl ⟨9, (RX9, TX9, 71), rfl, rfl, rfl⟩⟩, List.forall_mem_cons.mpr ⟨⟨cw_X9_isLapsed, im_X9_isLapsed, se_X9_isLapsed, ar_X9_isLapsed, Or.inl ⟨9, (RX9, TX9, 71), rfl, rfl, rfl⟩⟩, List.forall_mem_cons.mpr ⟨⟨cw_X9_isInForce, im_X9_isInForce, se_X9_isInForce, ar_X9_isInForce, Or.inl ⟨9, (RX9, TX9, 71), rfl, rfl, rfl⟩⟩, List.forall_mem_cons.mpr ⟨⟨cw_X9_force, im_X9_force, se_X9_force, ar_X9_force, Or.inl ⟨9, (RX9, TX9, 71), rfl, rfl, rfl⟩⟩, List.forall_mem_cons.mpr ⟨⟨cw_X9_level, im_X9_level, se_X9_level, ar_X9_level, Or.inl ⟨9, (RX9, TX9, 71), rfl, rfl, rfl⟩⟩, List.forall_mem_cons.mpr ⟨⟨cw_X9_binding, im_X9_binding, se_X9_binding, ar_X9_binding, Or.inl ⟨9, (RX9, TX9, 71), rfl, rfl, rfl⟩⟩, List.forall_mem_cons.mpr ⟨⟨cw_X9_bound, im_X9_bound, se_X9_bound, ar_X9_bound, Or.inl ⟨9, (RX9, TX9, 71), rfl, rfl, rfl⟩⟩, List.forall_mem_cons.mpr ⟨⟨cw_X9_cross, im_X9_cross, se_X9_cross, ar_X9_cross, Or.inl ⟨9, (RX9, TX9, 71), rfl, rfl, rfl⟩⟩, List.forall_mem_cons.mpr ⟨⟨cw_X9_answers_, im_X9_answers_, se_X9_answers_, ar_X9_answers_, Or.inl ⟨9, (RX9, TX9, 71), rfl, rfl, rfl⟩⟩, List.forall_mem_cons.mpr ⟨⟨cw_X9_gaps, im_X9_gaps, se_X9_gaps, ar_X9_gaps, Or.inl ⟨9, (RX9, TX9, 71), rfl, rfl, rfl⟩⟩, List.forall_mem_cons.mpr ⟨⟨cw_X9_doubted, im_X9_doubted, se_X9_doubted, ar_X9_doubted, Or.inl ⟨9, (RX9, TX9, 71), rfl, rfl, rfl⟩⟩, List.forall_mem_cons.mpr ⟨⟨cw_X9_doubt, im_X9_doubt, se_X9_doubt, ar_X9_doubt, Or.inl ⟨9, (RX9, TX9, 71), rfl, rfl, rfl⟩⟩, List.forall_mem_cons.mpr ⟨⟨cw_X9_allied, im_X9_allied, se_X9_allied, ar_X9_allied, Or.inl ⟨9, (RX9, TX9, 71), rfl, rfl, rfl⟩⟩, List.forall_mem_cons.mpr ⟨⟨cw_X9_mended, im_X9_mended, se_X9_mended, ar_X9_mended, Or.inl ⟨9, (RX9, TX9, 71), rfl, rfl, rfl⟩⟩, List.forall_mem_cons.mpr ⟨⟨cw_X9_judge, im_X9_judge, se_X9_judge, ar_X9_judge, Or.inl ⟨9, (RX9, TX9, 71), rfl, rfl, rfl⟩⟩, List.forall_mem_cons.mpr ⟨⟨cw_X9_hangs, im_X9_hangs, se_X9_hangs, ar_X9_hangs, Or.inl ⟨9, (RX9, TX9, 71), rfl, rfl, rfl⟩⟩, List.forall_mem_cons.mpr ⟨⟨cw_X9_brief, im_X9_brief, se_X9_brief, ar_X9_brief, Or.inl ⟨9, (RX9, TX9, 71), rfl, rfl, rfl⟩⟩, List.forall_mem_cons.mpr ⟨⟨cw_X9_fights, im_X9_fights, se_X9_fights, ar_X9_fights, Or.inl ⟨9, (RX9, TX9, 71), rfl, rfl, rfl⟩⟩, List.forall_mem_cons.mpr ⟨⟨cw_X9_carry, im_X9_carry, se_X9_carry, ar_X9_carry, Or.inl ⟨9, (RX9, TX9, 71), rfl, rfl, rfl⟩⟩, List.forall_mem_cons.mpr ⟨⟨cw_X9_carries, im_X9_carries, se_X9_carries, ar_X9_carries, Or.inl ⟨9, (RX9, TX9, 71), rfl, rfl, rfl⟩⟩, List.forall_mem_cons.mpr ⟨⟨cw_X9_mark, im_X9_mark, se_X9_mark, ar_X9_mark, Or.inl ⟨9, (RX9, TX9, 71), rfl, rfl, rfl⟩⟩, List.forall_mem_cons.mpr ⟨⟨cw_X9_back, im_X9_back, se_X9_back, ar_X9_back, Or.inl ⟨9, (RX9, TX9, 71), rfl, rfl, rfl⟩⟩, List.forall_mem_cons.mpr ⟨⟨cw_X9_count, im_X9_count, se_X9_count, ar_X9_count, Or.inl ⟨9, (RX9, TX9, 71), rfl, rfl, rfl⟩⟩, List.forall_mem_cons.mpr ⟨⟨cw_J0_length_8abf5, im_J0_length_8abf5, se_J0_length_8abf5, ar_J0_length_8abf5, Or.inr ⟨rfl, rfl⟩⟩, List.forall_mem_cons.mpr ⟨⟨cw_J0_charAt_5068e, im_J0_charAt_5068e, se_J0_charAt_5068e, ar_J0_charAt_5068e, Or.inr ⟨rfl, rfl⟩⟩, List.forall_mem_cons.mpr ⟨⟨cw_J0_coder_7d493, im_J0_coder_7d493, se_J0_coder_7d493, ar_J0_coder_7d493, Or.inr ⟨rfl, rfl⟩⟩, List.forall_mem_cons.mpr ⟨⟨cw_J0_isLatin1_aae02, im_J0_isLatin1_aae02, se_J0_isLatin1_aae02, ar_J0_isLatin1_aae02, Or.inr ⟨rfl, rfl⟩⟩, (fun _ h => absurd h List.not_mem_nil)⟩⟩⟩⟩⟩⟩⟩⟩⟩⟩⟩⟩⟩⟩⟩⟩⟩⟩⟩⟩⟩⟩⟩⟩⟩⟩⟩⟩⟩⟩⟩⟩⟩⟩⟩⟩⟩⟩⟩⟩⟩⟩⟩⟩⟩⟩⟩⟩⟩⟩⟩⟩⟩⟩⟩⟩⟩⟩⟩⟩⟩⟩⟩⟩⟩⟩⟩⟩⟩⟩⟩⟩⟩⟩⟩⟩⟩⟩⟩⟩⟩⟩⟩⟩⟩⟩⟩⟩⟩⟩⟩⟩⟩⟩⟩⟩⟩⟩⟩⟩⟩⟩⟩⟩⟩⟩⟩⟩⟩⟩⟩⟩⟩⟩⟩⟩⟩⟩⟩⟩⟩⟩⟩⟩⟩⟩⟩⟩⟩⟩⟩⟩⟩⟩⟩⟩⟩⟩⟩⟩⟩⟩⟩⟩⟩⟩⟩⟩⟩⟩⟩⟩⟩⟩⟩⟩⟩⟩⟩⟩⟩⟩⟩⟩⟩⟩⟩⟩⟩⟩⟩⟩⟩⟩⟩⟩⟩⟩⟩⟩⟩⟩⟩⟩⟩⟩⟩⟩⟩⟩⟩⟩⟩⟩⟩⟩⟩
set_option maxRecDepth 100000 in
theorem mI_ok : ∀ q ∈ mI_, cw_ok (mtab q.1) ∧ Cond.instanceMethod (mtab q.1).1 ∈ lw_good ∧ ar_ok (mtab q.1) q.2 ∧ (mtab q.1).2.2.2 = none ∧ (mtab q.1).1.name = "<init>" := List.forall_mem_cons.mpr ⟨⟨cw_X0_init, im_X0_init, ar_X0_init, rfl, rfl⟩, List.forall_mem_cons.mpr ⟨⟨cw_X1_init, im_X1_init, ar_X1_init, rfl, rfl⟩, List.forall_mem_cons.mpr ⟨⟨cw_X2_init, im_X2_init, ar_X2_init, rfl, rfl⟩, List.forall_mem_cons.mpr ⟨⟨cw_X3_init, im_X3_init, ar_X3_init, rfl, rfl⟩, List.forall_mem_cons.mpr ⟨⟨cw_X4_init, im_X4_init, ar_X4_init, rfl, rfl⟩, List.forall_mem_cons.mpr ⟨⟨cw_X5_init, im_X5_init, ar_X5_init, rfl, rfl⟩, List.forall_mem_cons.mpr ⟨⟨cw_X6_init, im_X6_init, ar_X6_init, rfl, rfl⟩, List.forall_mem_cons.mpr ⟨⟨cw_X7_init, im_X7_init, ar_X7_init, rfl, rfl⟩, List.forall_mem_cons.mpr ⟨⟨cw_X8_init, im_X8_init, ar_X8_init, rfl, rfl⟩, List.forall_mem_cons.mpr ⟨⟨cw_X9_init, im_X9_init, ar_X9_init, rfl, rfl⟩, (fun _ h => absurd h List.not_mem_nil)⟩⟩⟩⟩⟩⟩⟩⟩⟩⟩
set_option maxRecDepth 100000 in
theorem ac_0 : Cond.arrayClass (aty 0) ∈ lw_good := lg_in (i := 60) rfl rfl
set_option maxRecDepth 100000 in
theorem ac_1 : Cond.arrayClass (aty 1) ∈ lw_good := lg_in (i := 590) rfl rfl
set_option maxRecDepth 100000 in
theorem ac_2 : Cond.arrayClass (aty 2) ∈ lw_good := lg_in (i := 1096) rfl rfl
set_option maxRecDepth 100000 in
theorem ac_3 : Cond.arrayClass (aty 3) ∈ lw_good := lg_in (i := 1095) rfl rfl
theorem ac_ok {a : Nat} (h : a < 4) : Cond.arrayClass (aty a) ∈ lw_good := by
  have : a = 0 ∨ a = 1 ∨ a = 2 ∨ a = 3 := by omega
  rcases this with rfl | rfl | rfl | rfl
  · exact ac_0
  · exact ac_1
  · exact ac_2
  · exact ac_3
set_option maxRecDepth 100000 in
theorem mx_ok : Cond.code Lib.Math.max.name Lib.Math.max.code 2 (some .int) ∈ lw_good ∧ Cond.static Lib.Math.max.name ∈ lw_good ∧ Cond.code Lib.Math.min.name Lib.Math.min.code 2 (some .int) ∈ lw_good ∧ Cond.static Lib.Math.min.name ∈ lw_good ∧ Cond.initialized "java/lang/Math" ∈ lw_good ∧ Cond.code Lib.Math.abs.name Lib.Math.abs.code 1 (some .int) ∈ lw_good ∧ Cond.static Lib.Math.abs.name ∈ lw_good := ⟨lg_in (i := 41) rfl rfl, lg_in (i := 40) rfl rfl, lg_in (i := 428) rfl rfl, lg_in (i := 427) rfl rfl, lg_in (i := 4) rfl rfl, lg_in (i := 363) rfl rfl, lg_in (i := 362) rfl rfl⟩
set_option maxRecDepth 100000 in
theorem oi_ok : Cond.instanceMethod Lib.objectInit ∈ lw_good ∧ Cond.code Lib.objectInit ⟨#[0xb1]⟩ 1 none ∈ lw_good := ⟨lg_in (i := 25) rfl rfl, lg_in (i := 26) rfl rfl⟩
set_option maxRecDepth 100000 in
theorem clx_0 : clX_ok 0 (RX0, TX0, 6) := ⟨List.forall_mem_cons.mpr ⟨lg_in (i := 197) rfl rfl, List.forall_mem_cons.mpr ⟨lg_in (i := 199) rfl rfl, List.forall_mem_cons.mpr ⟨lg_in (i := 201) rfl rfl, List.forall_mem_cons.mpr ⟨lg_in (i := 203) rfl rfl, List.forall_mem_cons.mpr ⟨lg_in (i := 205) rfl rfl, List.forall_mem_cons.mpr ⟨lg_in (i := 207) rfl rfl, (fun _ h => absurd h List.not_mem_nil)⟩⟩⟩⟩⟩⟩, tyX0_ok, nmX0, by decide +kernel⟩
set_option maxRecDepth 100000 in
theorem clx_1 : clX_ok 1 (RX1, TX1, 5) := ⟨List.forall_mem_cons.mpr ⟨lg_in (i := 242) rfl rfl, List.forall_mem_cons.mpr ⟨lg_in (i := 244) rfl rfl, List.forall_mem_cons.mpr ⟨lg_in (i := 246) rfl rfl, List.forall_mem_cons.mpr ⟨lg_in (i := 248) rfl rfl, List.forall_mem_cons.mpr ⟨lg_in (i := 250) rfl rfl, (fun _ h => absurd h List.not_mem_nil)⟩⟩⟩⟩⟩, tyX1_ok, nmX1, by decide +kernel⟩
set_option maxRecDepth 100000 in
theorem clx_2 : clX_ok 2 (RX2, TX2, 5) := ⟨List.forall_mem_cons.mpr ⟨lg_in (i := 579) rfl rfl, List.forall_mem_cons.mpr ⟨lg_in (i := 581) rfl rfl, List.forall_mem_cons.mpr ⟨lg_in (i := 583) rfl rfl, List.forall_mem_cons.mpr ⟨lg_in (i := 585) rfl rfl, List.forall_mem_cons.mpr ⟨lg_in (i := 587) rfl rfl, (fun _ h => absurd h List.not_mem_nil)⟩⟩⟩⟩⟩, tyX2_ok, nmX2, by decide +kernel⟩
set_option maxRecDepth 100000 in
theorem clx_3 : clX_ok 3 (RX3, TX3, 14) := ⟨List.forall_mem_cons.mpr ⟨lg_in (i := 135) rfl rfl, List.forall_mem_cons.mpr ⟨lg_in (i := 137) rfl rfl, List.forall_mem_cons.mpr ⟨lg_in (i := 139) rfl rfl, List.forall_mem_cons.mpr ⟨lg_in (i := 141) rfl rfl, List.forall_mem_cons.mpr ⟨lg_in (i := 143) rfl rfl, List.forall_mem_cons.mpr ⟨lg_in (i := 145) rfl rfl, List.forall_mem_cons.mpr ⟨lg_in (i := 147) rfl rfl, List.forall_mem_cons.mpr ⟨lg_in (i := 149) rfl rfl, List.forall_mem_cons.mpr ⟨lg_in (i := 151) rfl rfl, List.forall_mem_cons.mpr ⟨lg_in (i := 153) rfl rfl, List.forall_mem_cons.mpr ⟨lg_in (i := 155) rfl rfl, List.forall_mem_cons.mpr ⟨lg_in (i := 157) rfl rfl, List.forall_mem_cons.mpr ⟨lg_in (i := 159) rfl rfl, List.forall_mem_cons.mpr ⟨lg_in (i := 161) rfl rfl, (fun _ h => absurd h List.not_mem_nil)⟩⟩⟩⟩⟩⟩⟩⟩⟩⟩⟩⟩⟩⟩, tyX3_ok, nmX3, by decide +kernel⟩
set_option maxRecDepth 100000 in
theorem clx_4 : clX_ok 4 (RX4, TX4, 3) := ⟨List.forall_mem_cons.mpr ⟨lg_in (i := 179) rfl rfl, List.forall_mem_cons.mpr ⟨lg_in (i := 181) rfl rfl, List.forall_mem_cons.mpr ⟨lg_in (i := 183) rfl rfl, (fun _ h => absurd h List.not_mem_nil)⟩⟩⟩, tyX4_ok, nmX4, by decide +kernel⟩
set_option maxRecDepth 100000 in
theorem clx_5 : clX_ok 5 (RX5, TX5, 4) := ⟨List.forall_mem_cons.mpr ⟨lg_in (i := 220) rfl rfl, List.forall_mem_cons.mpr ⟨lg_in (i := 222) rfl rfl, List.forall_mem_cons.mpr ⟨lg_in (i := 224) rfl rfl, List.forall_mem_cons.mpr ⟨lg_in (i := 226) rfl rfl, (fun _ h => absurd h List.not_mem_nil)⟩⟩⟩⟩, tyX5_ok, nmX5, by decide +kernel⟩
set_option maxRecDepth 100000 in
theorem clx_6 : clX_ok 6 (RX6, TX6, 4) := ⟨List.forall_mem_cons.mpr ⟨lg_in (i := 51) rfl rfl, List.forall_mem_cons.mpr ⟨lg_in (i := 53) rfl rfl, List.forall_mem_cons.mpr ⟨lg_in (i := 55) rfl rfl, List.forall_mem_cons.mpr ⟨lg_in (i := 57) rfl rfl, (fun _ h => absurd h List.not_mem_nil)⟩⟩⟩⟩, tyX6_ok, nmX6, by decide +kernel⟩
set_option maxRecDepth 100000 in
theorem clx_7 : clX_ok 7 (RX7, TX7, 8) := ⟨List.forall_mem_cons.mpr ⟨lg_in (i := 88) rfl rfl, List.forall_mem_cons.mpr ⟨lg_in (i := 90) rfl rfl, List.forall_mem_cons.mpr ⟨lg_in (i := 92) rfl rfl, List.forall_mem_cons.mpr ⟨lg_in (i := 94) rfl rfl, List.forall_mem_cons.mpr ⟨lg_in (i := 96) rfl rfl, List.forall_mem_cons.mpr ⟨lg_in (i := 98) rfl rfl, List.forall_mem_cons.mpr ⟨lg_in (i := 100) rfl rfl, List.forall_mem_cons.mpr ⟨lg_in (i := 102) rfl rfl, (fun _ h => absurd h List.not_mem_nil)⟩⟩⟩⟩⟩⟩⟩⟩, tyX7_ok, nmX7, by decide +kernel⟩
set_option maxRecDepth 100000 in
theorem clx_8 : clX_ok 8 (RX8, TX8, 11) := ⟨List.forall_mem_cons.mpr ⟨lg_in (i := 264) rfl rfl, List.forall_mem_cons.mpr ⟨lg_in (i := 266) rfl rfl, List.forall_mem_cons.mpr ⟨lg_in (i := 268) rfl rfl, List.forall_mem_cons.mpr ⟨lg_in (i := 270) rfl rfl, List.forall_mem_cons.mpr ⟨lg_in (i := 272) rfl rfl, List.forall_mem_cons.mpr ⟨lg_in (i := 274) rfl rfl, List.forall_mem_cons.mpr ⟨lg_in (i := 276) rfl rfl, List.forall_mem_cons.mpr ⟨lg_in (i := 278) rfl rfl, List.forall_mem_cons.mpr ⟨lg_in (i := 280) rfl rfl, List.forall_mem_cons.mpr ⟨lg_in (i := 282) rfl rfl, List.forall_mem_cons.mpr ⟨lg_in (i := 284) rfl rfl, (fun _ h => absurd h List.not_mem_nil)⟩⟩⟩⟩⟩⟩⟩⟩⟩⟩⟩, tyX8_ok, nmX8, by decide +kernel⟩
set_option maxRecDepth 100000 in
theorem clx_9 : clX_ok 9 (RX9, TX9, 71) := ⟨List.forall_mem_cons.mpr ⟨lg_in (i := 952) rfl rfl, List.forall_mem_cons.mpr ⟨lg_in (i := 954) rfl rfl, List.forall_mem_cons.mpr ⟨lg_in (i := 956) rfl rfl, List.forall_mem_cons.mpr ⟨lg_in (i := 958) rfl rfl, List.forall_mem_cons.mpr ⟨lg_in (i := 960) rfl rfl, List.forall_mem_cons.mpr ⟨lg_in (i := 962) rfl rfl, List.forall_mem_cons.mpr ⟨lg_in (i := 964) rfl rfl, List.forall_mem_cons.mpr ⟨lg_in (i := 966) rfl rfl, List.forall_mem_cons.mpr ⟨lg_in (i := 968) rfl rfl, List.forall_mem_cons.mpr ⟨lg_in (i := 970) rfl rfl, List.forall_mem_cons.mpr ⟨lg_in (i := 972) rfl rfl, List.forall_mem_cons.mpr ⟨lg_in (i := 974) rfl rfl, List.forall_mem_cons.mpr ⟨lg_in (i := 976) rfl rfl, List.forall_mem_cons.mpr ⟨lg_in (i := 978) rfl rfl, List.forall_mem_cons.mpr ⟨lg_in (i := 980) rfl rfl, List.forall_mem_cons.mpr ⟨lg_in (i := 982) rfl rfl, List.forall_mem_cons.mpr ⟨lg_in (i := 984) rfl rfl, List.forall_mem_cons.mpr ⟨lg_in (i := 986) rfl rfl, List.forall_mem_cons.mpr ⟨lg_in (i := 988) rfl rfl, List.forall_mem_cons.mpr ⟨lg_in (i := 990) rfl rfl, List.forall_mem_cons.mpr ⟨lg_in (i := 992) rfl rfl, List.forall_mem_cons.mpr ⟨lg_in (i := 994) rfl rfl, List.forall_mem_cons.mpr ⟨lg_in (i := 996) rfl rfl, List.forall_mem_cons.mpr ⟨lg_in (i := 998) rfl rfl, List.forall_mem_cons.mpr ⟨lg_in (i := 1000) rfl rfl, List.forall_mem_cons.mpr ⟨lg_in (i := 1002) rfl rfl, List.forall_mem_cons.mpr ⟨lg_in (i := 1004) rfl rfl, List.forall_mem_cons.mpr ⟨lg_in (i := 1006) rfl rfl, List.forall_mem_cons.mpr ⟨lg_in (i := 1008) rfl rfl, List.forall_mem_cons.mpr ⟨lg_in (i := 1010) rfl rfl, List.forall_mem_cons.mpr ⟨lg_in (i := 1012) rfl rfl, List.forall_mem_cons.mpr ⟨lg_in (i := 1014) rfl rfl, List.forall_mem_cons.mpr ⟨lg_in (i := 1016) rfl rfl, List.forall_mem_cons.mpr ⟨lg_in (i := 1018) rfl rfl, List.forall_mem_cons.mpr ⟨lg_in (i := 1020) rfl rfl, List.forall_mem_cons.mpr ⟨lg_in (i := 1022) rfl rfl, List.forall_mem_cons.mpr ⟨lg_in (i := 1024) rfl rfl, List.forall_mem_cons.mpr ⟨lg_in (i := 1026) rfl rfl, List.forall_mem_cons.mpr ⟨lg_in (i := 1028) rfl rfl, List.forall_mem_cons.mpr ⟨lg_in (i := 1030) rfl rfl, List.forall_mem_cons.mpr ⟨lg_in (i := 1032) rfl rfl, List.forall_mem_cons.mpr ⟨lg_in (i := 1034) rfl rfl, List.forall_mem_cons.mpr ⟨lg_in (i := 1036) rfl rfl, List.forall_mem_cons.mpr ⟨lg_in (i := 1038) rfl rfl, List.forall_mem_cons.mpr ⟨lg_in (i := 1040) rfl rfl, List.forall_mem_cons.mpr ⟨lg_in (i := 1042) rfl rfl, List.forall_mem_cons.mpr ⟨lg_in (i := 1044) rfl rfl, List.forall_mem_cons.mpr ⟨lg_in (i := 1046) rfl rfl, List.forall_mem_cons.mpr ⟨lg_in (i := 1048) rfl rfl, List.forall_mem_cons.mpr ⟨lg_in (i := 1050) rfl rfl, List.forall_mem_cons.mpr ⟨lg_in (i := 1052) rfl rfl, List.forall_mem_cons.mpr ⟨lg_in (i := 1054) rfl rfl, List.forall_mem_cons.mpr ⟨lg_in (i := 1056) rfl rfl, List.forall_mem_cons.mpr ⟨lg_in (i := 1058) rfl rfl, List.forall_mem_cons.mpr ⟨lg_in (i := 1060) rfl rfl, List.forall_mem_cons.mpr ⟨lg_in (i := 1062) rfl rfl, List.forall_mem_cons.mpr ⟨lg_in (i := 1064) rfl rfl, List.forall_mem_cons.mpr ⟨lg_in (i := 1066) rfl rfl, List.forall_mem_cons.mpr ⟨lg_in (i := 1068) rfl rfl, List.forall_mem_cons.mpr ⟨lg_in (i := 1070) rfl rfl, List.forall_mem_cons.mpr ⟨lg_in (i := 1072) rfl rfl, List.forall_mem_cons.mpr ⟨lg_in (i := 1074) rfl rfl, List.forall_mem_cons.mpr ⟨lg_in (i := 1076) rfl rfl, List.forall_mem_cons.mpr ⟨lg_in (i := 1078) rfl rfl, List.forall_mem_cons.mpr ⟨lg_in (i := 1080) rfl rfl, List.forall_mem_cons.mpr ⟨lg_in (i := 1082) rfl rfl, List.forall_mem_cons.mpr ⟨lg_in (i := 1084) rfl rfl, List.forall_mem_cons.mpr ⟨lg_in (i := 1086) rfl rfl, List.forall_mem_cons.mpr ⟨lg_in (i := 1088) rfl rfl, List.forall_mem_cons.mpr ⟨lg_in (i := 1090) rfl rfl, List.forall_mem_cons.mpr ⟨lg_in (i := 1092) rfl rfl, (fun _ h => absurd h List.not_mem_nil)⟩⟩⟩⟩⟩⟩⟩⟩⟩⟩⟩⟩⟩⟩⟩⟩⟩⟩⟩⟩⟩⟩⟩⟩⟩⟩⟩⟩⟩⟩⟩⟩⟩⟩⟩⟩⟩⟩⟩⟩⟩⟩⟩⟩⟩⟩⟩⟩⟩⟩⟩⟩⟩⟩⟩⟩⟩⟩⟩⟩⟩⟩⟩⟩⟩⟩⟩⟩⟩⟩⟩, tyX9_ok, nmX9, by decide +kernel⟩
