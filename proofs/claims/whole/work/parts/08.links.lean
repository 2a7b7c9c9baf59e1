abbrev mX0_init : Mth := (yX0_init, cX0_init, 3, none)
abbrev mX0_left : Mth := (yX0_left, cX0_left, 6, (some .long))
abbrev mX0_cleanIn : Mth := (yX0_cleanIn, cX0_cleanIn, 5, (some .long))
abbrev mX0_sureIn : Mth := (yX0_sureIn, cX0_sureIn, 7, (some .int))
abbrev mX0_judge : Mth := (yX0_judge, cX0_judge, 9, (some .int))
abbrev mX0_fewestRivals : Mth := (yX0_fewestRivals, cX0_fewestRivals, 7, (some .int))
abbrev mX0_areRivals : Mth := (yX0_areRivals, cX0_areRivals, 13, (some .boolean))
abbrev mX0_bestQuestion : Mth := (yX0_bestQuestion, cX0_bestQuestion, 11, (some .int))
abbrev mX0_inDoubt : Mth := (yX0_inDoubt, cX0_inDoubt, 6, (some .int))
abbrev mX1_init : Mth := (yX1_init, cX1_init, 2, none)
abbrev mX1_append : Mth := (yX1_append, cX1_append, 5, (some .int))
abbrev mX1_readAll : Mth := (yX1_readAll, cX1_readAll, 3, (some .int))
abbrev mX1_readStatement : Mth := (yX1_readStatement, cX1_readStatement, 1, (some .boolean))
abbrev mX1_readThing : Mth := (yX1_readThing, cX1_readThing, 4, (some .boolean))
abbrev mX1_readTaken : Mth := (yX1_readTaken, cX1_readTaken, 3, (some .boolean))
abbrev mX1_readEvent : Mth := (yX1_readEvent, cX1_readEvent, 6, (some .boolean))
abbrev mX1_readUnknown : Mth := (yX1_readUnknown, cX1_readUnknown, 3, (some .int))
abbrev mX1_readNumber : Mth := (yX1_readNumber, cX1_readNumber, 7, (some .int))
abbrev mX1_sign : Mth := (yX1_sign, cX1_sign, 1, (some .int))
abbrev mX1_digit : Mth := (yX1_digit, cX1_digit, 2, (some .int))
abbrev mX1_skip : Mth := (yX1_skip, cX1_skip, 2, (some .boolean))
abbrev mX2_init : Mth := (yX2_init, cX2_init, 3, none)
abbrev mX2_fewestWashes : Mth := (yX2_fewestWashes, cX2_fewestWashes, 8, (some .int))
abbrev mX2_cleansAll : Mth := (yX2_cleansAll, cX2_cleansAll, 7, (some .boolean))
abbrev mX2_firstOrder : Mth := (yX2_firstOrder, cX2_firstOrder, 4, (some .int))
abbrev mX2_orderFrom : Mth := (yX2_orderFrom, cX2_orderFrom, 8, (some .int))
abbrev mX2_keepRow : Mth := (yX2_keepRow, cX2_keepRow, 2, none)
abbrev mX2_takeRow : Mth := (yX2_takeRow, cX2_takeRow, 2, none)
abbrev mX3_init : Mth := (yX3_init, cX3_init, 1, none)
abbrev mX3_isThere : Mth := (yX3_isThere, cX3_isThere, 2, (some .boolean))
abbrev mX3_areThere : Mth := (yX3_areThere, cX3_areThere, 2, (some .boolean))
abbrev mX3_kindOf : Mth := (yX3_kindOf, cX3_kindOf, 2, (some .int))
abbrev mX3_isHidden : Mth := (yX3_isHidden, cX3_isHidden, 2, (some .boolean))
abbrev mX3_isWet : Mth := (yX3_isWet, cX3_isWet, 2, (some .boolean))
abbrev mX3_hasPartnerAhead : Mth := (yX3_hasPartnerAhead, cX3_hasPartnerAhead, 1, (some .boolean))
abbrev mX3_ruleOf : Mth := (yX3_ruleOf, cX3_ruleOf, 2, (some .int))
abbrev mX3_takenBy : Mth := (yX3_takenBy, cX3_takenBy, 2, (some .int))
abbrev mX3_eventPart : Mth := (yX3_eventPart, cX3_eventPart, 4, (some .int))
abbrev mX3_factPart : Mth := (yX3_factPart, cX3_factPart, 4, (some .int))
abbrev mX3_stepPart : Mth := (yX3_stepPart, cX3_stepPart, 4, (some .int))
abbrev mX3_addThing : Mth := (yX3_addThing, cX3_addThing, 7, (some .int))
abbrev mX3_setTaken : Mth := (yX3_setTaken, cX3_setTaken, 4, (some .int))
abbrev mX3_setRule : Mth := (yX3_setRule, cX3_setRule, 4, (some .int))
abbrev mX3_addEvent : Mth := (yX3_addEvent, cX3_addEvent, 7, (some .int))
abbrev mX3_dropEvent : Mth := (yX3_dropEvent, cX3_dropEvent, 1, (some .int))
abbrev mX3_addFact : Mth := (yX3_addFact, cX3_addFact, 5, (some .int))
abbrev mX3_addStep : Mth := (yX3_addStep, cX3_addStep, 5, (some .int))
abbrev mX3_namedUnknowns : Mth := (yX3_namedUnknowns, cX3_namedUnknowns, 4, (some .int))
abbrev mX3_everyWay : Mth := (yX3_everyWay, cX3_everyWay, 5, (some .long))
abbrev mX3_copyFrom : Mth := (yX3_copyFrom, cX3_copyFrom, 2, none)
abbrev mX3_copyRow : Mth := (yX3_copyRow, cX3_copyRow, 2, none)
abbrev mX4_init : Mth := (yX4_init, cX4_init, 3, none)
abbrev mX4_refresh : Mth := (yX4_refresh, cX4_refresh, 3, none)
abbrev mX4_playFromStart : Mth := (yX4_playFromStart, cX4_playFromStart, 2, none)
abbrev mX4_uncleanAt : Mth := (yX4_uncleanAt, cX4_uncleanAt, 3, (some .long))
abbrev mX4_degree : Mth := (yX4_degree, cX4_degree, 4, (some .int))
abbrev mX4_areClean : Mth := (yX4_areClean, cX4_areClean, 5, (some .boolean))
abbrev mX4_originBits : Mth := (yX4_originBits, cX4_originBits, 12, (some .int))
abbrev mX4_numberSources : Mth := (yX4_numberSources, cX4_numberSources, 3, none)
abbrev mX4_orderByHours : Mth := (yX4_orderByHours, cX4_orderByHours, 3, none)
abbrev mX4_begin : Mth := (yX4_begin, cX4_begin, 2, none)
abbrev mX4_playHours : Mth := (yX4_playHours, cX4_playHours, 11, none)
abbrev mX4_cleanTheWashed : Mth := (yX4_cleanTheWashed, cX4_cleanTheWashed, 3, none)
abbrev mX4_happen : Mth := (yX4_happen, cX4_happen, 6, none)
abbrev mX4_alterOne : Mth := (yX4_alterOne, cX4_alterOne, 9, none)
abbrev mX4_makeClean : Mth := (yX4_makeClean, cX4_makeClean, 5, none)
abbrev mX4_spring : Mth := (yX4_spring, cX4_spring, 7, none)
abbrev mX4_keepFirstDegree : Mth := (yX4_keepFirstDegree, cX4_keepFirstDegree, 2, none)
abbrev mX4_give : Mth := (yX4_give, cX4_give, 11, none)
abbrev mX4_shareAmongJoined : Mth := (yX4_shareAmongJoined, cX4_shareAmongJoined, 8, none)
abbrev mX4_lessen : Mth := (yX4_lessen, cX4_lessen, 11, (some .long))
abbrev mX5_init : Mth := (yX5_init, cX5_init, 1, none)
abbrev mX5_thing : Mth := (yX5_thing, cX5_thing, 4, (some .int))
abbrev mX5_takes : Mth := (yX5_takes, cX5_takes, 4, (some .int))
abbrev mX5_law : Mth := (yX5_law, cX5_law, 3, (some .int))
abbrev mX5_event : Mth := (yX5_event, cX5_event, 6, (some .int))
abbrev mX5_of : Mth := (yX5_of, cX5_of, 3, (some .int))
abbrev mX5_takeBack : Mth := (yX5_takeBack, cX5_takeBack, 1, (some .int))
abbrev mX5_feed : Mth := (yX5_feed, cX5_feed, 4, (some .int))
abbrev mX5_house : Mth := (yX5_house, cX5_house, 1, (some .int))
abbrev mX5_state : Mth := (yX5_state, cX5_state, 4, (some .int))
abbrev mX5_when : Mth := (yX5_when, cX5_when, 4, (some .int))
abbrev mX5_ways : Mth := (yX5_ways, cX5_ways, 2, (some .int))
abbrev mX5_fact : Mth := (yX5_fact, cX5_fact, 4, (some .int))
abbrev mX5_forget : Mth := (yX5_forget, cX5_forget, 2, (some .int))
abbrev mX5_sure : Mth := (yX5_sure, cX5_sure, 4, (some .int))
abbrev mX5_many : Mth := (yX5_many, cX5_many, 4, (some .int))
abbrev mX5_judged : Mth := (yX5_judged, cX5_judged, 4, (some .int))
abbrev mX5_rivals : Mth := (yX5_rivals, cX5_rivals, 2, (some .int))
abbrev mX5_question : Mth := (yX5_question, cX5_question, 3, (some .int))
abbrev mX5_sources : Mth := (yX5_sources, cX5_sources, 6, (some .int))
abbrev mX5_washing : Mth := (yX5_washing, cX5_washing, 3, (some .int))
abbrev mX5_step : Mth := (yX5_step, cX5_step, 4, (some .int))
abbrev mX5_clear : Mth := (yX5_clear, cX5_clear, 2, (some .int))
abbrev mX5_cooking : Mth := (yX5_cooking, cX5_cooking, 2, (some .int))
abbrev mX5_beside : Mth := (yX5_beside, cX5_beside, 8, (some .int))
abbrev mX5_image : Mth := (yX5_image, cX5_image, 1, (some .int))
abbrev mX5_restore : Mth := (yX5_restore, cX5_restore, 1, (some .int))
abbrev mX5_count : Mth := (yX5_count, cX5_count, 2, (some .int))
abbrev mX5_refuse : Mth := (yX5_refuse, cX5_refuse, 3, (some .int))
abbrev mX5_thingAndHour : Mth := (yX5_thingAndHour, cX5_thingAndHour, 3, (some .int))
abbrev mX5_isUnknownAbove : Mth := (yX5_isUnknownAbove, cX5_isUnknownAbove, 1, (some .boolean))
abbrev mX5_hasSecond : Mth := (yX5_hasSecond, cX5_hasSecond, 1, (some .boolean))
abbrev mX5_isVessel : Mth := (yX5_isVessel, cX5_isVessel, 1, (some .boolean))
abbrev mX5_isFood : Mth := (yX5_isFood, cX5_isFood, 1, (some .boolean))
abbrev mX5_waysToldBy : Mth := (yX5_waysToldBy, cX5_waysToldBy, 1, (some .long))
abbrev mX6_init : Mth := (yX6_init, cX6_init, 1, none)
abbrev mX6_no : Mth := (yX6_no, cX6_no, 2, (some .int))
abbrev mX6_isIn : Mth := (yX6_isIn, cX6_isIn, 3, (some .boolean))
abbrev mX6_out : Mth := (yX6_out, cX6_out, 3, (some .int))
abbrev mX6_isThing : Mth := (yX6_isThing, cX6_isThing, 2, (some .boolean))
abbrev mX6_mayJoin : Mth := (yX6_mayJoin, cX6_mayJoin, 1, (some .boolean))
abbrev mX6_comes : Mth := (yX6_comes, cX6_comes, 4, (some .int))
abbrev mX6_thing : Mth := (yX6_thing, cX6_thing, 4, (some .int))
abbrev mX6_takes : Mth := (yX6_takes, cX6_takes, 7, (some .int))
abbrev mX6_law : Mth := (yX6_law, cX6_law, 5, (some .int))
abbrev mX6_isOfTwo : Mth := (yX6_isOfTwo, cX6_isOfTwo, 1, (some .boolean))
abbrev mX6_happens : Mth := (yX6_happens, cX6_happens, 6, (some .int))
abbrev mX6_event : Mth := (yX6_event, cX6_event, 7, (some .int))
abbrev mX6_of : Mth := (yX6_of, cX6_of, 3, (some .int))
abbrev mX6_takeBack : Mth := (yX6_takeBack, cX6_takeBack, 1, (some .int))
abbrev mX6_feed : Mth := (yX6_feed, cX6_feed, 6, (some .int))
abbrev mX6_sign : Mth := (yX6_sign, cX6_sign, 1, (some .int))
abbrev mX6_takesSign : Mth := (yX6_takesSign, cX6_takesSign, 2, (some .boolean))
abbrev mX6_digit : Mth := (yX6_digit, cX6_digit, 3, (some .int))
abbrev mX6_number : Mth := (yX6_number, cX6_number, 4, (some .int))
abbrev mX6_readsThing : Mth := (yX6_readsThing, cX6_readsThing, 4, (some .boolean))
abbrev mX6_readsEvent : Mth := (yX6_readsEvent, cX6_readsEvent, 8, (some .boolean))
abbrev mX6_readsTakes : Mth := (yX6_readsTakes, cX6_readsTakes, 3, (some .boolean))
abbrev mX6_statement : Mth := (yX6_statement, cX6_statement, 3, (some .boolean))
abbrev mX6_house : Mth := (yX6_house, cX6_house, 3, (some .int))
abbrev mX6_begins : Mth := (yX6_begins, cX6_begins, 4, none)
abbrev mX6_sets : Mth := (yX6_sets, cX6_sets, 3, none)
abbrev mX6_gives : Mth := (yX6_gives, cX6_gives, 5, none)
abbrev mX6_isVessel : Mth := (yX6_isVessel, cX6_isVessel, 2, (some .boolean))
abbrev mX6_cleans : Mth := (yX6_cleans, cX6_cleans, 2, none)
abbrev mX6_washes : Mth := (yX6_washes, cX6_washes, 2, none)
abbrev mX6_joins : Mth := (yX6_joins, cX6_joins, 6, none)
abbrev mX6_does : Mth := (yX6_does, cX6_does, 9, none)
abbrev mX6_sunset : Mth := (yX6_sunset, cX6_sunset, 2, none)
abbrev mX6_isSo : Mth := (yX6_isSo, cX6_isSo, 4, (some .boolean))
abbrev mX6_goes : Mth := (yX6_goes, cX6_goes, 4, none)
abbrev mX6_runs : Mth := (yX6_runs, cX6_runs, 5, none)
abbrev mX6_why : Mth := (yX6_why, cX6_why, 3, (some .int))
abbrev mX6_state : Mth := (yX6_state, cX6_state, 5, (some .int))
abbrev mX6_when : Mth := (yX6_when, cX6_when, 5, (some .int))
abbrev mX6_named : Mth := (yX6_named, cX6_named, 3, (some .int))
abbrev mX6_agrees : Mth := (yX6_agrees, cX6_agrees, 4, (some .boolean))
abbrev mX6_findLeft : Mth := (yX6_findLeft, cX6_findLeft, 4, (some .int))
abbrev mX6_bits : Mth := (yX6_bits, cX6_bits, 3, (some .int))
abbrev mX6_ways : Mth := (yX6_ways, cX6_ways, 2, (some .int))
abbrev mX6_fact : Mth := (yX6_fact, cX6_fact, 5, (some .int))
abbrev mX6_forget : Mth := (yX6_forget, cX6_forget, 2, (some .int))
abbrev mX6_findClean : Mth := (yX6_findClean, cX6_findClean, 4, none)
abbrev mX6_cleanNow : Mth := (yX6_cleanNow, cX6_cleanNow, 3, (some .int))
abbrev mX6_manyOf : Mth := (yX6_manyOf, cX6_manyOf, 4, (some .int))
abbrev mX6_sureOf : Mth := (yX6_sureOf, cX6_sureOf, 3, (some .int))
abbrev mX6_sure : Mth := (yX6_sure, cX6_sure, 4, (some .int))
abbrev mX6_many : Mth := (yX6_many, cX6_many, 4, (some .int))
abbrev mX6_judged : Mth := (yX6_judged, cX6_judged, 7, (some .int))
abbrev mX6_areRivals : Mth := (yX6_areRivals, cX6_areRivals, 4, (some .boolean))
abbrev mX6_rivals : Mth := (yX6_rivals, cX6_rivals, 5, (some .int))
abbrev mX6_doubts : Mth := (yX6_doubts, cX6_doubts, 7, (some .int))
abbrev mX6_question : Mth := (yX6_question, cX6_question, 11, (some .int))
abbrev mX6_sources : Mth := (yX6_sources, cX6_sources, 6, (some .int))
abbrev mX6_isEnough : Mth := (yX6_isEnough, cX6_isEnough, 6, (some .boolean))
abbrev mX6_washing : Mth := (yX6_washing, cX6_washing, 7, (some .int))
abbrev mX6_step : Mth := (yX6_step, cX6_step, 4, (some .int))
abbrev mX6_clear : Mth := (yX6_clear, cX6_clear, 2, (some .int))
abbrev mX6_cooks : Mth := (yX6_cooks, cX6_cooks, 4, (some .boolean))
abbrev mX6_nextLine : Mth := (yX6_nextLine, cX6_nextLine, 6, (some .boolean))
abbrev mX6_cooking : Mth := (yX6_cooking, cX6_cooking, 6, (some .int))
abbrev mX6_beside : Mth := (yX6_beside, cX6_beside, 5, (some .int))
abbrev mX6_passes : Mth := (yX6_passes, cX6_passes, 3, none)
abbrev mX6_passOne : Mth := (yX6_passOne, cX6_passOne, 3, (some .int))
abbrev mX6_passesAll : Mth := (yX6_passesAll, cX6_passesAll, 1, none)
abbrev mX6_image : Mth := (yX6_image, cX6_image, 1, (some .int))
abbrev mX6_restore : Mth := (yX6_restore, cX6_restore, 1, (some .int))
abbrev mX6_count : Mth := (yX6_count, cX6_count, 2, (some .int))
abbrev mJ6_bitCount_0f7a4 : Mth := (yJ6_bitCount_0f7a4, cJ6_bitCount_0f7a4, 1, (some .int))
abbrev mJ13_bitCount_95d88 : Mth := (yJ13_bitCount_95d88, cJ13_bitCount_95d88, 2, (some .int))
abbrev mJ9_max_7cf53 : Mth := (yJ9_max_7cf53, cJ9_max_7cf53, 2, (some .int))
abbrev mJ9_min_7cf53 : Mth := (yJ9_min_7cf53, cJ9_min_7cf53, 2, (some .int))
abbrev mJ7_fill_d0a16 : Mth := (yJ7_fill_d0a16, cJ7_fill_d0a16, 5, none)
abbrev mJ7_fill_53178 : Mth := (yJ7_fill_53178, cJ7_fill_53178, 4, none)
theorem ini_RX5 : Cond.initialized RX5 ∈ tblG := tblG_ok (List.mem_of_getElem? (i := 69) (by decide +kernel)) rfl
theorem ini_RX0 : Cond.initialized RX0 ∈ tblG := tblG_ok (List.mem_of_getElem? (i := 72) (by decide +kernel)) rfl
theorem ini_RX1 : Cond.initialized RX1 ∈ tblG := tblG_ok (List.mem_of_getElem? (i := 74) (by decide +kernel)) rfl
theorem ini_RX2 : Cond.initialized RX2 ∈ tblG := tblG_ok (List.mem_of_getElem? (i := 73) (by decide +kernel)) rfl
theorem ini_RX3 : Cond.initialized RX3 ∈ tblG := tblG_ok (List.mem_of_getElem? (i := 70) (by decide +kernel)) rfl
theorem ini_RX4 : Cond.initialized RX4 ∈ tblG := tblG_ok (List.mem_of_getElem? (i := 71) (by decide +kernel)) rfl
theorem ini_RX6 : Cond.initialized RX6 ∈ tblG := tblG_ok (List.mem_of_getElem? (i := 75) (by decide +kernel)) rfl
theorem ini_RJ6 : Cond.initialized RJ6 ∈ tblG := tblG_ok (List.mem_of_getElem? (i := 80) (by decide +kernel)) rfl
theorem ini_RJ13 : Cond.initialized RJ13 ∈ tblG := tblG_ok (List.mem_of_getElem? (i := 79) (by decide +kernel)) rfl
theorem ini_RJ9 : Cond.initialized RJ9 ∈ tblG := tblG_ok (List.mem_of_getElem? (i := 77) (by decide +kernel)) rfl
theorem ini_RJ7 : Cond.initialized RJ7 ∈ tblG := tblG_ok (List.mem_of_getElem? (i := 76) (by decide +kernel)) rfl
set_option maxRecDepth 100000 in
theorem cd_X0_init : Cond.code yX0_init cX0_init 3 (mX0_init).2.2.2 ∈ tblG := tblG_ok (List.mem_of_getElem? (i := 196) rfl) rfl
theorem mk_X0_init : MOK mX0_init 2 := ⟨ini_RX0, cd_X0_init, ⟨by decide +kernel, by decide +kernel⟩, by decide +kernel, by decide⟩
theorem im_X0_init : Cond.instanceMethod yX0_init ∈ tblG := tblG_ok (List.mem_of_getElem? (i := 195) (by decide +kernel)) rfl
set_option maxRecDepth 100000 in
theorem cd_X0_left : Cond.code yX0_left cX0_left 6 (mX0_left).2.2.2 ∈ tblG := tblG_ok (List.mem_of_getElem? (i := 531) rfl) rfl
theorem mk_X0_left : MOK mX0_left 0 := ⟨ini_RX0, cd_X0_left, ⟨by decide +kernel, by decide +kernel⟩, by decide +kernel, by decide⟩
theorem im_X0_left : Cond.instanceMethod yX0_left ∈ tblG := tblG_ok (List.mem_of_getElem? (i := 529) (by decide +kernel)) rfl
theorem se_X0_left : Cond.selects RX0 yX0_left yX0_left ∈ tblG := tblG_ok (List.mem_of_getElem? (i := 530) (by decide +kernel)) rfl
set_option maxRecDepth 100000 in
theorem cd_X0_cleanIn : Cond.code yX0_cleanIn cX0_cleanIn 5 (mX0_cleanIn).2.2.2 ∈ tblG := tblG_ok (List.mem_of_getElem? (i := 573) rfl) rfl
theorem mk_X0_cleanIn : MOK mX0_cleanIn 3 := ⟨ini_RX0, cd_X0_cleanIn, ⟨by decide +kernel, by decide +kernel⟩, by decide +kernel, by decide⟩
theorem im_X0_cleanIn : Cond.instanceMethod yX0_cleanIn ∈ tblG := tblG_ok (List.mem_of_getElem? (i := 571) (by decide +kernel)) rfl
theorem se_X0_cleanIn : Cond.selects RX0 yX0_cleanIn yX0_cleanIn ∈ tblG := tblG_ok (List.mem_of_getElem? (i := 572) (by decide +kernel)) rfl
set_option maxRecDepth 100000 in
theorem cd_X0_sureIn : Cond.code yX0_sureIn cX0_sureIn 7 (mX0_sureIn).2.2.2 ∈ tblG := tblG_ok (List.mem_of_getElem? (i := 569) rfl) rfl
theorem mk_X0_sureIn : MOK mX0_sureIn 3 := ⟨ini_RX0, cd_X0_sureIn, ⟨by decide +kernel, by decide +kernel⟩, by decide +kernel, by decide⟩
theorem im_X0_sureIn : Cond.instanceMethod yX0_sureIn ∈ tblG := tblG_ok (List.mem_of_getElem? (i := 567) (by decide +kernel)) rfl
theorem se_X0_sureIn : Cond.selects RX0 yX0_sureIn yX0_sureIn ∈ tblG := tblG_ok (List.mem_of_getElem? (i := 568) (by decide +kernel)) rfl
set_option maxRecDepth 100000 in
theorem cd_X0_judge : Cond.code yX0_judge cX0_judge 9 (mX0_judge).2.2.2 ∈ tblG := tblG_ok (List.mem_of_getElem? (i := 586) rfl) rfl
theorem mk_X0_judge : MOK mX0_judge 3 := ⟨ini_RX0, cd_X0_judge, ⟨by decide +kernel, by decide +kernel⟩, by decide +kernel, by decide⟩
theorem im_X0_judge : Cond.instanceMethod yX0_judge ∈ tblG := tblG_ok (List.mem_of_getElem? (i := 584) (by decide +kernel)) rfl
theorem se_X0_judge : Cond.selects RX0 yX0_judge yX0_judge ∈ tblG := tblG_ok (List.mem_of_getElem? (i := 585) (by decide +kernel)) rfl
set_option maxRecDepth 100000 in
theorem cd_X0_fewestRivals : Cond.code yX0_fewestRivals cX0_fewestRivals 7 (mX0_fewestRivals).2.2.2 ∈ tblG := tblG_ok (List.mem_of_getElem? (i := 601) rfl) rfl
theorem mk_X0_fewestRivals : MOK mX0_fewestRivals 2 := ⟨ini_RX0, cd_X0_fewestRivals, ⟨by decide +kernel, by decide +kernel⟩, by decide +kernel, by decide⟩
theorem im_X0_fewestRivals : Cond.instanceMethod yX0_fewestRivals ∈ tblG := tblG_ok (List.mem_of_getElem? (i := 599) (by decide +kernel)) rfl
theorem se_X0_fewestRivals : Cond.selects RX0 yX0_fewestRivals yX0_fewestRivals ∈ tblG := tblG_ok (List.mem_of_getElem? (i := 600) (by decide +kernel)) rfl
set_option maxRecDepth 100000 in
theorem cd_X0_areRivals : Cond.code yX0_areRivals cX0_areRivals 13 (mX0_areRivals).2.2.2 ∈ tblG := tblG_ok (List.mem_of_getElem? (i := 605) rfl) rfl
theorem mk_X0_areRivals : MOK mX0_areRivals 5 := ⟨ini_RX0, cd_X0_areRivals, ⟨by decide +kernel, by decide +kernel⟩, by decide +kernel, by decide⟩
theorem im_X0_areRivals : Cond.instanceMethod yX0_areRivals ∈ tblG := tblG_ok (List.mem_of_getElem? (i := 604) (by decide +kernel)) rfl
theorem se_X0_areRivals : Cond.selects RX0 yX0_areRivals yX0_areRivals ∈ tblG := tblG_ok (List.mem_of_getElem? (i := 21) (by decide +kernel)) rfl
set_option maxRecDepth 100000 in
theorem cd_X0_bestQuestion : Cond.code yX0_bestQuestion cX0_bestQuestion 11 (mX0_bestQuestion).2.2.2 ∈ tblG := tblG_ok (List.mem_of_getElem? (i := 613) rfl) rfl
theorem mk_X0_bestQuestion : MOK mX0_bestQuestion 3 := ⟨ini_RX0, cd_X0_bestQuestion, ⟨by decide +kernel, by decide +kernel⟩, by decide +kernel, by decide⟩
theorem im_X0_bestQuestion : Cond.instanceMethod yX0_bestQuestion ∈ tblG := tblG_ok (List.mem_of_getElem? (i := 611) (by decide +kernel)) rfl
theorem se_X0_bestQuestion : Cond.selects RX0 yX0_bestQuestion yX0_bestQuestion ∈ tblG := tblG_ok (List.mem_of_getElem? (i := 612) (by decide +kernel)) rfl
set_option maxRecDepth 100000 in
theorem cd_X0_inDoubt : Cond.code yX0_inDoubt cX0_inDoubt 6 (mX0_inDoubt).2.2.2 ∈ tblG := tblG_ok (List.mem_of_getElem? (i := 619) rfl) rfl
theorem mk_X0_inDoubt : MOK mX0_inDoubt 2 := ⟨ini_RX0, cd_X0_inDoubt, ⟨by decide +kernel, by decide +kernel⟩, by decide +kernel, by decide⟩
theorem im_X0_inDoubt : Cond.instanceMethod yX0_inDoubt ∈ tblG := tblG_ok (List.mem_of_getElem? (i := 618) (by decide +kernel)) rfl
theorem se_X0_inDoubt : Cond.selects RX0 yX0_inDoubt yX0_inDoubt ∈ tblG := tblG_ok (List.mem_of_getElem? (i := 22) (by decide +kernel)) rfl
set_option maxRecDepth 100000 in
theorem cd_X1_init : Cond.code yX1_init cX1_init 2 (mX1_init).2.2.2 ∈ tblG := tblG_ok (List.mem_of_getElem? (i := 225) rfl) rfl
theorem mk_X1_init : MOK mX1_init 1 := ⟨ini_RX1, cd_X1_init, ⟨by decide +kernel, by decide +kernel⟩, by decide +kernel, by decide⟩
theorem im_X1_init : Cond.instanceMethod yX1_init ∈ tblG := tblG_ok (List.mem_of_getElem? (i := 224) (by decide +kernel)) rfl
set_option maxRecDepth 100000 in
theorem cd_X1_append : Cond.code yX1_append cX1_append 5 (mX1_append).2.2.2 ∈ tblG := tblG_ok (List.mem_of_getElem? (i := 349) rfl) rfl
theorem mk_X1_append : MOK mX1_append 2 := ⟨ini_RX1, cd_X1_append, ⟨by decide +kernel, by decide +kernel⟩, by decide +kernel, by decide⟩
theorem im_X1_append : Cond.instanceMethod yX1_append ∈ tblG := tblG_ok (List.mem_of_getElem? (i := 347) (by decide +kernel)) rfl
theorem se_X1_append : Cond.selects RX1 yX1_append yX1_append ∈ tblG := tblG_ok (List.mem_of_getElem? (i := 348) (by decide +kernel)) rfl
set_option maxRecDepth 100000 in
theorem cd_X1_readAll : Cond.code yX1_readAll cX1_readAll 3 (mX1_readAll).2.2.2 ∈ tblG := tblG_ok (List.mem_of_getElem? (i := 357) rfl) rfl
theorem mk_X1_readAll : MOK mX1_readAll 0 := ⟨ini_RX1, cd_X1_readAll, ⟨by decide +kernel, by decide +kernel⟩, by decide +kernel, by decide⟩
theorem im_X1_readAll : Cond.instanceMethod yX1_readAll ∈ tblG := tblG_ok (List.mem_of_getElem? (i := 355) (by decide +kernel)) rfl
theorem se_X1_readAll : Cond.selects RX1 yX1_readAll yX1_readAll ∈ tblG := tblG_ok (List.mem_of_getElem? (i := 356) (by decide +kernel)) rfl
set_option maxRecDepth 100000 in
theorem cd_X1_readStatement : Cond.code yX1_readStatement cX1_readStatement 1 (mX1_readStatement).2.2.2 ∈ tblG := tblG_ok (List.mem_of_getElem? (i := 361) rfl) rfl
theorem mk_X1_readStatement : MOK mX1_readStatement 0 := ⟨ini_RX1, cd_X1_readStatement, ⟨by decide +kernel, by decide +kernel⟩, by decide +kernel, by decide⟩
theorem im_X1_readStatement : Cond.instanceMethod yX1_readStatement ∈ tblG := tblG_ok (List.mem_of_getElem? (i := 360) (by decide +kernel)) rfl
theorem se_X1_readStatement : Cond.selects RX1 yX1_readStatement yX1_readStatement ∈ tblG := tblG_ok (List.mem_of_getElem? (i := 1) (by decide +kernel)) rfl
set_option maxRecDepth 100000 in
theorem cd_X1_readThing : Cond.code yX1_readThing cX1_readThing 4 (mX1_readThing).2.2.2 ∈ tblG := tblG_ok (List.mem_of_getElem? (i := 369) rfl) rfl
theorem mk_X1_readThing : MOK mX1_readThing 0 := ⟨ini_RX1, cd_X1_readThing, ⟨by decide +kernel, by decide +kernel⟩, by decide +kernel, by decide⟩
theorem im_X1_readThing : Cond.instanceMethod yX1_readThing ∈ tblG := tblG_ok (List.mem_of_getElem? (i := 368) (by decide +kernel)) rfl
theorem se_X1_readThing : Cond.selects RX1 yX1_readThing yX1_readThing ∈ tblG := tblG_ok (List.mem_of_getElem? (i := 3) (by decide +kernel)) rfl
set_option maxRecDepth 100000 in
theorem cd_X1_readTaken : Cond.code yX1_readTaken cX1_readTaken 3 (mX1_readTaken).2.2.2 ∈ tblG := tblG_ok (List.mem_of_getElem? (i := 397) rfl) rfl
theorem mk_X1_readTaken : MOK mX1_readTaken 0 := ⟨ini_RX1, cd_X1_readTaken, ⟨by decide +kernel, by decide +kernel⟩, by decide +kernel, by decide⟩
theorem im_X1_readTaken : Cond.instanceMethod yX1_readTaken ∈ tblG := tblG_ok (List.mem_of_getElem? (i := 396) (by decide +kernel)) rfl
theorem se_X1_readTaken : Cond.selects RX1 yX1_readTaken yX1_readTaken ∈ tblG := tblG_ok (List.mem_of_getElem? (i := 9) (by decide +kernel)) rfl
set_option maxRecDepth 100000 in
theorem cd_X1_readEvent : Cond.code yX1_readEvent cX1_readEvent 6 (mX1_readEvent).2.2.2 ∈ tblG := tblG_ok (List.mem_of_getElem? (i := 383) rfl) rfl
theorem mk_X1_readEvent : MOK mX1_readEvent 0 := ⟨ini_RX1, cd_X1_readEvent, ⟨by decide +kernel, by decide +kernel⟩, by decide +kernel, by decide⟩
theorem im_X1_readEvent : Cond.instanceMethod yX1_readEvent ∈ tblG := tblG_ok (List.mem_of_getElem? (i := 382) (by decide +kernel)) rfl
theorem se_X1_readEvent : Cond.selects RX1 yX1_readEvent yX1_readEvent ∈ tblG := tblG_ok (List.mem_of_getElem? (i := 6) (by decide +kernel)) rfl
set_option maxRecDepth 100000 in
theorem cd_X1_readUnknown : Cond.code yX1_readUnknown cX1_readUnknown 3 (mX1_readUnknown).2.2.2 ∈ tblG := tblG_ok (List.mem_of_getElem? (i := 392) rfl) rfl
theorem mk_X1_readUnknown : MOK mX1_readUnknown 0 := ⟨ini_RX1, cd_X1_readUnknown, ⟨by decide +kernel, by decide +kernel⟩, by decide +kernel, by decide⟩
theorem im_X1_readUnknown : Cond.instanceMethod yX1_readUnknown ∈ tblG := tblG_ok (List.mem_of_getElem? (i := 391) (by decide +kernel)) rfl
theorem se_X1_readUnknown : Cond.selects RX1 yX1_readUnknown yX1_readUnknown ∈ tblG := tblG_ok (List.mem_of_getElem? (i := 8) (by decide +kernel)) rfl
set_option maxRecDepth 100000 in
theorem cd_X1_readNumber : Cond.code yX1_readNumber cX1_readNumber 7 (mX1_readNumber).2.2.2 ∈ tblG := tblG_ok (List.mem_of_getElem? (i := 387) rfl) rfl
theorem mk_X1_readNumber : MOK mX1_readNumber 3 := ⟨ini_RX1, cd_X1_readNumber, ⟨by decide +kernel, by decide +kernel⟩, by decide +kernel, by decide⟩
theorem im_X1_readNumber : Cond.instanceMethod yX1_readNumber ∈ tblG := tblG_ok (List.mem_of_getElem? (i := 386) (by decide +kernel)) rfl
theorem se_X1_readNumber : Cond.selects RX1 yX1_readNumber yX1_readNumber ∈ tblG := tblG_ok (List.mem_of_getElem? (i := 7) (by decide +kernel)) rfl
set_option maxRecDepth 100000 in
theorem cd_X1_sign : Cond.code yX1_sign cX1_sign 1 (mX1_sign).2.2.2 ∈ tblG := tblG_ok (List.mem_of_getElem? (i := 365) rfl) rfl
theorem mk_X1_sign : MOK mX1_sign 0 := ⟨ini_RX1, cd_X1_sign, ⟨by decide +kernel, by decide +kernel⟩, by decide +kernel, by decide⟩
theorem im_X1_sign : Cond.instanceMethod yX1_sign ∈ tblG := tblG_ok (List.mem_of_getElem? (i := 364) (by decide +kernel)) rfl
theorem se_X1_sign : Cond.selects RX1 yX1_sign yX1_sign ∈ tblG := tblG_ok (List.mem_of_getElem? (i := 2) (by decide +kernel)) rfl
set_option maxRecDepth 100000 in
theorem cd_X1_digit : Cond.code yX1_digit cX1_digit 2 (mX1_digit).2.2.2 ∈ tblG := tblG_ok (List.mem_of_getElem? (i := 373) rfl) rfl
theorem mk_X1_digit : MOK mX1_digit 0 := ⟨ini_RX1, cd_X1_digit, ⟨by decide +kernel, by decide +kernel⟩, by decide +kernel, by decide⟩
theorem im_X1_digit : Cond.instanceMethod yX1_digit ∈ tblG := tblG_ok (List.mem_of_getElem? (i := 372) (by decide +kernel)) rfl
theorem se_X1_digit : Cond.selects RX1 yX1_digit yX1_digit ∈ tblG := tblG_ok (List.mem_of_getElem? (i := 4) (by decide +kernel)) rfl
set_option maxRecDepth 100000 in
theorem cd_X1_skip : Cond.code yX1_skip cX1_skip 2 (mX1_skip).2.2.2 ∈ tblG := tblG_ok (List.mem_of_getElem? (i := 378) rfl) rfl
theorem mk_X1_skip : MOK mX1_skip 1 := ⟨ini_RX1, cd_X1_skip, ⟨by decide +kernel, by decide +kernel⟩, by decide +kernel, by decide⟩
theorem im_X1_skip : Cond.instanceMethod yX1_skip ∈ tblG := tblG_ok (List.mem_of_getElem? (i := 377) (by decide +kernel)) rfl
theorem se_X1_skip : Cond.selects RX1 yX1_skip yX1_skip ∈ tblG := tblG_ok (List.mem_of_getElem? (i := 5) (by decide +kernel)) rfl
set_option maxRecDepth 100000 in
theorem cd_X2_init : Cond.code yX2_init cX2_init 3 (mX2_init).2.2.2 ∈ tblG := tblG_ok (List.mem_of_getElem? (i := 209) rfl) rfl
theorem mk_X2_init : MOK mX2_init 2 := ⟨ini_RX2, cd_X2_init, ⟨by decide +kernel, by decide +kernel⟩, by decide +kernel, by decide⟩
theorem im_X2_init : Cond.instanceMethod yX2_init ∈ tblG := tblG_ok (List.mem_of_getElem? (i := 208) (by decide +kernel)) rfl
set_option maxRecDepth 100000 in
theorem cd_X2_fewestWashes : Cond.code yX2_fewestWashes cX2_fewestWashes 8 (mX2_fewestWashes).2.2.2 ∈ tblG := tblG_ok (List.mem_of_getElem? (i := 640) rfl) rfl
theorem mk_X2_fewestWashes : MOK mX2_fewestWashes 3 := ⟨ini_RX2, cd_X2_fewestWashes, ⟨by decide +kernel, by decide +kernel⟩, by decide +kernel, by decide⟩
theorem im_X2_fewestWashes : Cond.instanceMethod yX2_fewestWashes ∈ tblG := tblG_ok (List.mem_of_getElem? (i := 638) (by decide +kernel)) rfl
theorem se_X2_fewestWashes : Cond.selects RX2 yX2_fewestWashes yX2_fewestWashes ∈ tblG := tblG_ok (List.mem_of_getElem? (i := 639) (by decide +kernel)) rfl
set_option maxRecDepth 100000 in
theorem cd_X2_cleansAll : Cond.code yX2_cleansAll cX2_cleansAll 7 (mX2_cleansAll).2.2.2 ∈ tblG := tblG_ok (List.mem_of_getElem? (i := 659) rfl) rfl
theorem mk_X2_cleansAll : MOK mX2_cleansAll 4 := ⟨ini_RX2, cd_X2_cleansAll, ⟨by decide +kernel, by decide +kernel⟩, by decide +kernel, by decide⟩
theorem im_X2_cleansAll : Cond.instanceMethod yX2_cleansAll ∈ tblG := tblG_ok (List.mem_of_getElem? (i := 658) (by decide +kernel)) rfl
theorem se_X2_cleansAll : Cond.selects RX2 yX2_cleansAll yX2_cleansAll ∈ tblG := tblG_ok (List.mem_of_getElem? (i := 24) (by decide +kernel)) rfl
set_option maxRecDepth 100000 in
theorem cd_X2_firstOrder : Cond.code yX2_firstOrder cX2_firstOrder 4 (mX2_firstOrder).2.2.2 ∈ tblG := tblG_ok (List.mem_of_getElem? (i := 689) rfl) rfl
theorem mk_X2_firstOrder : MOK mX2_firstOrder 2 := ⟨ini_RX2, cd_X2_firstOrder, ⟨by decide +kernel, by decide +kernel⟩, by decide +kernel, by decide⟩
theorem im_X2_firstOrder : Cond.instanceMethod yX2_firstOrder ∈ tblG := tblG_ok (List.mem_of_getElem? (i := 687) (by decide +kernel)) rfl
theorem se_X2_firstOrder : Cond.selects RX2 yX2_firstOrder yX2_firstOrder ∈ tblG := tblG_ok (List.mem_of_getElem? (i := 688) (by decide +kernel)) rfl
set_option maxRecDepth 100000 in
theorem cd_X2_orderFrom : Cond.code yX2_orderFrom cX2_orderFrom 8 (mX2_orderFrom).2.2.2 ∈ tblG := tblG_ok (List.mem_of_getElem? (i := 693) rfl) rfl
theorem mk_X2_orderFrom : MOK mX2_orderFrom 4 := ⟨ini_RX2, cd_X2_orderFrom, ⟨by decide +kernel, by decide +kernel⟩, by decide +kernel, by decide⟩
theorem im_X2_orderFrom : Cond.instanceMethod yX2_orderFrom ∈ tblG := tblG_ok (List.mem_of_getElem? (i := 692) (by decide +kernel)) rfl
theorem se_X2_orderFrom : Cond.selects RX2 yX2_orderFrom yX2_orderFrom ∈ tblG := tblG_ok (List.mem_of_getElem? (i := 26) (by decide +kernel)) rfl
set_option maxRecDepth 100000 in
theorem cd_X2_keepRow : Cond.code yX2_keepRow cX2_keepRow 2 (mX2_keepRow).2.2.2 ∈ tblG := tblG_ok (List.mem_of_getElem? (i := 645) rfl) rfl
theorem mk_X2_keepRow : MOK mX2_keepRow 1 := ⟨ini_RX2, cd_X2_keepRow, ⟨by decide +kernel, by decide +kernel⟩, by decide +kernel, by decide⟩
theorem im_X2_keepRow : Cond.instanceMethod yX2_keepRow ∈ tblG := tblG_ok (List.mem_of_getElem? (i := 644) (by decide +kernel)) rfl
theorem se_X2_keepRow : Cond.selects RX2 yX2_keepRow yX2_keepRow ∈ tblG := tblG_ok (List.mem_of_getElem? (i := 23) (by decide +kernel)) rfl
set_option maxRecDepth 100000 in
theorem cd_X2_takeRow : Cond.code yX2_takeRow cX2_takeRow 2 (mX2_takeRow).2.2.2 ∈ tblG := tblG_ok (List.mem_of_getElem? (i := 663) rfl) rfl
theorem mk_X2_takeRow : MOK mX2_takeRow 1 := ⟨ini_RX2, cd_X2_takeRow, ⟨by decide +kernel, by decide +kernel⟩, by decide +kernel, by decide⟩
theorem im_X2_takeRow : Cond.instanceMethod yX2_takeRow ∈ tblG := tblG_ok (List.mem_of_getElem? (i := 662) (by decide +kernel)) rfl
theorem se_X2_takeRow : Cond.selects RX2 yX2_takeRow yX2_takeRow ∈ tblG := tblG_ok (List.mem_of_getElem? (i := 25) (by decide +kernel)) rfl
set_option maxRecDepth 100000 in
theorem cd_X3_init : Cond.code yX3_init cX3_init 1 (mX3_init).2.2.2 ∈ tblG := tblG_ok (List.mem_of_getElem? (i := 93) rfl) rfl
theorem mk_X3_init : MOK mX3_init 0 := ⟨ini_RX3, cd_X3_init, ⟨by decide +kernel, by decide +kernel⟩, by decide +kernel, by decide⟩
theorem im_X3_init : Cond.instanceMethod yX3_init ∈ tblG := tblG_ok (List.mem_of_getElem? (i := 92) (by decide +kernel)) rfl
set_option maxRecDepth 100000 in
theorem cd_X3_isThere : Cond.code yX3_isThere cX3_isThere 2 (mX3_isThere).2.2.2 ∈ tblG := tblG_ok (List.mem_of_getElem? (i := 315) rfl) rfl
theorem mk_X3_isThere : MOK mX3_isThere 1 := ⟨ini_RX3, cd_X3_isThere, ⟨by decide +kernel, by decide +kernel⟩, by decide +kernel, by decide⟩
theorem im_X3_isThere : Cond.instanceMethod yX3_isThere ∈ tblG := tblG_ok (List.mem_of_getElem? (i := 313) (by decide +kernel)) rfl
theorem se_X3_isThere : Cond.selects RX3 yX3_isThere yX3_isThere ∈ tblG := tblG_ok (List.mem_of_getElem? (i := 314) (by decide +kernel)) rfl
set_option maxRecDepth 100000 in
theorem cd_X3_areThere : Cond.code yX3_areThere cX3_areThere 2 (mX3_areThere).2.2.2 ∈ tblG := tblG_ok (List.mem_of_getElem? (i := 636) rfl) rfl
theorem mk_X3_areThere : MOK mX3_areThere 1 := ⟨ini_RX3, cd_X3_areThere, ⟨by decide +kernel, by decide +kernel⟩, by decide +kernel, by decide⟩
theorem im_X3_areThere : Cond.instanceMethod yX3_areThere ∈ tblG := tblG_ok (List.mem_of_getElem? (i := 634) (by decide +kernel)) rfl
theorem se_X3_areThere : Cond.selects RX3 yX3_areThere yX3_areThere ∈ tblG := tblG_ok (List.mem_of_getElem? (i := 635) (by decide +kernel)) rfl
set_option maxRecDepth 100000 in
theorem cd_X3_kindOf : Cond.code yX3_kindOf cX3_kindOf 2 (mX3_kindOf).2.2.2 ∈ tblG := tblG_ok (List.mem_of_getElem? (i := 287) rfl) rfl
theorem mk_X3_kindOf : MOK mX3_kindOf 1 := ⟨ini_RX3, cd_X3_kindOf, ⟨by decide +kernel, by decide +kernel⟩, by decide +kernel, by decide⟩
theorem im_X3_kindOf : Cond.instanceMethod yX3_kindOf ∈ tblG := tblG_ok (List.mem_of_getElem? (i := 285) (by decide +kernel)) rfl
theorem se_X3_kindOf : Cond.selects RX3 yX3_kindOf yX3_kindOf ∈ tblG := tblG_ok (List.mem_of_getElem? (i := 286) (by decide +kernel)) rfl
set_option maxRecDepth 100000 in
theorem cd_X3_isHidden : Cond.code yX3_isHidden cX3_isHidden 2 (mX3_isHidden).2.2.2 ∈ tblG := tblG_ok (List.mem_of_getElem? (i := 590) rfl) rfl
theorem mk_X3_isHidden : MOK mX3_isHidden 1 := ⟨ini_RX3, cd_X3_isHidden, ⟨by decide +kernel, by decide +kernel⟩, by decide +kernel, by decide⟩
theorem im_X3_isHidden : Cond.instanceMethod yX3_isHidden ∈ tblG := tblG_ok (List.mem_of_getElem? (i := 588) (by decide +kernel)) rfl
theorem se_X3_isHidden : Cond.selects RX3 yX3_isHidden yX3_isHidden ∈ tblG := tblG_ok (List.mem_of_getElem? (i := 589) (by decide +kernel)) rfl
set_option maxRecDepth 100000 in
theorem cd_X3_isWet : Cond.code yX3_isWet cX3_isWet 2 (mX3_isWet).2.2.2 ∈ tblG := tblG_ok (List.mem_of_getElem? (i := 429) rfl) rfl
theorem mk_X3_isWet : MOK mX3_isWet 1 := ⟨ini_RX3, cd_X3_isWet, ⟨by decide +kernel, by decide +kernel⟩, by decide +kernel, by decide⟩
theorem im_X3_isWet : Cond.instanceMethod yX3_isWet ∈ tblG := tblG_ok (List.mem_of_getElem? (i := 427) (by decide +kernel)) rfl
theorem se_X3_isWet : Cond.selects RX3 yX3_isWet yX3_isWet ∈ tblG := tblG_ok (List.mem_of_getElem? (i := 428) (by decide +kernel)) rfl
set_option maxRecDepth 100000 in
theorem cd_X3_hasPartnerAhead : Cond.code yX3_hasPartnerAhead cX3_hasPartnerAhead 1 (mX3_hasPartnerAhead).2.2.2 ∈ tblG := tblG_ok (List.mem_of_getElem? (i := 283) rfl) rfl
theorem mk_X3_hasPartnerAhead : MOK mX3_hasPartnerAhead 0 := ⟨ini_RX3, cd_X3_hasPartnerAhead, ⟨by decide +kernel, by decide +kernel⟩, by decide +kernel, by decide⟩
theorem im_X3_hasPartnerAhead : Cond.instanceMethod yX3_hasPartnerAhead ∈ tblG := tblG_ok (List.mem_of_getElem? (i := 281) (by decide +kernel)) rfl
theorem se_X3_hasPartnerAhead : Cond.selects RX3 yX3_hasPartnerAhead yX3_hasPartnerAhead ∈ tblG := tblG_ok (List.mem_of_getElem? (i := 282) (by decide +kernel)) rfl
set_option maxRecDepth 100000 in
theorem cd_X3_ruleOf : Cond.code yX3_ruleOf cX3_ruleOf 2 (mX3_ruleOf).2.2.2 ∈ tblG := tblG_ok (List.mem_of_getElem? (i := 485) rfl) rfl
theorem mk_X3_ruleOf : MOK mX3_ruleOf 1 := ⟨ini_RX3, cd_X3_ruleOf, ⟨by decide +kernel, by decide +kernel⟩, by decide +kernel, by decide⟩
theorem im_X3_ruleOf : Cond.instanceMethod yX3_ruleOf ∈ tblG := tblG_ok (List.mem_of_getElem? (i := 483) (by decide +kernel)) rfl
theorem se_X3_ruleOf : Cond.selects RX3 yX3_ruleOf yX3_ruleOf ∈ tblG := tblG_ok (List.mem_of_getElem? (i := 484) (by decide +kernel)) rfl
set_option maxRecDepth 100000 in
theorem cd_X3_takenBy : Cond.code yX3_takenBy cX3_takenBy 2 (mX3_takenBy).2.2.2 ∈ tblG := tblG_ok (List.mem_of_getElem? (i := 493) rfl) rfl
theorem mk_X3_takenBy : MOK mX3_takenBy 1 := ⟨ini_RX3, cd_X3_takenBy, ⟨by decide +kernel, by decide +kernel⟩, by decide +kernel, by decide⟩
theorem im_X3_takenBy : Cond.instanceMethod yX3_takenBy ∈ tblG := tblG_ok (List.mem_of_getElem? (i := 491) (by decide +kernel)) rfl
theorem se_X3_takenBy : Cond.selects RX3 yX3_takenBy yX3_takenBy ∈ tblG := tblG_ok (List.mem_of_getElem? (i := 492) (by decide +kernel)) rfl
set_option maxRecDepth 100000 in
theorem cd_X3_eventPart : Cond.code yX3_eventPart cX3_eventPart 4 (mX3_eventPart).2.2.2 ∈ tblG := tblG_ok (List.mem_of_getElem? (i := 333) rfl) rfl
theorem mk_X3_eventPart : MOK mX3_eventPart 2 := ⟨ini_RX3, cd_X3_eventPart, ⟨by decide +kernel, by decide +kernel⟩, by decide +kernel, by decide⟩
theorem im_X3_eventPart : Cond.instanceMethod yX3_eventPart ∈ tblG := tblG_ok (List.mem_of_getElem? (i := 331) (by decide +kernel)) rfl
theorem se_X3_eventPart : Cond.selects RX3 yX3_eventPart yX3_eventPart ∈ tblG := tblG_ok (List.mem_of_getElem? (i := 332) (by decide +kernel)) rfl
set_option maxRecDepth 100000 in
theorem cd_X3_factPart : Cond.code yX3_factPart cX3_factPart 4 (mX3_factPart).2.2.2 ∈ tblG := tblG_ok (List.mem_of_getElem? (i := 537) rfl) rfl
theorem mk_X3_factPart : MOK mX3_factPart 2 := ⟨ini_RX3, cd_X3_factPart, ⟨by decide +kernel, by decide +kernel⟩, by decide +kernel, by decide⟩
theorem im_X3_factPart : Cond.instanceMethod yX3_factPart ∈ tblG := tblG_ok (List.mem_of_getElem? (i := 535) (by decide +kernel)) rfl
theorem se_X3_factPart : Cond.selects RX3 yX3_factPart yX3_factPart ∈ tblG := tblG_ok (List.mem_of_getElem? (i := 536) (by decide +kernel)) rfl
set_option maxRecDepth 100000 in
theorem cd_X3_stepPart : Cond.code yX3_stepPart cX3_stepPart 4 (mX3_stepPart).2.2.2 ∈ tblG := tblG_ok (List.mem_of_getElem? (i := 697) rfl) rfl
theorem mk_X3_stepPart : MOK mX3_stepPart 2 := ⟨ini_RX3, cd_X3_stepPart, ⟨by decide +kernel, by decide +kernel⟩, by decide +kernel, by decide⟩
theorem im_X3_stepPart : Cond.instanceMethod yX3_stepPart ∈ tblG := tblG_ok (List.mem_of_getElem? (i := 695) (by decide +kernel)) rfl
theorem se_X3_stepPart : Cond.selects RX3 yX3_stepPart yX3_stepPart ∈ tblG := tblG_ok (List.mem_of_getElem? (i := 696) (by decide +kernel)) rfl
set_option maxRecDepth 100000 in
theorem cd_X3_addThing : Cond.code yX3_addThing cX3_addThing 7 (mX3_addThing).2.2.2 ∈ tblG := tblG_ok (List.mem_of_getElem? (i := 291) rfl) rfl
theorem mk_X3_addThing : MOK mX3_addThing 3 := ⟨ini_RX3, cd_X3_addThing, ⟨by decide +kernel, by decide +kernel⟩, by decide +kernel, by decide⟩
theorem im_X3_addThing : Cond.instanceMethod yX3_addThing ∈ tblG := tblG_ok (List.mem_of_getElem? (i := 289) (by decide +kernel)) rfl
theorem se_X3_addThing : Cond.selects RX3 yX3_addThing yX3_addThing ∈ tblG := tblG_ok (List.mem_of_getElem? (i := 290) (by decide +kernel)) rfl
set_option maxRecDepth 100000 in
theorem cd_X3_setTaken : Cond.code yX3_setTaken cX3_setTaken 4 (mX3_setTaken).2.2.2 ∈ tblG := tblG_ok (List.mem_of_getElem? (i := 299) rfl) rfl
theorem mk_X3_setTaken : MOK mX3_setTaken 2 := ⟨ini_RX3, cd_X3_setTaken, ⟨by decide +kernel, by decide +kernel⟩, by decide +kernel, by decide⟩
theorem im_X3_setTaken : Cond.instanceMethod yX3_setTaken ∈ tblG := tblG_ok (List.mem_of_getElem? (i := 297) (by decide +kernel)) rfl
theorem se_X3_setTaken : Cond.selects RX3 yX3_setTaken yX3_setTaken ∈ tblG := tblG_ok (List.mem_of_getElem? (i := 298) (by decide +kernel)) rfl
set_option maxRecDepth 100000 in
theorem cd_X3_setRule : Cond.code yX3_setRule cX3_setRule 4 (mX3_setRule).2.2.2 ∈ tblG := tblG_ok (List.mem_of_getElem? (i := 307) rfl) rfl
theorem mk_X3_setRule : MOK mX3_setRule 2 := ⟨ini_RX3, cd_X3_setRule, ⟨by decide +kernel, by decide +kernel⟩, by decide +kernel, by decide⟩
theorem im_X3_setRule : Cond.instanceMethod yX3_setRule ∈ tblG := tblG_ok (List.mem_of_getElem? (i := 305) (by decide +kernel)) rfl
theorem se_X3_setRule : Cond.selects RX3 yX3_setRule yX3_setRule ∈ tblG := tblG_ok (List.mem_of_getElem? (i := 306) (by decide +kernel)) rfl
set_option maxRecDepth 100000 in
theorem cd_X3_addEvent : Cond.code yX3_addEvent cX3_addEvent 7 (mX3_addEvent).2.2.2 ∈ tblG := tblG_ok (List.mem_of_getElem? (i := 322) rfl) rfl
theorem mk_X3_addEvent : MOK mX3_addEvent 5 := ⟨ini_RX3, cd_X3_addEvent, ⟨by decide +kernel, by decide +kernel⟩, by decide +kernel, by decide⟩
theorem im_X3_addEvent : Cond.instanceMethod yX3_addEvent ∈ tblG := tblG_ok (List.mem_of_getElem? (i := 320) (by decide +kernel)) rfl
theorem se_X3_addEvent : Cond.selects RX3 yX3_addEvent yX3_addEvent ∈ tblG := tblG_ok (List.mem_of_getElem? (i := 321) (by decide +kernel)) rfl
set_option maxRecDepth 100000 in
theorem cd_X3_dropEvent : Cond.code yX3_dropEvent cX3_dropEvent 1 (mX3_dropEvent).2.2.2 ∈ tblG := tblG_ok (List.mem_of_getElem? (i := 341) rfl) rfl
theorem mk_X3_dropEvent : MOK mX3_dropEvent 0 := ⟨ini_RX3, cd_X3_dropEvent, ⟨by decide +kernel, by decide +kernel⟩, by decide +kernel, by decide⟩
theorem im_X3_dropEvent : Cond.instanceMethod yX3_dropEvent ∈ tblG := tblG_ok (List.mem_of_getElem? (i := 339) (by decide +kernel)) rfl
theorem se_X3_dropEvent : Cond.selects RX3 yX3_dropEvent yX3_dropEvent ∈ tblG := tblG_ok (List.mem_of_getElem? (i := 340) (by decide +kernel)) rfl
set_option maxRecDepth 100000 in
theorem cd_X3_addFact : Cond.code yX3_addFact cX3_addFact 5 (mX3_addFact).2.2.2 ∈ tblG := tblG_ok (List.mem_of_getElem? (i := 553) rfl) rfl
theorem mk_X3_addFact : MOK mX3_addFact 3 := ⟨ini_RX3, cd_X3_addFact, ⟨by decide +kernel, by decide +kernel⟩, by decide +kernel, by decide⟩
theorem im_X3_addFact : Cond.instanceMethod yX3_addFact ∈ tblG := tblG_ok (List.mem_of_getElem? (i := 551) (by decide +kernel)) rfl
theorem se_X3_addFact : Cond.selects RX3 yX3_addFact yX3_addFact ∈ tblG := tblG_ok (List.mem_of_getElem? (i := 552) (by decide +kernel)) rfl
set_option maxRecDepth 100000 in
theorem cd_X3_addStep : Cond.code yX3_addStep cX3_addStep 5 (mX3_addStep).2.2.2 ∈ tblG := tblG_ok (List.mem_of_getElem? (i := 677) rfl) rfl
theorem mk_X3_addStep : MOK mX3_addStep 3 := ⟨ini_RX3, cd_X3_addStep, ⟨by decide +kernel, by decide +kernel⟩, by decide +kernel, by decide⟩
theorem im_X3_addStep : Cond.instanceMethod yX3_addStep ∈ tblG := tblG_ok (List.mem_of_getElem? (i := 675) (by decide +kernel)) rfl
theorem se_X3_addStep : Cond.selects RX3 yX3_addStep yX3_addStep ∈ tblG := tblG_ok (List.mem_of_getElem? (i := 676) (by decide +kernel)) rfl
set_option maxRecDepth 100000 in
theorem cd_X3_namedUnknowns : Cond.code yX3_namedUnknowns cX3_namedUnknowns 4 (mX3_namedUnknowns).2.2.2 ∈ tblG := tblG_ok (List.mem_of_getElem? (i := 524) rfl) rfl
theorem mk_X3_namedUnknowns : MOK mX3_namedUnknowns 0 := ⟨ini_RX3, cd_X3_namedUnknowns, ⟨by decide +kernel, by decide +kernel⟩, by decide +kernel, by decide⟩
theorem im_X3_namedUnknowns : Cond.instanceMethod yX3_namedUnknowns ∈ tblG := tblG_ok (List.mem_of_getElem? (i := 522) (by decide +kernel)) rfl
theorem se_X3_namedUnknowns : Cond.selects RX3 yX3_namedUnknowns yX3_namedUnknowns ∈ tblG := tblG_ok (List.mem_of_getElem? (i := 523) (by decide +kernel)) rfl
set_option maxRecDepth 100000 in
theorem cd_X3_everyWay : Cond.code yX3_everyWay cX3_everyWay 5 (mX3_everyWay).2.2.2 ∈ tblG := tblG_ok (List.mem_of_getElem? (i := 520) rfl) rfl
theorem mk_X3_everyWay : MOK mX3_everyWay 0 := ⟨ini_RX3, cd_X3_everyWay, ⟨by decide +kernel, by decide +kernel⟩, by decide +kernel, by decide⟩
theorem im_X3_everyWay : Cond.instanceMethod yX3_everyWay ∈ tblG := tblG_ok (List.mem_of_getElem? (i := 518) (by decide +kernel)) rfl
theorem se_X3_everyWay : Cond.selects RX3 yX3_everyWay yX3_everyWay ∈ tblG := tblG_ok (List.mem_of_getElem? (i := 519) (by decide +kernel)) rfl
set_option maxRecDepth 100000 in
theorem cd_X3_copyFrom : Cond.code yX3_copyFrom cX3_copyFrom 2 (mX3_copyFrom).2.2.2 ∈ tblG := tblG_ok (List.mem_of_getElem? (i := 709) rfl) rfl
theorem mk_X3_copyFrom : MOK mX3_copyFrom 1 := ⟨ini_RX3, cd_X3_copyFrom, ⟨by decide +kernel, by decide +kernel⟩, by decide +kernel, by decide⟩
theorem im_X3_copyFrom : Cond.instanceMethod yX3_copyFrom ∈ tblG := tblG_ok (List.mem_of_getElem? (i := 707) (by decide +kernel)) rfl
theorem se_X3_copyFrom : Cond.selects RX3 yX3_copyFrom yX3_copyFrom ∈ tblG := tblG_ok (List.mem_of_getElem? (i := 708) (by decide +kernel)) rfl
set_option maxRecDepth 100000 in
theorem cd_X3_copyRow : Cond.code yX3_copyRow cX3_copyRow 2 (mX3_copyRow).2.2.2 ∈ tblG := tblG_ok (List.mem_of_getElem? (i := 712) rfl) rfl
theorem mk_X3_copyRow : MOK mX3_copyRow 2 := ⟨ini_RX3, cd_X3_copyRow, ⟨by decide +kernel, by decide +kernel⟩, by decide +kernel, by decide⟩
theorem sm_X3_copyRow : Cond.static yX3_copyRow ∈ tblG := tblG_ok (List.mem_of_getElem? (i := 711) (by decide +kernel)) rfl
set_option maxRecDepth 100000 in
theorem cd_X4_init : Cond.code yX4_init cX4_init 3 (mX4_init).2.2.2 ∈ tblG := tblG_ok (List.mem_of_getElem? (i := 153) rfl) rfl
theorem mk_X4_init : MOK mX4_init 2 := ⟨ini_RX4, cd_X4_init, ⟨by decide +kernel, by decide +kernel⟩, by decide +kernel, by decide⟩
theorem im_X4_init : Cond.instanceMethod yX4_init ∈ tblG := tblG_ok (List.mem_of_getElem? (i := 152) (by decide +kernel)) rfl
set_option maxRecDepth 100000 in
theorem cd_X4_refresh : Cond.code yX4_refresh cX4_refresh 3 (mX4_refresh).2.2.2 ∈ tblG := tblG_ok (List.mem_of_getElem? (i := 406) rfl) rfl
theorem mk_X4_refresh : MOK mX4_refresh 0 := ⟨ini_RX4, cd_X4_refresh, ⟨by decide +kernel, by decide +kernel⟩, by decide +kernel, by decide⟩
theorem im_X4_refresh : Cond.instanceMethod yX4_refresh ∈ tblG := tblG_ok (List.mem_of_getElem? (i := 404) (by decide +kernel)) rfl
theorem se_X4_refresh : Cond.selects RX4 yX4_refresh yX4_refresh ∈ tblG := tblG_ok (List.mem_of_getElem? (i := 405) (by decide +kernel)) rfl
set_option maxRecDepth 100000 in
theorem cd_X4_playFromStart : Cond.code yX4_playFromStart cX4_playFromStart 2 (mX4_playFromStart).2.2.2 ∈ tblG := tblG_ok (List.mem_of_getElem? (i := 500) rfl) rfl
theorem mk_X4_playFromStart : MOK mX4_playFromStart 1 := ⟨ini_RX4, cd_X4_playFromStart, ⟨by decide +kernel, by decide +kernel⟩, by decide +kernel, by decide⟩
theorem im_X4_playFromStart : Cond.instanceMethod yX4_playFromStart ∈ tblG := tblG_ok (List.mem_of_getElem? (i := 498) (by decide +kernel)) rfl
theorem se_X4_playFromStart : Cond.selects RX4 yX4_playFromStart yX4_playFromStart ∈ tblG := tblG_ok (List.mem_of_getElem? (i := 499) (by decide +kernel)) rfl
set_option maxRecDepth 100000 in
theorem cd_X4_uncleanAt : Cond.code yX4_uncleanAt cX4_uncleanAt 3 (mX4_uncleanAt).2.2.2 ∈ tblG := tblG_ok (List.mem_of_getElem? (i := 512) rfl) rfl
theorem mk_X4_uncleanAt : MOK mX4_uncleanAt 2 := ⟨ini_RX4, cd_X4_uncleanAt, ⟨by decide +kernel, by decide +kernel⟩, by decide +kernel, by decide⟩
theorem im_X4_uncleanAt : Cond.instanceMethod yX4_uncleanAt ∈ tblG := tblG_ok (List.mem_of_getElem? (i := 510) (by decide +kernel)) rfl
theorem se_X4_uncleanAt : Cond.selects RX4 yX4_uncleanAt yX4_uncleanAt ∈ tblG := tblG_ok (List.mem_of_getElem? (i := 511) (by decide +kernel)) rfl
set_option maxRecDepth 100000 in
theorem cd_X4_degree : Cond.code yX4_degree cX4_degree 4 (mX4_degree).2.2.2 ∈ tblG := tblG_ok (List.mem_of_getElem? (i := 504) rfl) rfl
theorem mk_X4_degree : MOK mX4_degree 2 := ⟨ini_RX4, cd_X4_degree, ⟨by decide +kernel, by decide +kernel⟩, by decide +kernel, by decide⟩
theorem im_X4_degree : Cond.instanceMethod yX4_degree ∈ tblG := tblG_ok (List.mem_of_getElem? (i := 502) (by decide +kernel)) rfl
theorem se_X4_degree : Cond.selects RX4 yX4_degree yX4_degree ∈ tblG := tblG_ok (List.mem_of_getElem? (i := 503) (by decide +kernel)) rfl
set_option maxRecDepth 100000 in
theorem cd_X4_areClean : Cond.code yX4_areClean cX4_areClean 5 (mX4_areClean).2.2.2 ∈ tblG := tblG_ok (List.mem_of_getElem? (i := 669) rfl) rfl
theorem mk_X4_areClean : MOK mX4_areClean 2 := ⟨ini_RX4, cd_X4_areClean, ⟨by decide +kernel, by decide +kernel⟩, by decide +kernel, by decide⟩
theorem im_X4_areClean : Cond.instanceMethod yX4_areClean ∈ tblG := tblG_ok (List.mem_of_getElem? (i := 667) (by decide +kernel)) rfl
theorem se_X4_areClean : Cond.selects RX4 yX4_areClean yX4_areClean ∈ tblG := tblG_ok (List.mem_of_getElem? (i := 668) (by decide +kernel)) rfl
set_option maxRecDepth 100000 in
theorem cd_X4_originBits : Cond.code yX4_originBits cX4_originBits 12 (mX4_originBits).2.2.2 ∈ tblG := tblG_ok (List.mem_of_getElem? (i := 628) rfl) rfl
theorem mk_X4_originBits : MOK mX4_originBits 2 := ⟨ini_RX4, cd_X4_originBits, ⟨by decide +kernel, by decide +kernel⟩, by decide +kernel, by decide⟩
theorem im_X4_originBits : Cond.instanceMethod yX4_originBits ∈ tblG := tblG_ok (List.mem_of_getElem? (i := 626) (by decide +kernel)) rfl
theorem se_X4_originBits : Cond.selects RX4 yX4_originBits yX4_originBits ∈ tblG := tblG_ok (List.mem_of_getElem? (i := 627) (by decide +kernel)) rfl
set_option maxRecDepth 100000 in
theorem cd_X4_numberSources : Cond.code yX4_numberSources cX4_numberSources 3 (mX4_numberSources).2.2.2 ∈ tblG := tblG_ok (List.mem_of_getElem? (i := 410) rfl) rfl
theorem mk_X4_numberSources : MOK mX4_numberSources 0 := ⟨ini_RX4, cd_X4_numberSources, ⟨by decide +kernel, by decide +kernel⟩, by decide +kernel, by decide⟩
theorem im_X4_numberSources : Cond.instanceMethod yX4_numberSources ∈ tblG := tblG_ok (List.mem_of_getElem? (i := 409) (by decide +kernel)) rfl
theorem se_X4_numberSources : Cond.selects RX4 yX4_numberSources yX4_numberSources ∈ tblG := tblG_ok (List.mem_of_getElem? (i := 10) (by decide +kernel)) rfl
set_option maxRecDepth 100000 in
theorem cd_X4_orderByHours : Cond.code yX4_orderByHours cX4_orderByHours 3 (mX4_orderByHours).2.2.2 ∈ tblG := tblG_ok (List.mem_of_getElem? (i := 415) rfl) rfl
theorem mk_X4_orderByHours : MOK mX4_orderByHours 0 := ⟨ini_RX4, cd_X4_orderByHours, ⟨by decide +kernel, by decide +kernel⟩, by decide +kernel, by decide⟩
theorem im_X4_orderByHours : Cond.instanceMethod yX4_orderByHours ∈ tblG := tblG_ok (List.mem_of_getElem? (i := 414) (by decide +kernel)) rfl
theorem se_X4_orderByHours : Cond.selects RX4 yX4_orderByHours yX4_orderByHours ∈ tblG := tblG_ok (List.mem_of_getElem? (i := 11) (by decide +kernel)) rfl
set_option maxRecDepth 100000 in
theorem cd_X4_begin : Cond.code yX4_begin cX4_begin 2 (mX4_begin).2.2.2 ∈ tblG := tblG_ok (List.mem_of_getElem? (i := 422) rfl) rfl
theorem mk_X4_begin : MOK mX4_begin 0 := ⟨ini_RX4, cd_X4_begin, ⟨by decide +kernel, by decide +kernel⟩, by decide +kernel, by decide⟩
theorem im_X4_begin : Cond.instanceMethod yX4_begin ∈ tblG := tblG_ok (List.mem_of_getElem? (i := 421) (by decide +kernel)) rfl
theorem se_X4_begin : Cond.selects RX4 yX4_begin yX4_begin ∈ tblG := tblG_ok (List.mem_of_getElem? (i := 12) (by decide +kernel)) rfl
set_option maxRecDepth 100000 in
theorem cd_X4_playHours : Cond.code yX4_playHours cX4_playHours 11 (mX4_playHours).2.2.2 ∈ tblG := tblG_ok (List.mem_of_getElem? (i := 434) rfl) rfl
theorem mk_X4_playHours : MOK mX4_playHours 2 := ⟨ini_RX4, cd_X4_playHours, ⟨by decide +kernel, by decide +kernel⟩, by decide +kernel, by decide⟩
theorem im_X4_playHours : Cond.instanceMethod yX4_playHours ∈ tblG := tblG_ok (List.mem_of_getElem? (i := 432) (by decide +kernel)) rfl
theorem se_X4_playHours : Cond.selects RX4 yX4_playHours yX4_playHours ∈ tblG := tblG_ok (List.mem_of_getElem? (i := 433) (by decide +kernel)) rfl
set_option maxRecDepth 100000 in
theorem cd_X4_cleanTheWashed : Cond.code yX4_cleanTheWashed cX4_cleanTheWashed 3 (mX4_cleanTheWashed).2.2.2 ∈ tblG := tblG_ok (List.mem_of_getElem? (i := 441) rfl) rfl
theorem mk_X4_cleanTheWashed : MOK mX4_cleanTheWashed 0 := ⟨ini_RX4, cd_X4_cleanTheWashed, ⟨by decide +kernel, by decide +kernel⟩, by decide +kernel, by decide⟩
theorem im_X4_cleanTheWashed : Cond.instanceMethod yX4_cleanTheWashed ∈ tblG := tblG_ok (List.mem_of_getElem? (i := 440) (by decide +kernel)) rfl
theorem se_X4_cleanTheWashed : Cond.selects RX4 yX4_cleanTheWashed yX4_cleanTheWashed ∈ tblG := tblG_ok (List.mem_of_getElem? (i := 13) (by decide +kernel)) rfl
set_option maxRecDepth 100000 in
theorem cd_X4_happen : Cond.code yX4_happen cX4_happen 6 (mX4_happen).2.2.2 ∈ tblG := tblG_ok (List.mem_of_getElem? (i := 468) rfl) rfl
theorem mk_X4_happen : MOK mX4_happen 4 := ⟨ini_RX4, cd_X4_happen, ⟨by decide +kernel, by decide +kernel⟩, by decide +kernel, by decide⟩
theorem im_X4_happen : Cond.instanceMethod yX4_happen ∈ tblG := tblG_ok (List.mem_of_getElem? (i := 466) (by decide +kernel)) rfl
theorem se_X4_happen : Cond.selects RX4 yX4_happen yX4_happen ∈ tblG := tblG_ok (List.mem_of_getElem? (i := 467) (by decide +kernel)) rfl
set_option maxRecDepth 100000 in
theorem cd_X4_alterOne : Cond.code yX4_alterOne cX4_alterOne 9 (mX4_alterOne).2.2.2 ∈ tblG := tblG_ok (List.mem_of_getElem? (i := 472) rfl) rfl
theorem mk_X4_alterOne : MOK mX4_alterOne 3 := ⟨ini_RX4, cd_X4_alterOne, ⟨by decide +kernel, by decide +kernel⟩, by decide +kernel, by decide⟩
theorem im_X4_alterOne : Cond.instanceMethod yX4_alterOne ∈ tblG := tblG_ok (List.mem_of_getElem? (i := 471) (by decide +kernel)) rfl
theorem se_X4_alterOne : Cond.selects RX4 yX4_alterOne yX4_alterOne ∈ tblG := tblG_ok (List.mem_of_getElem? (i := 18) (by decide +kernel)) rfl
set_option maxRecDepth 100000 in
theorem cd_X4_makeClean : Cond.code yX4_makeClean cX4_makeClean 5 (mX4_makeClean).2.2.2 ∈ tblG := tblG_ok (List.mem_of_getElem? (i := 446) rfl) rfl
theorem mk_X4_makeClean : MOK mX4_makeClean 2 := ⟨ini_RX4, cd_X4_makeClean, ⟨by decide +kernel, by decide +kernel⟩, by decide +kernel, by decide⟩
theorem im_X4_makeClean : Cond.instanceMethod yX4_makeClean ∈ tblG := tblG_ok (List.mem_of_getElem? (i := 445) (by decide +kernel)) rfl
theorem se_X4_makeClean : Cond.selects RX4 yX4_makeClean yX4_makeClean ∈ tblG := tblG_ok (List.mem_of_getElem? (i := 14) (by decide +kernel)) rfl
set_option maxRecDepth 100000 in
theorem cd_X4_spring : Cond.code yX4_spring cX4_spring 7 (mX4_spring).2.2.2 ∈ tblG := tblG_ok (List.mem_of_getElem? (i := 456) rfl) rfl
theorem mk_X4_spring : MOK mX4_spring 4 := ⟨ini_RX4, cd_X4_spring, ⟨by decide +kernel, by decide +kernel⟩, by decide +kernel, by decide⟩
theorem im_X4_spring : Cond.instanceMethod yX4_spring ∈ tblG := tblG_ok (List.mem_of_getElem? (i := 455) (by decide +kernel)) rfl
theorem se_X4_spring : Cond.selects RX4 yX4_spring yX4_spring ∈ tblG := tblG_ok (List.mem_of_getElem? (i := 15) (by decide +kernel)) rfl
set_option maxRecDepth 100000 in
theorem cd_X4_keepFirstDegree : Cond.code yX4_keepFirstDegree cX4_keepFirstDegree 2 (mX4_keepFirstDegree).2.2.2 ∈ tblG := tblG_ok (List.mem_of_getElem? (i := 481) rfl) rfl
theorem mk_X4_keepFirstDegree : MOK mX4_keepFirstDegree 1 := ⟨ini_RX4, cd_X4_keepFirstDegree, ⟨by decide +kernel, by decide +kernel⟩, by decide +kernel, by decide⟩
theorem sm_X4_keepFirstDegree : Cond.static yX4_keepFirstDegree ∈ tblG := tblG_ok (List.mem_of_getElem? (i := 480) (by decide +kernel)) rfl
set_option maxRecDepth 100000 in
theorem cd_X4_give : Cond.code yX4_give cX4_give 11 (mX4_give).2.2.2 ∈ tblG := tblG_ok (List.mem_of_getElem? (i := 489) rfl) rfl
theorem mk_X4_give : MOK mX4_give 3 := ⟨ini_RX4, cd_X4_give, ⟨by decide +kernel, by decide +kernel⟩, by decide +kernel, by decide⟩
theorem im_X4_give : Cond.instanceMethod yX4_give ∈ tblG := tblG_ok (List.mem_of_getElem? (i := 488) (by decide +kernel)) rfl
theorem se_X4_give : Cond.selects RX4 yX4_give yX4_give ∈ tblG := tblG_ok (List.mem_of_getElem? (i := 19) (by decide +kernel)) rfl
set_option maxRecDepth 100000 in
theorem cd_X4_shareAmongJoined : Cond.code yX4_shareAmongJoined cX4_shareAmongJoined 8 (mX4_shareAmongJoined).2.2.2 ∈ tblG := tblG_ok (List.mem_of_getElem? (i := 464) rfl) rfl
theorem mk_X4_shareAmongJoined : MOK mX4_shareAmongJoined 1 := ⟨ini_RX4, cd_X4_shareAmongJoined, ⟨by decide +kernel, by decide +kernel⟩, by decide +kernel, by decide⟩
theorem im_X4_shareAmongJoined : Cond.instanceMethod yX4_shareAmongJoined ∈ tblG := tblG_ok (List.mem_of_getElem? (i := 463) (by decide +kernel)) rfl
theorem se_X4_shareAmongJoined : Cond.selects RX4 yX4_shareAmongJoined yX4_shareAmongJoined ∈ tblG := tblG_ok (List.mem_of_getElem? (i := 17) (by decide +kernel)) rfl
set_option maxRecDepth 100000 in
theorem cd_X4_lessen : Cond.code yX4_lessen cX4_lessen 11 (mX4_lessen).2.2.2 ∈ tblG := tblG_ok (List.mem_of_getElem? (i := 460) rfl) rfl
theorem mk_X4_lessen : MOK mX4_lessen 4 := ⟨ini_RX4, cd_X4_lessen, ⟨by decide +kernel, by decide +kernel⟩, by decide +kernel, by decide⟩
theorem im_X4_lessen : Cond.instanceMethod yX4_lessen ∈ tblG := tblG_ok (List.mem_of_getElem? (i := 459) (by decide +kernel)) rfl
theorem se_X4_lessen : Cond.selects RX4 yX4_lessen yX4_lessen ∈ tblG := tblG_ok (List.mem_of_getElem? (i := 16) (by decide +kernel)) rfl
set_option maxRecDepth 100000 in
theorem cd_X5_init : Cond.code yX5_init cX5_init 1 (mX5_init).2.2.2 ∈ tblG := tblG_ok (List.mem_of_getElem? (i := 85) rfl) rfl
theorem mk_X5_init : MOK mX5_init 0 := ⟨ini_RX5, cd_X5_init, ⟨by decide +kernel, by decide +kernel⟩, by decide +kernel, by decide⟩
theorem im_X5_init : Cond.instanceMethod yX5_init ∈ tblG := tblG_ok (List.mem_of_getElem? (i := 84) (by decide +kernel)) rfl
set_option maxRecDepth 100000 in
theorem cd_X5_thing : Cond.code yX5_thing cX5_thing 4 (mX5_thing).2.2.2 ∈ tblG := tblG_ok (List.mem_of_getElem? (i := 275) rfl) rfl
theorem mk_X5_thing : MOK mX5_thing 3 := ⟨ini_RX5, cd_X5_thing, ⟨by decide +kernel, by decide +kernel⟩, by decide +kernel, by decide⟩
theorem im_X5_thing : Cond.instanceMethod yX5_thing ∈ tblG := tblG_ok (List.mem_of_getElem? (i := 273) (by decide +kernel)) rfl
theorem se_X5_thing : Cond.selects RX5 yX5_thing yX5_thing ∈ tblG := tblG_ok (List.mem_of_getElem? (i := 274) (by decide +kernel)) rfl
set_option maxRecDepth 100000 in
theorem cd_X5_takes : Cond.code yX5_takes cX5_takes 4 (mX5_takes).2.2.2 ∈ tblG := tblG_ok (List.mem_of_getElem? (i := 295) rfl) rfl
theorem mk_X5_takes : MOK mX5_takes 3 := ⟨ini_RX5, cd_X5_takes, ⟨by decide +kernel, by decide +kernel⟩, by decide +kernel, by decide⟩
theorem im_X5_takes : Cond.instanceMethod yX5_takes ∈ tblG := tblG_ok (List.mem_of_getElem? (i := 293) (by decide +kernel)) rfl
theorem se_X5_takes : Cond.selects RX5 yX5_takes yX5_takes ∈ tblG := tblG_ok (List.mem_of_getElem? (i := 294) (by decide +kernel)) rfl
set_option maxRecDepth 100000 in
theorem cd_X5_law : Cond.code yX5_law cX5_law 3 (mX5_law).2.2.2 ∈ tblG := tblG_ok (List.mem_of_getElem? (i := 303) rfl) rfl
theorem mk_X5_law : MOK mX5_law 2 := ⟨ini_RX5, cd_X5_law, ⟨by decide +kernel, by decide +kernel⟩, by decide +kernel, by decide⟩
theorem im_X5_law : Cond.instanceMethod yX5_law ∈ tblG := tblG_ok (List.mem_of_getElem? (i := 301) (by decide +kernel)) rfl
theorem se_X5_law : Cond.selects RX5 yX5_law yX5_law ∈ tblG := tblG_ok (List.mem_of_getElem? (i := 302) (by decide +kernel)) rfl
set_option maxRecDepth 100000 in
theorem cd_X5_event : Cond.code yX5_event cX5_event 6 (mX5_event).2.2.2 ∈ tblG := tblG_ok (List.mem_of_getElem? (i := 311) rfl) rfl
theorem mk_X5_event : MOK mX5_event 5 := ⟨ini_RX5, cd_X5_event, ⟨by decide +kernel, by decide +kernel⟩, by decide +kernel, by decide⟩
theorem im_X5_event : Cond.instanceMethod yX5_event ∈ tblG := tblG_ok (List.mem_of_getElem? (i := 309) (by decide +kernel)) rfl
theorem se_X5_event : Cond.selects RX5 yX5_event yX5_event ∈ tblG := tblG_ok (List.mem_of_getElem? (i := 310) (by decide +kernel)) rfl
set_option maxRecDepth 100000 in
theorem cd_X5_of : Cond.code yX5_of cX5_of 3 (mX5_of).2.2.2 ∈ tblG := tblG_ok (List.mem_of_getElem? (i := 329) rfl) rfl
theorem mk_X5_of : MOK mX5_of 2 := ⟨ini_RX5, cd_X5_of, ⟨by decide +kernel, by decide +kernel⟩, by decide +kernel, by decide⟩
theorem im_X5_of : Cond.instanceMethod yX5_of ∈ tblG := tblG_ok (List.mem_of_getElem? (i := 327) (by decide +kernel)) rfl
theorem se_X5_of : Cond.selects RX5 yX5_of yX5_of ∈ tblG := tblG_ok (List.mem_of_getElem? (i := 328) (by decide +kernel)) rfl
set_option maxRecDepth 100000 in
theorem cd_X5_takeBack : Cond.code yX5_takeBack cX5_takeBack 1 (mX5_takeBack).2.2.2 ∈ tblG := tblG_ok (List.mem_of_getElem? (i := 337) rfl) rfl
theorem mk_X5_takeBack : MOK mX5_takeBack 0 := ⟨ini_RX5, cd_X5_takeBack, ⟨by decide +kernel, by decide +kernel⟩, by decide +kernel, by decide⟩
theorem im_X5_takeBack : Cond.instanceMethod yX5_takeBack ∈ tblG := tblG_ok (List.mem_of_getElem? (i := 335) (by decide +kernel)) rfl
theorem se_X5_takeBack : Cond.selects RX5 yX5_takeBack yX5_takeBack ∈ tblG := tblG_ok (List.mem_of_getElem? (i := 336) (by decide +kernel)) rfl
set_option maxRecDepth 100000 in
theorem cd_X5_feed : Cond.code yX5_feed cX5_feed 4 (mX5_feed).2.2.2 ∈ tblG := tblG_ok (List.mem_of_getElem? (i := 345) rfl) rfl
theorem mk_X5_feed : MOK mX5_feed 2 := ⟨ini_RX5, cd_X5_feed, ⟨by decide +kernel, by decide +kernel⟩, by decide +kernel, by decide⟩
theorem im_X5_feed : Cond.instanceMethod yX5_feed ∈ tblG := tblG_ok (List.mem_of_getElem? (i := 343) (by decide +kernel)) rfl
theorem se_X5_feed : Cond.selects RX5 yX5_feed yX5_feed ∈ tblG := tblG_ok (List.mem_of_getElem? (i := 344) (by decide +kernel)) rfl
set_option maxRecDepth 100000 in
theorem cd_X5_house : Cond.code yX5_house cX5_house 1 (mX5_house).2.2.2 ∈ tblG := tblG_ok (List.mem_of_getElem? (i := 353) rfl) rfl
theorem mk_X5_house : MOK mX5_house 0 := ⟨ini_RX5, cd_X5_house, ⟨by decide +kernel, by decide +kernel⟩, by decide +kernel, by decide⟩
theorem im_X5_house : Cond.instanceMethod yX5_house ∈ tblG := tblG_ok (List.mem_of_getElem? (i := 351) (by decide +kernel)) rfl
theorem se_X5_house : Cond.selects RX5 yX5_house yX5_house ∈ tblG := tblG_ok (List.mem_of_getElem? (i := 352) (by decide +kernel)) rfl
set_option maxRecDepth 100000 in
theorem cd_X5_state : Cond.code yX5_state cX5_state 4 (mX5_state).2.2.2 ∈ tblG := tblG_ok (List.mem_of_getElem? (i := 402) rfl) rfl
theorem mk_X5_state : MOK mX5_state 3 := ⟨ini_RX5, cd_X5_state, ⟨by decide +kernel, by decide +kernel⟩, by decide +kernel, by decide⟩
theorem im_X5_state : Cond.instanceMethod yX5_state ∈ tblG := tblG_ok (List.mem_of_getElem? (i := 400) (by decide +kernel)) rfl
theorem se_X5_state : Cond.selects RX5 yX5_state yX5_state ∈ tblG := tblG_ok (List.mem_of_getElem? (i := 401) (by decide +kernel)) rfl
set_option maxRecDepth 100000 in
theorem cd_X5_when : Cond.code yX5_when cX5_when 4 (mX5_when).2.2.2 ∈ tblG := tblG_ok (List.mem_of_getElem? (i := 508) rfl) rfl
theorem mk_X5_when : MOK mX5_when 2 := ⟨ini_RX5, cd_X5_when, ⟨by decide +kernel, by decide +kernel⟩, by decide +kernel, by decide⟩
theorem im_X5_when : Cond.instanceMethod yX5_when ∈ tblG := tblG_ok (List.mem_of_getElem? (i := 506) (by decide +kernel)) rfl
theorem se_X5_when : Cond.selects RX5 yX5_when yX5_when ∈ tblG := tblG_ok (List.mem_of_getElem? (i := 507) (by decide +kernel)) rfl
set_option maxRecDepth 100000 in
theorem cd_X5_ways : Cond.code yX5_ways cX5_ways 2 (mX5_ways).2.2.2 ∈ tblG := tblG_ok (List.mem_of_getElem? (i := 516) rfl) rfl
theorem mk_X5_ways : MOK mX5_ways 1 := ⟨ini_RX5, cd_X5_ways, ⟨by decide +kernel, by decide +kernel⟩, by decide +kernel, by decide⟩
theorem im_X5_ways : Cond.instanceMethod yX5_ways ∈ tblG := tblG_ok (List.mem_of_getElem? (i := 514) (by decide +kernel)) rfl
theorem se_X5_ways : Cond.selects RX5 yX5_ways yX5_ways ∈ tblG := tblG_ok (List.mem_of_getElem? (i := 515) (by decide +kernel)) rfl
set_option maxRecDepth 100000 in
theorem cd_X5_fact : Cond.code yX5_fact cX5_fact 4 (mX5_fact).2.2.2 ∈ tblG := tblG_ok (List.mem_of_getElem? (i := 549) rfl) rfl
theorem mk_X5_fact : MOK mX5_fact 3 := ⟨ini_RX5, cd_X5_fact, ⟨by decide +kernel, by decide +kernel⟩, by decide +kernel, by decide⟩
theorem im_X5_fact : Cond.instanceMethod yX5_fact ∈ tblG := tblG_ok (List.mem_of_getElem? (i := 547) (by decide +kernel)) rfl
theorem se_X5_fact : Cond.selects RX5 yX5_fact yX5_fact ∈ tblG := tblG_ok (List.mem_of_getElem? (i := 548) (by decide +kernel)) rfl
set_option maxRecDepth 100000 in
theorem cd_X5_forget : Cond.code yX5_forget cX5_forget 2 (mX5_forget).2.2.2 ∈ tblG := tblG_ok (List.mem_of_getElem? (i := 557) rfl) rfl
theorem mk_X5_forget : MOK mX5_forget 0 := ⟨ini_RX5, cd_X5_forget, ⟨by decide +kernel, by decide +kernel⟩, by decide +kernel, by decide⟩
theorem im_X5_forget : Cond.instanceMethod yX5_forget ∈ tblG := tblG_ok (List.mem_of_getElem? (i := 555) (by decide +kernel)) rfl
theorem se_X5_forget : Cond.selects RX5 yX5_forget yX5_forget ∈ tblG := tblG_ok (List.mem_of_getElem? (i := 556) (by decide +kernel)) rfl
set_option maxRecDepth 100000 in
theorem cd_X5_sure : Cond.code yX5_sure cX5_sure 4 (mX5_sure).2.2.2 ∈ tblG := tblG_ok (List.mem_of_getElem? (i := 561) rfl) rfl
theorem mk_X5_sure : MOK mX5_sure 2 := ⟨ini_RX5, cd_X5_sure, ⟨by decide +kernel, by decide +kernel⟩, by decide +kernel, by decide⟩
theorem im_X5_sure : Cond.instanceMethod yX5_sure ∈ tblG := tblG_ok (List.mem_of_getElem? (i := 559) (by decide +kernel)) rfl
theorem se_X5_sure : Cond.selects RX5 yX5_sure yX5_sure ∈ tblG := tblG_ok (List.mem_of_getElem? (i := 560) (by decide +kernel)) rfl
set_option maxRecDepth 100000 in
theorem cd_X5_many : Cond.code yX5_many cX5_many 4 (mX5_many).2.2.2 ∈ tblG := tblG_ok (List.mem_of_getElem? (i := 577) rfl) rfl
theorem mk_X5_many : MOK mX5_many 2 := ⟨ini_RX5, cd_X5_many, ⟨by decide +kernel, by decide +kernel⟩, by decide +kernel, by decide⟩
theorem im_X5_many : Cond.instanceMethod yX5_many ∈ tblG := tblG_ok (List.mem_of_getElem? (i := 575) (by decide +kernel)) rfl
theorem se_X5_many : Cond.selects RX5 yX5_many yX5_many ∈ tblG := tblG_ok (List.mem_of_getElem? (i := 576) (by decide +kernel)) rfl
set_option maxRecDepth 100000 in
theorem cd_X5_judged : Cond.code yX5_judged cX5_judged 4 (mX5_judged).2.2.2 ∈ tblG := tblG_ok (List.mem_of_getElem? (i := 582) rfl) rfl
theorem mk_X5_judged : MOK mX5_judged 2 := ⟨ini_RX5, cd_X5_judged, ⟨by decide +kernel, by decide +kernel⟩, by decide +kernel, by decide⟩
theorem im_X5_judged : Cond.instanceMethod yX5_judged ∈ tblG := tblG_ok (List.mem_of_getElem? (i := 580) (by decide +kernel)) rfl
theorem se_X5_judged : Cond.selects RX5 yX5_judged yX5_judged ∈ tblG := tblG_ok (List.mem_of_getElem? (i := 581) (by decide +kernel)) rfl
set_option maxRecDepth 100000 in
theorem cd_X5_rivals : Cond.code yX5_rivals cX5_rivals 2 (mX5_rivals).2.2.2 ∈ tblG := tblG_ok (List.mem_of_getElem? (i := 597) rfl) rfl
theorem mk_X5_rivals : MOK mX5_rivals 1 := ⟨ini_RX5, cd_X5_rivals, ⟨by decide +kernel, by decide +kernel⟩, by decide +kernel, by decide⟩
theorem im_X5_rivals : Cond.instanceMethod yX5_rivals ∈ tblG := tblG_ok (List.mem_of_getElem? (i := 595) (by decide +kernel)) rfl
theorem se_X5_rivals : Cond.selects RX5 yX5_rivals yX5_rivals ∈ tblG := tblG_ok (List.mem_of_getElem? (i := 596) (by decide +kernel)) rfl
set_option maxRecDepth 100000 in
theorem cd_X5_question : Cond.code yX5_question cX5_question 3 (mX5_question).2.2.2 ∈ tblG := tblG_ok (List.mem_of_getElem? (i := 609) rfl) rfl
theorem mk_X5_question : MOK mX5_question 2 := ⟨ini_RX5, cd_X5_question, ⟨by decide +kernel, by decide +kernel⟩, by decide +kernel, by decide⟩
theorem im_X5_question : Cond.instanceMethod yX5_question ∈ tblG := tblG_ok (List.mem_of_getElem? (i := 607) (by decide +kernel)) rfl
theorem se_X5_question : Cond.selects RX5 yX5_question yX5_question ∈ tblG := tblG_ok (List.mem_of_getElem? (i := 608) (by decide +kernel)) rfl
set_option maxRecDepth 100000 in
theorem cd_X5_sources : Cond.code yX5_sources cX5_sources 6 (mX5_sources).2.2.2 ∈ tblG := tblG_ok (List.mem_of_getElem? (i := 624) rfl) rfl
theorem mk_X5_sources : MOK mX5_sources 2 := ⟨ini_RX5, cd_X5_sources, ⟨by decide +kernel, by decide +kernel⟩, by decide +kernel, by decide⟩
theorem im_X5_sources : Cond.instanceMethod yX5_sources ∈ tblG := tblG_ok (List.mem_of_getElem? (i := 622) (by decide +kernel)) rfl
theorem se_X5_sources : Cond.selects RX5 yX5_sources yX5_sources ∈ tblG := tblG_ok (List.mem_of_getElem? (i := 623) (by decide +kernel)) rfl
set_option maxRecDepth 100000 in
theorem cd_X5_washing : Cond.code yX5_washing cX5_washing 3 (mX5_washing).2.2.2 ∈ tblG := tblG_ok (List.mem_of_getElem? (i := 632) rfl) rfl
theorem mk_X5_washing : MOK mX5_washing 2 := ⟨ini_RX5, cd_X5_washing, ⟨by decide +kernel, by decide +kernel⟩, by decide +kernel, by decide⟩
theorem im_X5_washing : Cond.instanceMethod yX5_washing ∈ tblG := tblG_ok (List.mem_of_getElem? (i := 630) (by decide +kernel)) rfl
theorem se_X5_washing : Cond.selects RX5 yX5_washing yX5_washing ∈ tblG := tblG_ok (List.mem_of_getElem? (i := 631) (by decide +kernel)) rfl
set_option maxRecDepth 100000 in
theorem cd_X5_step : Cond.code yX5_step cX5_step 4 (mX5_step).2.2.2 ∈ tblG := tblG_ok (List.mem_of_getElem? (i := 673) rfl) rfl
theorem mk_X5_step : MOK mX5_step 3 := ⟨ini_RX5, cd_X5_step, ⟨by decide +kernel, by decide +kernel⟩, by decide +kernel, by decide⟩
theorem im_X5_step : Cond.instanceMethod yX5_step ∈ tblG := tblG_ok (List.mem_of_getElem? (i := 671) (by decide +kernel)) rfl
theorem se_X5_step : Cond.selects RX5 yX5_step yX5_step ∈ tblG := tblG_ok (List.mem_of_getElem? (i := 672) (by decide +kernel)) rfl
set_option maxRecDepth 100000 in
theorem cd_X5_clear : Cond.code yX5_clear cX5_clear 2 (mX5_clear).2.2.2 ∈ tblG := tblG_ok (List.mem_of_getElem? (i := 681) rfl) rfl
theorem mk_X5_clear : MOK mX5_clear 0 := ⟨ini_RX5, cd_X5_clear, ⟨by decide +kernel, by decide +kernel⟩, by decide +kernel, by decide⟩
theorem im_X5_clear : Cond.instanceMethod yX5_clear ∈ tblG := tblG_ok (List.mem_of_getElem? (i := 679) (by decide +kernel)) rfl
theorem se_X5_clear : Cond.selects RX5 yX5_clear yX5_clear ∈ tblG := tblG_ok (List.mem_of_getElem? (i := 680) (by decide +kernel)) rfl
set_option maxRecDepth 100000 in
theorem cd_X5_cooking : Cond.code yX5_cooking cX5_cooking 2 (mX5_cooking).2.2.2 ∈ tblG := tblG_ok (List.mem_of_getElem? (i := 685) rfl) rfl
theorem mk_X5_cooking : MOK mX5_cooking 1 := ⟨ini_RX5, cd_X5_cooking, ⟨by decide +kernel, by decide +kernel⟩, by decide +kernel, by decide⟩
theorem im_X5_cooking : Cond.instanceMethod yX5_cooking ∈ tblG := tblG_ok (List.mem_of_getElem? (i := 683) (by decide +kernel)) rfl
theorem se_X5_cooking : Cond.selects RX5 yX5_cooking yX5_cooking ∈ tblG := tblG_ok (List.mem_of_getElem? (i := 684) (by decide +kernel)) rfl
set_option maxRecDepth 100000 in
theorem cd_X5_beside : Cond.code yX5_beside cX5_beside 8 (mX5_beside).2.2.2 ∈ tblG := tblG_ok (List.mem_of_getElem? (i := 701) rfl) rfl
theorem mk_X5_beside : MOK mX5_beside 1 := ⟨ini_RX5, cd_X5_beside, ⟨by decide +kernel, by decide +kernel⟩, by decide +kernel, by decide⟩
theorem im_X5_beside : Cond.instanceMethod yX5_beside ∈ tblG := tblG_ok (List.mem_of_getElem? (i := 699) (by decide +kernel)) rfl
theorem se_X5_beside : Cond.selects RX5 yX5_beside yX5_beside ∈ tblG := tblG_ok (List.mem_of_getElem? (i := 700) (by decide +kernel)) rfl
set_option maxRecDepth 100000 in
theorem cd_X5_image : Cond.code yX5_image cX5_image 1 (mX5_image).2.2.2 ∈ tblG := tblG_ok (List.mem_of_getElem? (i := 705) rfl) rfl
theorem mk_X5_image : MOK mX5_image 0 := ⟨ini_RX5, cd_X5_image, ⟨by decide +kernel, by decide +kernel⟩, by decide +kernel, by decide⟩
theorem im_X5_image : Cond.instanceMethod yX5_image ∈ tblG := tblG_ok (List.mem_of_getElem? (i := 703) (by decide +kernel)) rfl
theorem se_X5_image : Cond.selects RX5 yX5_image yX5_image ∈ tblG := tblG_ok (List.mem_of_getElem? (i := 704) (by decide +kernel)) rfl
set_option maxRecDepth 100000 in
theorem cd_X5_restore : Cond.code yX5_restore cX5_restore 1 (mX5_restore).2.2.2 ∈ tblG := tblG_ok (List.mem_of_getElem? (i := 718) rfl) rfl
theorem mk_X5_restore : MOK mX5_restore 0 := ⟨ini_RX5, cd_X5_restore, ⟨by decide +kernel, by decide +kernel⟩, by decide +kernel, by decide⟩
theorem im_X5_restore : Cond.instanceMethod yX5_restore ∈ tblG := tblG_ok (List.mem_of_getElem? (i := 716) (by decide +kernel)) rfl
theorem se_X5_restore : Cond.selects RX5 yX5_restore yX5_restore ∈ tblG := tblG_ok (List.mem_of_getElem? (i := 717) (by decide +kernel)) rfl
set_option maxRecDepth 100000 in
theorem cd_X5_count : Cond.code yX5_count cX5_count 2 (mX5_count).2.2.2 ∈ tblG := tblG_ok (List.mem_of_getElem? (i := 722) rfl) rfl
theorem mk_X5_count : MOK mX5_count 1 := ⟨ini_RX5, cd_X5_count, ⟨by decide +kernel, by decide +kernel⟩, by decide +kernel, by decide⟩
theorem im_X5_count : Cond.instanceMethod yX5_count ∈ tblG := tblG_ok (List.mem_of_getElem? (i := 720) (by decide +kernel)) rfl
theorem se_X5_count : Cond.selects RX5 yX5_count yX5_count ∈ tblG := tblG_ok (List.mem_of_getElem? (i := 721) (by decide +kernel)) rfl
set_option maxRecDepth 100000 in
theorem cd_X5_refuse : Cond.code yX5_refuse cX5_refuse 3 (mX5_refuse).2.2.2 ∈ tblG := tblG_ok (List.mem_of_getElem? (i := 279) rfl) rfl
theorem mk_X5_refuse : MOK mX5_refuse 1 := ⟨ini_RX5, cd_X5_refuse, ⟨by decide +kernel, by decide +kernel⟩, by decide +kernel, by decide⟩
theorem im_X5_refuse : Cond.instanceMethod yX5_refuse ∈ tblG := tblG_ok (List.mem_of_getElem? (i := 278) (by decide +kernel)) rfl
theorem se_X5_refuse : Cond.selects RX5 yX5_refuse yX5_refuse ∈ tblG := tblG_ok (List.mem_of_getElem? (i := 0) (by decide +kernel)) rfl
set_option maxRecDepth 100000 in
theorem cd_X5_thingAndHour : Cond.code yX5_thingAndHour cX5_thingAndHour 3 (mX5_thingAndHour).2.2.2 ∈ tblG := tblG_ok (List.mem_of_getElem? (i := 565) rfl) rfl
theorem mk_X5_thingAndHour : MOK mX5_thingAndHour 2 := ⟨ini_RX5, cd_X5_thingAndHour, ⟨by decide +kernel, by decide +kernel⟩, by decide +kernel, by decide⟩
theorem im_X5_thingAndHour : Cond.instanceMethod yX5_thingAndHour ∈ tblG := tblG_ok (List.mem_of_getElem? (i := 564) (by decide +kernel)) rfl
theorem se_X5_thingAndHour : Cond.selects RX5 yX5_thingAndHour yX5_thingAndHour ∈ tblG := tblG_ok (List.mem_of_getElem? (i := 20) (by decide +kernel)) rfl
set_option maxRecDepth 100000 in
theorem cd_X5_isUnknownAbove : Cond.code yX5_isUnknownAbove cX5_isUnknownAbove 1 (mX5_isUnknownAbove).2.2.2 ∈ tblG := tblG_ok (List.mem_of_getElem? (i := 318) rfl) rfl
theorem mk_X5_isUnknownAbove : MOK mX5_isUnknownAbove 1 := ⟨ini_RX5, cd_X5_isUnknownAbove, ⟨by decide +kernel, by decide +kernel⟩, by decide +kernel, by decide⟩
theorem sm_X5_isUnknownAbove : Cond.static yX5_isUnknownAbove ∈ tblG := tblG_ok (List.mem_of_getElem? (i := 317) (by decide +kernel)) rfl
set_option maxRecDepth 100000 in
theorem cd_X5_hasSecond : Cond.code yX5_hasSecond cX5_hasSecond 1 (mX5_hasSecond).2.2.2 ∈ tblG := tblG_ok (List.mem_of_getElem? (i := 325) rfl) rfl
theorem mk_X5_hasSecond : MOK mX5_hasSecond 1 := ⟨ini_RX5, cd_X5_hasSecond, ⟨by decide +kernel, by decide +kernel⟩, by decide +kernel, by decide⟩
theorem sm_X5_hasSecond : Cond.static yX5_hasSecond ∈ tblG := tblG_ok (List.mem_of_getElem? (i := 324) (by decide +kernel)) rfl
set_option maxRecDepth 100000 in
theorem cd_X5_isVessel : Cond.code yX5_isVessel cX5_isVessel 1 (mX5_isVessel).2.2.2 ∈ tblG := tblG_ok (List.mem_of_getElem? (i := 475) rfl) rfl
theorem mk_X5_isVessel : MOK mX5_isVessel 1 := ⟨ini_RX5, cd_X5_isVessel, ⟨by decide +kernel, by decide +kernel⟩, by decide +kernel, by decide⟩
theorem sm_X5_isVessel : Cond.static yX5_isVessel ∈ tblG := tblG_ok (List.mem_of_getElem? (i := 474) (by decide +kernel)) rfl
set_option maxRecDepth 100000 in
theorem cd_X5_isFood : Cond.code yX5_isFood cX5_isFood 1 (mX5_isFood).2.2.2 ∈ tblG := tblG_ok (List.mem_of_getElem? (i := 496) rfl) rfl
theorem mk_X5_isFood : MOK mX5_isFood 1 := ⟨ini_RX5, cd_X5_isFood, ⟨by decide +kernel, by decide +kernel⟩, by decide +kernel, by decide⟩
theorem sm_X5_isFood : Cond.static yX5_isFood ∈ tblG := tblG_ok (List.mem_of_getElem? (i := 495) (by decide +kernel)) rfl
set_option maxRecDepth 100000 in
theorem cd_X5_waysToldBy : Cond.code yX5_waysToldBy cX5_waysToldBy 1 (mX5_waysToldBy).2.2.2 ∈ tblG := tblG_ok (List.mem_of_getElem? (i := 449) rfl) rfl
theorem mk_X5_waysToldBy : MOK mX5_waysToldBy 1 := ⟨ini_RX5, cd_X5_waysToldBy, ⟨by decide +kernel, by decide +kernel⟩, by decide +kernel, by decide⟩
theorem sm_X5_waysToldBy : Cond.static yX5_waysToldBy ∈ tblG := tblG_ok (List.mem_of_getElem? (i := 448) (by decide +kernel)) rfl
set_option maxRecDepth 100000 in
theorem cd_X6_init : Cond.code yX6_init cX6_init 1 (mX6_init).2.2.2 ∈ tblG := tblG_ok (List.mem_of_getElem? (i := 729) rfl) rfl
theorem mk_X6_init : MOK mX6_init 0 := ⟨ini_RX6, cd_X6_init, ⟨by decide +kernel, by decide +kernel⟩, by decide +kernel, by decide⟩
theorem im_X6_init : Cond.instanceMethod yX6_init ∈ tblG := tblG_ok (List.mem_of_getElem? (i := 728) (by decide +kernel)) rfl
set_option maxRecDepth 100000 in
theorem cd_X6_no : Cond.code yX6_no cX6_no 2 (mX6_no).2.2.2 ∈ tblG := tblG_ok (List.mem_of_getElem? (i := 872) rfl) rfl
theorem mk_X6_no : MOK mX6_no 1 := ⟨ini_RX6, cd_X6_no, ⟨by decide +kernel, by decide +kernel⟩, by decide +kernel, by decide⟩
theorem im_X6_no : Cond.instanceMethod yX6_no ∈ tblG := tblG_ok (List.mem_of_getElem? (i := 871) (by decide +kernel)) rfl
theorem se_X6_no : Cond.selects RX6 yX6_no yX6_no ∈ tblG := tblG_ok (List.mem_of_getElem? (i := 27) (by decide +kernel)) rfl
set_option maxRecDepth 100000 in
theorem cd_X6_isIn : Cond.code yX6_isIn cX6_isIn 3 (mX6_isIn).2.2.2 ∈ tblG := tblG_ok (List.mem_of_getElem? (i := 868) rfl) rfl
theorem mk_X6_isIn : MOK mX6_isIn 3 := ⟨ini_RX6, cd_X6_isIn, ⟨by decide +kernel, by decide +kernel⟩, by decide +kernel, by decide⟩
theorem sm_X6_isIn : Cond.static yX6_isIn ∈ tblG := tblG_ok (List.mem_of_getElem? (i := 867) (by decide +kernel)) rfl
set_option maxRecDepth 100000 in
theorem cd_X6_out : Cond.code yX6_out cX6_out 3 (mX6_out).2.2.2 ∈ tblG := tblG_ok (List.mem_of_getElem? (i := 887) rfl) rfl
theorem mk_X6_out : MOK mX6_out 3 := ⟨ini_RX6, cd_X6_out, ⟨by decide +kernel, by decide +kernel⟩, by decide +kernel, by decide⟩
theorem sm_X6_out : Cond.static yX6_out ∈ tblG := tblG_ok (List.mem_of_getElem? (i := 886) (by decide +kernel)) rfl
set_option maxRecDepth 100000 in
theorem cd_X6_isThing : Cond.code yX6_isThing cX6_isThing 2 (mX6_isThing).2.2.2 ∈ tblG := tblG_ok (List.mem_of_getElem? (i := 899) rfl) rfl
theorem mk_X6_isThing : MOK mX6_isThing 1 := ⟨ini_RX6, cd_X6_isThing, ⟨by decide +kernel, by decide +kernel⟩, by decide +kernel, by decide⟩
theorem im_X6_isThing : Cond.instanceMethod yX6_isThing ∈ tblG := tblG_ok (List.mem_of_getElem? (i := 898) (by decide +kernel)) rfl
theorem se_X6_isThing : Cond.selects RX6 yX6_isThing yX6_isThing ∈ tblG := tblG_ok (List.mem_of_getElem? (i := 30) (by decide +kernel)) rfl
set_option maxRecDepth 100000 in
theorem cd_X6_mayJoin : Cond.code yX6_mayJoin cX6_mayJoin 1 (mX6_mayJoin).2.2.2 ∈ tblG := tblG_ok (List.mem_of_getElem? (i := 876) rfl) rfl
theorem mk_X6_mayJoin : MOK mX6_mayJoin 0 := ⟨ini_RX6, cd_X6_mayJoin, ⟨by decide +kernel, by decide +kernel⟩, by decide +kernel, by decide⟩
theorem im_X6_mayJoin : Cond.instanceMethod yX6_mayJoin ∈ tblG := tblG_ok (List.mem_of_getElem? (i := 875) (by decide +kernel)) rfl
theorem se_X6_mayJoin : Cond.selects RX6 yX6_mayJoin yX6_mayJoin ∈ tblG := tblG_ok (List.mem_of_getElem? (i := 28) (by decide +kernel)) rfl
set_option maxRecDepth 100000 in
theorem cd_X6_comes : Cond.code yX6_comes cX6_comes 4 (mX6_comes).2.2.2 ∈ tblG := tblG_ok (List.mem_of_getElem? (i := 880) rfl) rfl
theorem mk_X6_comes : MOK mX6_comes 3 := ⟨ini_RX6, cd_X6_comes, ⟨by decide +kernel, by decide +kernel⟩, by decide +kernel, by decide⟩
theorem im_X6_comes : Cond.instanceMethod yX6_comes ∈ tblG := tblG_ok (List.mem_of_getElem? (i := 879) (by decide +kernel)) rfl
theorem se_X6_comes : Cond.selects RX6 yX6_comes yX6_comes ∈ tblG := tblG_ok (List.mem_of_getElem? (i := 29) (by decide +kernel)) rfl
set_option maxRecDepth 100000 in
theorem cd_X6_thing : Cond.code yX6_thing cX6_thing 4 (mX6_thing).2.2.2 ∈ tblG := tblG_ok (List.mem_of_getElem? (i := 865) rfl) rfl
theorem mk_X6_thing : MOK mX6_thing 3 := ⟨ini_RX6, cd_X6_thing, ⟨by decide +kernel, by decide +kernel⟩, by decide +kernel, by decide⟩
theorem im_X6_thing : Cond.instanceMethod yX6_thing ∈ tblG := tblG_ok (List.mem_of_getElem? (i := 863) (by decide +kernel)) rfl
theorem se_X6_thing : Cond.selects RX6 yX6_thing yX6_thing ∈ tblG := tblG_ok (List.mem_of_getElem? (i := 864) (by decide +kernel)) rfl
set_option maxRecDepth 100000 in
theorem cd_X6_takes : Cond.code yX6_takes cX6_takes 7 (mX6_takes).2.2.2 ∈ tblG := tblG_ok (List.mem_of_getElem? (i := 884) rfl) rfl
theorem mk_X6_takes : MOK mX6_takes 3 := ⟨ini_RX6, cd_X6_takes, ⟨by decide +kernel, by decide +kernel⟩, by decide +kernel, by decide⟩
theorem im_X6_takes : Cond.instanceMethod yX6_takes ∈ tblG := tblG_ok (List.mem_of_getElem? (i := 882) (by decide +kernel)) rfl
theorem se_X6_takes : Cond.selects RX6 yX6_takes yX6_takes ∈ tblG := tblG_ok (List.mem_of_getElem? (i := 883) (by decide +kernel)) rfl
set_option maxRecDepth 100000 in
theorem cd_X6_law : Cond.code yX6_law cX6_law 5 (mX6_law).2.2.2 ∈ tblG := tblG_ok (List.mem_of_getElem? (i := 891) rfl) rfl
theorem mk_X6_law : MOK mX6_law 2 := ⟨ini_RX6, cd_X6_law, ⟨by decide +kernel, by decide +kernel⟩, by decide +kernel, by decide⟩
theorem im_X6_law : Cond.instanceMethod yX6_law ∈ tblG := tblG_ok (List.mem_of_getElem? (i := 889) (by decide +kernel)) rfl
theorem se_X6_law : Cond.selects RX6 yX6_law yX6_law ∈ tblG := tblG_ok (List.mem_of_getElem? (i := 890) (by decide +kernel)) rfl
set_option maxRecDepth 100000 in
theorem cd_X6_isOfTwo : Cond.code yX6_isOfTwo cX6_isOfTwo 1 (mX6_isOfTwo).2.2.2 ∈ tblG := tblG_ok (List.mem_of_getElem? (i := 902) rfl) rfl
theorem mk_X6_isOfTwo : MOK mX6_isOfTwo 1 := ⟨ini_RX6, cd_X6_isOfTwo, ⟨by decide +kernel, by decide +kernel⟩, by decide +kernel, by decide⟩
theorem sm_X6_isOfTwo : Cond.static yX6_isOfTwo ∈ tblG := tblG_ok (List.mem_of_getElem? (i := 901) (by decide +kernel)) rfl
set_option maxRecDepth 100000 in
theorem cd_X6_happens : Cond.code yX6_happens cX6_happens 6 (mX6_happens).2.2.2 ∈ tblG := tblG_ok (List.mem_of_getElem? (i := 906) rfl) rfl
theorem mk_X6_happens : MOK mX6_happens 5 := ⟨ini_RX6, cd_X6_happens, ⟨by decide +kernel, by decide +kernel⟩, by decide +kernel, by decide⟩
theorem im_X6_happens : Cond.instanceMethod yX6_happens ∈ tblG := tblG_ok (List.mem_of_getElem? (i := 905) (by decide +kernel)) rfl
theorem se_X6_happens : Cond.selects RX6 yX6_happens yX6_happens ∈ tblG := tblG_ok (List.mem_of_getElem? (i := 31) (by decide +kernel)) rfl
set_option maxRecDepth 100000 in
theorem cd_X6_event : Cond.code yX6_event cX6_event 7 (mX6_event).2.2.2 ∈ tblG := tblG_ok (List.mem_of_getElem? (i := 895) rfl) rfl
theorem mk_X6_event : MOK mX6_event 5 := ⟨ini_RX6, cd_X6_event, ⟨by decide +kernel, by decide +kernel⟩, by decide +kernel, by decide⟩
theorem im_X6_event : Cond.instanceMethod yX6_event ∈ tblG := tblG_ok (List.mem_of_getElem? (i := 893) (by decide +kernel)) rfl
theorem se_X6_event : Cond.selects RX6 yX6_event yX6_event ∈ tblG := tblG_ok (List.mem_of_getElem? (i := 894) (by decide +kernel)) rfl
set_option maxRecDepth 100000 in
theorem cd_X6_of : Cond.code yX6_of cX6_of 3 (mX6_of).2.2.2 ∈ tblG := tblG_ok (List.mem_of_getElem? (i := 910) rfl) rfl
theorem mk_X6_of : MOK mX6_of 2 := ⟨ini_RX6, cd_X6_of, ⟨by decide +kernel, by decide +kernel⟩, by decide +kernel, by decide⟩
theorem im_X6_of : Cond.instanceMethod yX6_of ∈ tblG := tblG_ok (List.mem_of_getElem? (i := 908) (by decide +kernel)) rfl
theorem se_X6_of : Cond.selects RX6 yX6_of yX6_of ∈ tblG := tblG_ok (List.mem_of_getElem? (i := 909) (by decide +kernel)) rfl
set_option maxRecDepth 100000 in
theorem cd_X6_takeBack : Cond.code yX6_takeBack cX6_takeBack 1 (mX6_takeBack).2.2.2 ∈ tblG := tblG_ok (List.mem_of_getElem? (i := 914) rfl) rfl
theorem mk_X6_takeBack : MOK mX6_takeBack 0 := ⟨ini_RX6, cd_X6_takeBack, ⟨by decide +kernel, by decide +kernel⟩, by decide +kernel, by decide⟩
theorem im_X6_takeBack : Cond.instanceMethod yX6_takeBack ∈ tblG := tblG_ok (List.mem_of_getElem? (i := 912) (by decide +kernel)) rfl
theorem se_X6_takeBack : Cond.selects RX6 yX6_takeBack yX6_takeBack ∈ tblG := tblG_ok (List.mem_of_getElem? (i := 913) (by decide +kernel)) rfl
set_option maxRecDepth 100000 in
theorem cd_X6_feed : Cond.code yX6_feed cX6_feed 6 (mX6_feed).2.2.2 ∈ tblG := tblG_ok (List.mem_of_getElem? (i := 918) rfl) rfl
theorem mk_X6_feed : MOK mX6_feed 2 := ⟨ini_RX6, cd_X6_feed, ⟨by decide +kernel, by decide +kernel⟩, by decide +kernel, by decide⟩
theorem im_X6_feed : Cond.instanceMethod yX6_feed ∈ tblG := tblG_ok (List.mem_of_getElem? (i := 916) (by decide +kernel)) rfl
theorem se_X6_feed : Cond.selects RX6 yX6_feed yX6_feed ∈ tblG := tblG_ok (List.mem_of_getElem? (i := 917) (by decide +kernel)) rfl
set_option maxRecDepth 100000 in
theorem cd_X6_sign : Cond.code yX6_sign cX6_sign 1 (mX6_sign).2.2.2 ∈ tblG := tblG_ok (List.mem_of_getElem? (i := 931) rfl) rfl
theorem mk_X6_sign : MOK mX6_sign 0 := ⟨ini_RX6, cd_X6_sign, ⟨by decide +kernel, by decide +kernel⟩, by decide +kernel, by decide⟩
theorem im_X6_sign : Cond.instanceMethod yX6_sign ∈ tblG := tblG_ok (List.mem_of_getElem? (i := 930) (by decide +kernel)) rfl
theorem se_X6_sign : Cond.selects RX6 yX6_sign yX6_sign ∈ tblG := tblG_ok (List.mem_of_getElem? (i := 33) (by decide +kernel)) rfl
set_option maxRecDepth 100000 in
theorem cd_X6_takesSign : Cond.code yX6_takesSign cX6_takesSign 2 (mX6_takesSign).2.2.2 ∈ tblG := tblG_ok (List.mem_of_getElem? (i := 943) rfl) rfl
theorem mk_X6_takesSign : MOK mX6_takesSign 1 := ⟨ini_RX6, cd_X6_takesSign, ⟨by decide +kernel, by decide +kernel⟩, by decide +kernel, by decide⟩
theorem im_X6_takesSign : Cond.instanceMethod yX6_takesSign ∈ tblG := tblG_ok (List.mem_of_getElem? (i := 942) (by decide +kernel)) rfl
theorem se_X6_takesSign : Cond.selects RX6 yX6_takesSign yX6_takesSign ∈ tblG := tblG_ok (List.mem_of_getElem? (i := 36) (by decide +kernel)) rfl
set_option maxRecDepth 100000 in
theorem cd_X6_digit : Cond.code yX6_digit cX6_digit 3 (mX6_digit).2.2.2 ∈ tblG := tblG_ok (List.mem_of_getElem? (i := 939) rfl) rfl
theorem mk_X6_digit : MOK mX6_digit 1 := ⟨ini_RX6, cd_X6_digit, ⟨by decide +kernel, by decide +kernel⟩, by decide +kernel, by decide⟩
theorem im_X6_digit : Cond.instanceMethod yX6_digit ∈ tblG := tblG_ok (List.mem_of_getElem? (i := 938) (by decide +kernel)) rfl
theorem se_X6_digit : Cond.selects RX6 yX6_digit yX6_digit ∈ tblG := tblG_ok (List.mem_of_getElem? (i := 35) (by decide +kernel)) rfl
set_option maxRecDepth 100000 in
theorem cd_X6_number : Cond.code yX6_number cX6_number 4 (mX6_number).2.2.2 ∈ tblG := tblG_ok (List.mem_of_getElem? (i := 951) rfl) rfl
theorem mk_X6_number : MOK mX6_number 2 := ⟨ini_RX6, cd_X6_number, ⟨by decide +kernel, by decide +kernel⟩, by decide +kernel, by decide⟩
theorem im_X6_number : Cond.instanceMethod yX6_number ∈ tblG := tblG_ok (List.mem_of_getElem? (i := 950) (by decide +kernel)) rfl
theorem se_X6_number : Cond.selects RX6 yX6_number yX6_number ∈ tblG := tblG_ok (List.mem_of_getElem? (i := 38) (by decide +kernel)) rfl
set_option maxRecDepth 100000 in
theorem cd_X6_readsThing : Cond.code yX6_readsThing cX6_readsThing 4 (mX6_readsThing).2.2.2 ∈ tblG := tblG_ok (List.mem_of_getElem? (i := 935) rfl) rfl
theorem mk_X6_readsThing : MOK mX6_readsThing 0 := ⟨ini_RX6, cd_X6_readsThing, ⟨by decide +kernel, by decide +kernel⟩, by decide +kernel, by decide⟩
theorem im_X6_readsThing : Cond.instanceMethod yX6_readsThing ∈ tblG := tblG_ok (List.mem_of_getElem? (i := 934) (by decide +kernel)) rfl
theorem se_X6_readsThing : Cond.selects RX6 yX6_readsThing yX6_readsThing ∈ tblG := tblG_ok (List.mem_of_getElem? (i := 34) (by decide +kernel)) rfl
set_option maxRecDepth 100000 in
theorem cd_X6_readsEvent : Cond.code yX6_readsEvent cX6_readsEvent 8 (mX6_readsEvent).2.2.2 ∈ tblG := tblG_ok (List.mem_of_getElem? (i := 947) rfl) rfl
theorem mk_X6_readsEvent : MOK mX6_readsEvent 0 := ⟨ini_RX6, cd_X6_readsEvent, ⟨by decide +kernel, by decide +kernel⟩, by decide +kernel, by decide⟩
theorem im_X6_readsEvent : Cond.instanceMethod yX6_readsEvent ∈ tblG := tblG_ok (List.mem_of_getElem? (i := 946) (by decide +kernel)) rfl
theorem se_X6_readsEvent : Cond.selects RX6 yX6_readsEvent yX6_readsEvent ∈ tblG := tblG_ok (List.mem_of_getElem? (i := 37) (by decide +kernel)) rfl
set_option maxRecDepth 100000 in
theorem cd_X6_readsTakes : Cond.code yX6_readsTakes cX6_readsTakes 3 (mX6_readsTakes).2.2.2 ∈ tblG := tblG_ok (List.mem_of_getElem? (i := 955) rfl) rfl
theorem mk_X6_readsTakes : MOK mX6_readsTakes 0 := ⟨ini_RX6, cd_X6_readsTakes, ⟨by decide +kernel, by decide +kernel⟩, by decide +kernel, by decide⟩
theorem im_X6_readsTakes : Cond.instanceMethod yX6_readsTakes ∈ tblG := tblG_ok (List.mem_of_getElem? (i := 954) (by decide +kernel)) rfl
theorem se_X6_readsTakes : Cond.selects RX6 yX6_readsTakes yX6_readsTakes ∈ tblG := tblG_ok (List.mem_of_getElem? (i := 39) (by decide +kernel)) rfl
set_option maxRecDepth 100000 in
theorem cd_X6_statement : Cond.code yX6_statement cX6_statement 3 (mX6_statement).2.2.2 ∈ tblG := tblG_ok (List.mem_of_getElem? (i := 927) rfl) rfl
theorem mk_X6_statement : MOK mX6_statement 0 := ⟨ini_RX6, cd_X6_statement, ⟨by decide +kernel, by decide +kernel⟩, by decide +kernel, by decide⟩
theorem im_X6_statement : Cond.instanceMethod yX6_statement ∈ tblG := tblG_ok (List.mem_of_getElem? (i := 926) (by decide +kernel)) rfl
theorem se_X6_statement : Cond.selects RX6 yX6_statement yX6_statement ∈ tblG := tblG_ok (List.mem_of_getElem? (i := 32) (by decide +kernel)) rfl
set_option maxRecDepth 100000 in
theorem cd_X6_house : Cond.code yX6_house cX6_house 3 (mX6_house).2.2.2 ∈ tblG := tblG_ok (List.mem_of_getElem? (i := 923) rfl) rfl
theorem mk_X6_house : MOK mX6_house 0 := ⟨ini_RX6, cd_X6_house, ⟨by decide +kernel, by decide +kernel⟩, by decide +kernel, by decide⟩
theorem im_X6_house : Cond.instanceMethod yX6_house ∈ tblG := tblG_ok (List.mem_of_getElem? (i := 921) (by decide +kernel)) rfl
theorem se_X6_house : Cond.selects RX6 yX6_house yX6_house ∈ tblG := tblG_ok (List.mem_of_getElem? (i := 922) (by decide +kernel)) rfl
set_option maxRecDepth 100000 in
theorem cd_X6_begins : Cond.code yX6_begins cX6_begins 4 (mX6_begins).2.2.2 ∈ tblG := tblG_ok (List.mem_of_getElem? (i := 967) rfl) rfl
theorem mk_X6_begins : MOK mX6_begins 1 := ⟨ini_RX6, cd_X6_begins, ⟨by decide +kernel, by decide +kernel⟩, by decide +kernel, by decide⟩
theorem im_X6_begins : Cond.instanceMethod yX6_begins ∈ tblG := tblG_ok (List.mem_of_getElem? (i := 966) (by decide +kernel)) rfl
theorem se_X6_begins : Cond.selects RX6 yX6_begins yX6_begins ∈ tblG := tblG_ok (List.mem_of_getElem? (i := 41) (by decide +kernel)) rfl
set_option maxRecDepth 100000 in
theorem cd_X6_sets : Cond.code yX6_sets cX6_sets 3 (mX6_sets).2.2.2 ∈ tblG := tblG_ok (List.mem_of_getElem? (i := 995) rfl) rfl
theorem mk_X6_sets : MOK mX6_sets 2 := ⟨ini_RX6, cd_X6_sets, ⟨by decide +kernel, by decide +kernel⟩, by decide +kernel, by decide⟩
theorem im_X6_sets : Cond.instanceMethod yX6_sets ∈ tblG := tblG_ok (List.mem_of_getElem? (i := 994) (by decide +kernel)) rfl
theorem se_X6_sets : Cond.selects RX6 yX6_sets yX6_sets ∈ tblG := tblG_ok (List.mem_of_getElem? (i := 48) (by decide +kernel)) rfl
set_option maxRecDepth 100000 in
theorem cd_X6_gives : Cond.code yX6_gives cX6_gives 5 (mX6_gives).2.2.2 ∈ tblG := tblG_ok (List.mem_of_getElem? (i := 991) rfl) rfl
theorem mk_X6_gives : MOK mX6_gives 3 := ⟨ini_RX6, cd_X6_gives, ⟨by decide +kernel, by decide +kernel⟩, by decide +kernel, by decide⟩
theorem im_X6_gives : Cond.instanceMethod yX6_gives ∈ tblG := tblG_ok (List.mem_of_getElem? (i := 990) (by decide +kernel)) rfl
theorem se_X6_gives : Cond.selects RX6 yX6_gives yX6_gives ∈ tblG := tblG_ok (List.mem_of_getElem? (i := 47) (by decide +kernel)) rfl
set_option maxRecDepth 100000 in
theorem cd_X6_isVessel : Cond.code yX6_isVessel cX6_isVessel 2 (mX6_isVessel).2.2.2 ∈ tblG := tblG_ok (List.mem_of_getElem? (i := 1003) rfl) rfl
theorem mk_X6_isVessel : MOK mX6_isVessel 1 := ⟨ini_RX6, cd_X6_isVessel, ⟨by decide +kernel, by decide +kernel⟩, by decide +kernel, by decide⟩
theorem im_X6_isVessel : Cond.instanceMethod yX6_isVessel ∈ tblG := tblG_ok (List.mem_of_getElem? (i := 1002) (by decide +kernel)) rfl
theorem se_X6_isVessel : Cond.selects RX6 yX6_isVessel yX6_isVessel ∈ tblG := tblG_ok (List.mem_of_getElem? (i := 50) (by decide +kernel)) rfl
set_option maxRecDepth 100000 in
theorem cd_X6_cleans : Cond.code yX6_cleans cX6_cleans 2 (mX6_cleans).2.2.2 ∈ tblG := tblG_ok (List.mem_of_getElem? (i := 979) rfl) rfl
theorem mk_X6_cleans : MOK mX6_cleans 1 := ⟨ini_RX6, cd_X6_cleans, ⟨by decide +kernel, by decide +kernel⟩, by decide +kernel, by decide⟩
theorem im_X6_cleans : Cond.instanceMethod yX6_cleans ∈ tblG := tblG_ok (List.mem_of_getElem? (i := 978) (by decide +kernel)) rfl
theorem se_X6_cleans : Cond.selects RX6 yX6_cleans yX6_cleans ∈ tblG := tblG_ok (List.mem_of_getElem? (i := 44) (by decide +kernel)) rfl
set_option maxRecDepth 100000 in
theorem cd_X6_washes : Cond.code yX6_washes cX6_washes 2 (mX6_washes).2.2.2 ∈ tblG := tblG_ok (List.mem_of_getElem? (i := 999) rfl) rfl
theorem mk_X6_washes : MOK mX6_washes 1 := ⟨ini_RX6, cd_X6_washes, ⟨by decide +kernel, by decide +kernel⟩, by decide +kernel, by decide⟩
theorem im_X6_washes : Cond.instanceMethod yX6_washes ∈ tblG := tblG_ok (List.mem_of_getElem? (i := 998) (by decide +kernel)) rfl
theorem se_X6_washes : Cond.selects RX6 yX6_washes yX6_washes ∈ tblG := tblG_ok (List.mem_of_getElem? (i := 49) (by decide +kernel)) rfl
set_option maxRecDepth 100000 in
theorem cd_X6_joins : Cond.code yX6_joins cX6_joins 6 (mX6_joins).2.2.2 ∈ tblG := tblG_ok (List.mem_of_getElem? (i := 1007) rfl) rfl
theorem mk_X6_joins : MOK mX6_joins 0 := ⟨ini_RX6, cd_X6_joins, ⟨by decide +kernel, by decide +kernel⟩, by decide +kernel, by decide⟩
theorem im_X6_joins : Cond.instanceMethod yX6_joins ∈ tblG := tblG_ok (List.mem_of_getElem? (i := 1006) (by decide +kernel)) rfl
theorem se_X6_joins : Cond.selects RX6 yX6_joins yX6_joins ∈ tblG := tblG_ok (List.mem_of_getElem? (i := 51) (by decide +kernel)) rfl
set_option maxRecDepth 100000 in
theorem cd_X6_does : Cond.code yX6_does cX6_does 9 (mX6_does).2.2.2 ∈ tblG := tblG_ok (List.mem_of_getElem? (i := 987) rfl) rfl
theorem mk_X6_does : MOK mX6_does 4 := ⟨ini_RX6, cd_X6_does, ⟨by decide +kernel, by decide +kernel⟩, by decide +kernel, by decide⟩
theorem im_X6_does : Cond.instanceMethod yX6_does ∈ tblG := tblG_ok (List.mem_of_getElem? (i := 986) (by decide +kernel)) rfl
theorem se_X6_does : Cond.selects RX6 yX6_does yX6_does ∈ tblG := tblG_ok (List.mem_of_getElem? (i := 46) (by decide +kernel)) rfl
set_option maxRecDepth 100000 in
theorem cd_X6_sunset : Cond.code yX6_sunset cX6_sunset 2 (mX6_sunset).2.2.2 ∈ tblG := tblG_ok (List.mem_of_getElem? (i := 975) rfl) rfl
theorem mk_X6_sunset : MOK mX6_sunset 0 := ⟨ini_RX6, cd_X6_sunset, ⟨by decide +kernel, by decide +kernel⟩, by decide +kernel, by decide⟩
theorem im_X6_sunset : Cond.instanceMethod yX6_sunset ∈ tblG := tblG_ok (List.mem_of_getElem? (i := 974) (by decide +kernel)) rfl
theorem se_X6_sunset : Cond.selects RX6 yX6_sunset yX6_sunset ∈ tblG := tblG_ok (List.mem_of_getElem? (i := 43) (by decide +kernel)) rfl
set_option maxRecDepth 100000 in
theorem cd_X6_isSo : Cond.code yX6_isSo cX6_isSo 4 (mX6_isSo).2.2.2 ∈ tblG := tblG_ok (List.mem_of_getElem? (i := 983) rfl) rfl
theorem mk_X6_isSo : MOK mX6_isSo 2 := ⟨ini_RX6, cd_X6_isSo, ⟨by decide +kernel, by decide +kernel⟩, by decide +kernel, by decide⟩
theorem im_X6_isSo : Cond.instanceMethod yX6_isSo ∈ tblG := tblG_ok (List.mem_of_getElem? (i := 982) (by decide +kernel)) rfl
theorem se_X6_isSo : Cond.selects RX6 yX6_isSo yX6_isSo ∈ tblG := tblG_ok (List.mem_of_getElem? (i := 45) (by decide +kernel)) rfl
set_option maxRecDepth 100000 in
theorem cd_X6_goes : Cond.code yX6_goes cX6_goes 4 (mX6_goes).2.2.2 ∈ tblG := tblG_ok (List.mem_of_getElem? (i := 971) rfl) rfl
theorem mk_X6_goes : MOK mX6_goes 2 := ⟨ini_RX6, cd_X6_goes, ⟨by decide +kernel, by decide +kernel⟩, by decide +kernel, by decide⟩
theorem im_X6_goes : Cond.instanceMethod yX6_goes ∈ tblG := tblG_ok (List.mem_of_getElem? (i := 970) (by decide +kernel)) rfl
theorem se_X6_goes : Cond.selects RX6 yX6_goes yX6_goes ∈ tblG := tblG_ok (List.mem_of_getElem? (i := 42) (by decide +kernel)) rfl
set_option maxRecDepth 100000 in
theorem cd_X6_runs : Cond.code yX6_runs cX6_runs 5 (mX6_runs).2.2.2 ∈ tblG := tblG_ok (List.mem_of_getElem? (i := 963) rfl) rfl
theorem mk_X6_runs : MOK mX6_runs 3 := ⟨ini_RX6, cd_X6_runs, ⟨by decide +kernel, by decide +kernel⟩, by decide +kernel, by decide⟩
theorem im_X6_runs : Cond.instanceMethod yX6_runs ∈ tblG := tblG_ok (List.mem_of_getElem? (i := 962) (by decide +kernel)) rfl
theorem se_X6_runs : Cond.selects RX6 yX6_runs yX6_runs ∈ tblG := tblG_ok (List.mem_of_getElem? (i := 40) (by decide +kernel)) rfl
set_option maxRecDepth 100000 in
theorem cd_X6_why : Cond.code yX6_why cX6_why 3 (mX6_why).2.2.2 ∈ tblG := tblG_ok (List.mem_of_getElem? (i := 1038) rfl) rfl
theorem mk_X6_why : MOK mX6_why 2 := ⟨ini_RX6, cd_X6_why, ⟨by decide +kernel, by decide +kernel⟩, by decide +kernel, by decide⟩
theorem im_X6_why : Cond.instanceMethod yX6_why ∈ tblG := tblG_ok (List.mem_of_getElem? (i := 1037) (by decide +kernel)) rfl
theorem se_X6_why : Cond.selects RX6 yX6_why yX6_why ∈ tblG := tblG_ok (List.mem_of_getElem? (i := 55) (by decide +kernel)) rfl
set_option maxRecDepth 100000 in
theorem cd_X6_state : Cond.code yX6_state cX6_state 5 (mX6_state).2.2.2 ∈ tblG := tblG_ok (List.mem_of_getElem? (i := 959) rfl) rfl
theorem mk_X6_state : MOK mX6_state 3 := ⟨ini_RX6, cd_X6_state, ⟨by decide +kernel, by decide +kernel⟩, by decide +kernel, by decide⟩
theorem im_X6_state : Cond.instanceMethod yX6_state ∈ tblG := tblG_ok (List.mem_of_getElem? (i := 957) (by decide +kernel)) rfl
theorem se_X6_state : Cond.selects RX6 yX6_state yX6_state ∈ tblG := tblG_ok (List.mem_of_getElem? (i := 958) (by decide +kernel)) rfl
set_option maxRecDepth 100000 in
theorem cd_X6_when : Cond.code yX6_when cX6_when 5 (mX6_when).2.2.2 ∈ tblG := tblG_ok (List.mem_of_getElem? (i := 1011) rfl) rfl
theorem mk_X6_when : MOK mX6_when 2 := ⟨ini_RX6, cd_X6_when, ⟨by decide +kernel, by decide +kernel⟩, by decide +kernel, by decide⟩
theorem im_X6_when : Cond.instanceMethod yX6_when ∈ tblG := tblG_ok (List.mem_of_getElem? (i := 1009) (by decide +kernel)) rfl
theorem se_X6_when : Cond.selects RX6 yX6_when yX6_when ∈ tblG := tblG_ok (List.mem_of_getElem? (i := 1010) (by decide +kernel)) rfl
set_option maxRecDepth 100000 in
theorem cd_X6_named : Cond.code yX6_named cX6_named 3 (mX6_named).2.2.2 ∈ tblG := tblG_ok (List.mem_of_getElem? (i := 1019) rfl) rfl
theorem mk_X6_named : MOK mX6_named 0 := ⟨ini_RX6, cd_X6_named, ⟨by decide +kernel, by decide +kernel⟩, by decide +kernel, by decide⟩
theorem im_X6_named : Cond.instanceMethod yX6_named ∈ tblG := tblG_ok (List.mem_of_getElem? (i := 1018) (by decide +kernel)) rfl
theorem se_X6_named : Cond.selects RX6 yX6_named yX6_named ∈ tblG := tblG_ok (List.mem_of_getElem? (i := 52) (by decide +kernel)) rfl
set_option maxRecDepth 100000 in
theorem cd_X6_agrees : Cond.code yX6_agrees cX6_agrees 4 (mX6_agrees).2.2.2 ∈ tblG := tblG_ok (List.mem_of_getElem? (i := 1030) rfl) rfl
theorem mk_X6_agrees : MOK mX6_agrees 1 := ⟨ini_RX6, cd_X6_agrees, ⟨by decide +kernel, by decide +kernel⟩, by decide +kernel, by decide⟩
theorem im_X6_agrees : Cond.instanceMethod yX6_agrees ∈ tblG := tblG_ok (List.mem_of_getElem? (i := 1029) (by decide +kernel)) rfl
theorem se_X6_agrees : Cond.selects RX6 yX6_agrees yX6_agrees ∈ tblG := tblG_ok (List.mem_of_getElem? (i := 54) (by decide +kernel)) rfl
set_option maxRecDepth 100000 in
theorem cd_X6_findLeft : Cond.code yX6_findLeft cX6_findLeft 4 (mX6_findLeft).2.2.2 ∈ tblG := tblG_ok (List.mem_of_getElem? (i := 1026) rfl) rfl
theorem mk_X6_findLeft : MOK mX6_findLeft 1 := ⟨ini_RX6, cd_X6_findLeft, ⟨by decide +kernel, by decide +kernel⟩, by decide +kernel, by decide⟩
theorem im_X6_findLeft : Cond.instanceMethod yX6_findLeft ∈ tblG := tblG_ok (List.mem_of_getElem? (i := 1025) (by decide +kernel)) rfl
theorem se_X6_findLeft : Cond.selects RX6 yX6_findLeft yX6_findLeft ∈ tblG := tblG_ok (List.mem_of_getElem? (i := 53) (by decide +kernel)) rfl
set_option maxRecDepth 100000 in
theorem cd_X6_bits : Cond.code yX6_bits cX6_bits 3 (mX6_bits).2.2.2 ∈ tblG := tblG_ok (List.mem_of_getElem? (i := 1022) rfl) rfl
theorem mk_X6_bits : MOK mX6_bits 1 := ⟨ini_RX6, cd_X6_bits, ⟨by decide +kernel, by decide +kernel⟩, by decide +kernel, by decide⟩
theorem sm_X6_bits : Cond.static yX6_bits ∈ tblG := tblG_ok (List.mem_of_getElem? (i := 1021) (by decide +kernel)) rfl
set_option maxRecDepth 100000 in
theorem cd_X6_ways : Cond.code yX6_ways cX6_ways 2 (mX6_ways).2.2.2 ∈ tblG := tblG_ok (List.mem_of_getElem? (i := 1015) rfl) rfl
theorem mk_X6_ways : MOK mX6_ways 1 := ⟨ini_RX6, cd_X6_ways, ⟨by decide +kernel, by decide +kernel⟩, by decide +kernel, by decide⟩
theorem im_X6_ways : Cond.instanceMethod yX6_ways ∈ tblG := tblG_ok (List.mem_of_getElem? (i := 1013) (by decide +kernel)) rfl
theorem se_X6_ways : Cond.selects RX6 yX6_ways yX6_ways ∈ tblG := tblG_ok (List.mem_of_getElem? (i := 1014) (by decide +kernel)) rfl
set_option maxRecDepth 100000 in
theorem cd_X6_fact : Cond.code yX6_fact cX6_fact 5 (mX6_fact).2.2.2 ∈ tblG := tblG_ok (List.mem_of_getElem? (i := 1034) rfl) rfl
theorem mk_X6_fact : MOK mX6_fact 3 := ⟨ini_RX6, cd_X6_fact, ⟨by decide +kernel, by decide +kernel⟩, by decide +kernel, by decide⟩
theorem im_X6_fact : Cond.instanceMethod yX6_fact ∈ tblG := tblG_ok (List.mem_of_getElem? (i := 1032) (by decide +kernel)) rfl
theorem se_X6_fact : Cond.selects RX6 yX6_fact yX6_fact ∈ tblG := tblG_ok (List.mem_of_getElem? (i := 1033) (by decide +kernel)) rfl
set_option maxRecDepth 100000 in
theorem cd_X6_forget : Cond.code yX6_forget cX6_forget 2 (mX6_forget).2.2.2 ∈ tblG := tblG_ok (List.mem_of_getElem? (i := 1042) rfl) rfl
theorem mk_X6_forget : MOK mX6_forget 0 := ⟨ini_RX6, cd_X6_forget, ⟨by decide +kernel, by decide +kernel⟩, by decide +kernel, by decide⟩
theorem im_X6_forget : Cond.instanceMethod yX6_forget ∈ tblG := tblG_ok (List.mem_of_getElem? (i := 1040) (by decide +kernel)) rfl
theorem se_X6_forget : Cond.selects RX6 yX6_forget yX6_forget ∈ tblG := tblG_ok (List.mem_of_getElem? (i := 1041) (by decide +kernel)) rfl
set_option maxRecDepth 100000 in
theorem cd_X6_findClean : Cond.code yX6_findClean cX6_findClean 4 (mX6_findClean).2.2.2 ∈ tblG := tblG_ok (List.mem_of_getElem? (i := 1050) rfl) rfl
theorem mk_X6_findClean : MOK mX6_findClean 2 := ⟨ini_RX6, cd_X6_findClean, ⟨by decide +kernel, by decide +kernel⟩, by decide +kernel, by decide⟩
theorem im_X6_findClean : Cond.instanceMethod yX6_findClean ∈ tblG := tblG_ok (List.mem_of_getElem? (i := 1049) (by decide +kernel)) rfl
theorem se_X6_findClean : Cond.selects RX6 yX6_findClean yX6_findClean ∈ tblG := tblG_ok (List.mem_of_getElem? (i := 56) (by decide +kernel)) rfl
set_option maxRecDepth 100000 in
theorem cd_X6_cleanNow : Cond.code yX6_cleanNow cX6_cleanNow 3 (mX6_cleanNow).2.2.2 ∈ tblG := tblG_ok (List.mem_of_getElem? (i := 1054) rfl) rfl
theorem mk_X6_cleanNow : MOK mX6_cleanNow 0 := ⟨ini_RX6, cd_X6_cleanNow, ⟨by decide +kernel, by decide +kernel⟩, by decide +kernel, by decide⟩
theorem im_X6_cleanNow : Cond.instanceMethod yX6_cleanNow ∈ tblG := tblG_ok (List.mem_of_getElem? (i := 1053) (by decide +kernel)) rfl
theorem se_X6_cleanNow : Cond.selects RX6 yX6_cleanNow yX6_cleanNow ∈ tblG := tblG_ok (List.mem_of_getElem? (i := 57) (by decide +kernel)) rfl
set_option maxRecDepth 100000 in
theorem cd_X6_manyOf : Cond.code yX6_manyOf cX6_manyOf 4 (mX6_manyOf).2.2.2 ∈ tblG := tblG_ok (List.mem_of_getElem? (i := 1062) rfl) rfl
theorem mk_X6_manyOf : MOK mX6_manyOf 1 := ⟨ini_RX6, cd_X6_manyOf, ⟨by decide +kernel, by decide +kernel⟩, by decide +kernel, by decide⟩
theorem im_X6_manyOf : Cond.instanceMethod yX6_manyOf ∈ tblG := tblG_ok (List.mem_of_getElem? (i := 1061) (by decide +kernel)) rfl
theorem se_X6_manyOf : Cond.selects RX6 yX6_manyOf yX6_manyOf ∈ tblG := tblG_ok (List.mem_of_getElem? (i := 59) (by decide +kernel)) rfl
set_option maxRecDepth 100000 in
theorem cd_X6_sureOf : Cond.code yX6_sureOf cX6_sureOf 3 (mX6_sureOf).2.2.2 ∈ tblG := tblG_ok (List.mem_of_getElem? (i := 1058) rfl) rfl
theorem mk_X6_sureOf : MOK mX6_sureOf 1 := ⟨ini_RX6, cd_X6_sureOf, ⟨by decide +kernel, by decide +kernel⟩, by decide +kernel, by decide⟩
theorem im_X6_sureOf : Cond.instanceMethod yX6_sureOf ∈ tblG := tblG_ok (List.mem_of_getElem? (i := 1057) (by decide +kernel)) rfl
theorem se_X6_sureOf : Cond.selects RX6 yX6_sureOf yX6_sureOf ∈ tblG := tblG_ok (List.mem_of_getElem? (i := 58) (by decide +kernel)) rfl
set_option maxRecDepth 100000 in
theorem cd_X6_sure : Cond.code yX6_sure cX6_sure 4 (mX6_sure).2.2.2 ∈ tblG := tblG_ok (List.mem_of_getElem? (i := 1046) rfl) rfl
theorem mk_X6_sure : MOK mX6_sure 2 := ⟨ini_RX6, cd_X6_sure, ⟨by decide +kernel, by decide +kernel⟩, by decide +kernel, by decide⟩
theorem im_X6_sure : Cond.instanceMethod yX6_sure ∈ tblG := tblG_ok (List.mem_of_getElem? (i := 1044) (by decide +kernel)) rfl
theorem se_X6_sure : Cond.selects RX6 yX6_sure yX6_sure ∈ tblG := tblG_ok (List.mem_of_getElem? (i := 1045) (by decide +kernel)) rfl
set_option maxRecDepth 100000 in
theorem cd_X6_many : Cond.code yX6_many cX6_many 4 (mX6_many).2.2.2 ∈ tblG := tblG_ok (List.mem_of_getElem? (i := 1066) rfl) rfl
theorem mk_X6_many : MOK mX6_many 2 := ⟨ini_RX6, cd_X6_many, ⟨by decide +kernel, by decide +kernel⟩, by decide +kernel, by decide⟩
theorem im_X6_many : Cond.instanceMethod yX6_many ∈ tblG := tblG_ok (List.mem_of_getElem? (i := 1064) (by decide +kernel)) rfl
theorem se_X6_many : Cond.selects RX6 yX6_many yX6_many ∈ tblG := tblG_ok (List.mem_of_getElem? (i := 1065) (by decide +kernel)) rfl
set_option maxRecDepth 100000 in
theorem cd_X6_judged : Cond.code yX6_judged cX6_judged 7 (mX6_judged).2.2.2 ∈ tblG := tblG_ok (List.mem_of_getElem? (i := 1070) rfl) rfl
theorem mk_X6_judged : MOK mX6_judged 2 := ⟨ini_RX6, cd_X6_judged, ⟨by decide +kernel, by decide +kernel⟩, by decide +kernel, by decide⟩
theorem im_X6_judged : Cond.instanceMethod yX6_judged ∈ tblG := tblG_ok (List.mem_of_getElem? (i := 1068) (by decide +kernel)) rfl
theorem se_X6_judged : Cond.selects RX6 yX6_judged yX6_judged ∈ tblG := tblG_ok (List.mem_of_getElem? (i := 1069) (by decide +kernel)) rfl
set_option maxRecDepth 100000 in
theorem cd_X6_areRivals : Cond.code yX6_areRivals cX6_areRivals 4 (mX6_areRivals).2.2.2 ∈ tblG := tblG_ok (List.mem_of_getElem? (i := 1078) rfl) rfl
theorem mk_X6_areRivals : MOK mX6_areRivals 1 := ⟨ini_RX6, cd_X6_areRivals, ⟨by decide +kernel, by decide +kernel⟩, by decide +kernel, by decide⟩
theorem im_X6_areRivals : Cond.instanceMethod yX6_areRivals ∈ tblG := tblG_ok (List.mem_of_getElem? (i := 1077) (by decide +kernel)) rfl
theorem se_X6_areRivals : Cond.selects RX6 yX6_areRivals yX6_areRivals ∈ tblG := tblG_ok (List.mem_of_getElem? (i := 60) (by decide +kernel)) rfl
set_option maxRecDepth 100000 in
theorem cd_X6_rivals : Cond.code yX6_rivals cX6_rivals 5 (mX6_rivals).2.2.2 ∈ tblG := tblG_ok (List.mem_of_getElem? (i := 1074) rfl) rfl
theorem mk_X6_rivals : MOK mX6_rivals 1 := ⟨ini_RX6, cd_X6_rivals, ⟨by decide +kernel, by decide +kernel⟩, by decide +kernel, by decide⟩
theorem im_X6_rivals : Cond.instanceMethod yX6_rivals ∈ tblG := tblG_ok (List.mem_of_getElem? (i := 1072) (by decide +kernel)) rfl
theorem se_X6_rivals : Cond.selects RX6 yX6_rivals yX6_rivals ∈ tblG := tblG_ok (List.mem_of_getElem? (i := 1073) (by decide +kernel)) rfl
set_option maxRecDepth 100000 in
theorem cd_X6_doubts : Cond.code yX6_doubts cX6_doubts 7 (mX6_doubts).2.2.2 ∈ tblG := tblG_ok (List.mem_of_getElem? (i := 1086) rfl) rfl
theorem mk_X6_doubts : MOK mX6_doubts 2 := ⟨ini_RX6, cd_X6_doubts, ⟨by decide +kernel, by decide +kernel⟩, by decide +kernel, by decide⟩
theorem im_X6_doubts : Cond.instanceMethod yX6_doubts ∈ tblG := tblG_ok (List.mem_of_getElem? (i := 1085) (by decide +kernel)) rfl
theorem se_X6_doubts : Cond.selects RX6 yX6_doubts yX6_doubts ∈ tblG := tblG_ok (List.mem_of_getElem? (i := 61) (by decide +kernel)) rfl
set_option maxRecDepth 100000 in
theorem cd_X6_question : Cond.code yX6_question cX6_question 11 (mX6_question).2.2.2 ∈ tblG := tblG_ok (List.mem_of_getElem? (i := 1082) rfl) rfl
theorem mk_X6_question : MOK mX6_question 2 := ⟨ini_RX6, cd_X6_question, ⟨by decide +kernel, by decide +kernel⟩, by decide +kernel, by decide⟩
theorem im_X6_question : Cond.instanceMethod yX6_question ∈ tblG := tblG_ok (List.mem_of_getElem? (i := 1080) (by decide +kernel)) rfl
theorem se_X6_question : Cond.selects RX6 yX6_question yX6_question ∈ tblG := tblG_ok (List.mem_of_getElem? (i := 1081) (by decide +kernel)) rfl
set_option maxRecDepth 100000 in
theorem cd_X6_sources : Cond.code yX6_sources cX6_sources 6 (mX6_sources).2.2.2 ∈ tblG := tblG_ok (List.mem_of_getElem? (i := 1090) rfl) rfl
theorem mk_X6_sources : MOK mX6_sources 2 := ⟨ini_RX6, cd_X6_sources, ⟨by decide +kernel, by decide +kernel⟩, by decide +kernel, by decide⟩
theorem im_X6_sources : Cond.instanceMethod yX6_sources ∈ tblG := tblG_ok (List.mem_of_getElem? (i := 1088) (by decide +kernel)) rfl
theorem se_X6_sources : Cond.selects RX6 yX6_sources yX6_sources ∈ tblG := tblG_ok (List.mem_of_getElem? (i := 1089) (by decide +kernel)) rfl
set_option maxRecDepth 100000 in
theorem cd_X6_isEnough : Cond.code yX6_isEnough cX6_isEnough 6 (mX6_isEnough).2.2.2 ∈ tblG := tblG_ok (List.mem_of_getElem? (i := 1098) rfl) rfl
theorem mk_X6_isEnough : MOK mX6_isEnough 3 := ⟨ini_RX6, cd_X6_isEnough, ⟨by decide +kernel, by decide +kernel⟩, by decide +kernel, by decide⟩
theorem im_X6_isEnough : Cond.instanceMethod yX6_isEnough ∈ tblG := tblG_ok (List.mem_of_getElem? (i := 1097) (by decide +kernel)) rfl
theorem se_X6_isEnough : Cond.selects RX6 yX6_isEnough yX6_isEnough ∈ tblG := tblG_ok (List.mem_of_getElem? (i := 62) (by decide +kernel)) rfl
set_option maxRecDepth 100000 in
theorem cd_X6_washing : Cond.code yX6_washing cX6_washing 7 (mX6_washing).2.2.2 ∈ tblG := tblG_ok (List.mem_of_getElem? (i := 1094) rfl) rfl
theorem mk_X6_washing : MOK mX6_washing 2 := ⟨ini_RX6, cd_X6_washing, ⟨by decide +kernel, by decide +kernel⟩, by decide +kernel, by decide⟩
theorem im_X6_washing : Cond.instanceMethod yX6_washing ∈ tblG := tblG_ok (List.mem_of_getElem? (i := 1092) (by decide +kernel)) rfl
theorem se_X6_washing : Cond.selects RX6 yX6_washing yX6_washing ∈ tblG := tblG_ok (List.mem_of_getElem? (i := 1093) (by decide +kernel)) rfl
set_option maxRecDepth 100000 in
theorem cd_X6_step : Cond.code yX6_step cX6_step 4 (mX6_step).2.2.2 ∈ tblG := tblG_ok (List.mem_of_getElem? (i := 1102) rfl) rfl
theorem mk_X6_step : MOK mX6_step 3 := ⟨ini_RX6, cd_X6_step, ⟨by decide +kernel, by decide +kernel⟩, by decide +kernel, by decide⟩
theorem im_X6_step : Cond.instanceMethod yX6_step ∈ tblG := tblG_ok (List.mem_of_getElem? (i := 1100) (by decide +kernel)) rfl
theorem se_X6_step : Cond.selects RX6 yX6_step yX6_step ∈ tblG := tblG_ok (List.mem_of_getElem? (i := 1101) (by decide +kernel)) rfl
set_option maxRecDepth 100000 in
theorem cd_X6_clear : Cond.code yX6_clear cX6_clear 2 (mX6_clear).2.2.2 ∈ tblG := tblG_ok (List.mem_of_getElem? (i := 1106) rfl) rfl
theorem mk_X6_clear : MOK mX6_clear 0 := ⟨ini_RX6, cd_X6_clear, ⟨by decide +kernel, by decide +kernel⟩, by decide +kernel, by decide⟩
theorem im_X6_clear : Cond.instanceMethod yX6_clear ∈ tblG := tblG_ok (List.mem_of_getElem? (i := 1104) (by decide +kernel)) rfl
theorem se_X6_clear : Cond.selects RX6 yX6_clear yX6_clear ∈ tblG := tblG_ok (List.mem_of_getElem? (i := 1105) (by decide +kernel)) rfl
set_option maxRecDepth 100000 in
theorem cd_X6_cooks : Cond.code yX6_cooks cX6_cooks 4 (mX6_cooks).2.2.2 ∈ tblG := tblG_ok (List.mem_of_getElem? (i := 1114) rfl) rfl
theorem mk_X6_cooks : MOK mX6_cooks 1 := ⟨ini_RX6, cd_X6_cooks, ⟨by decide +kernel, by decide +kernel⟩, by decide +kernel, by decide⟩
theorem im_X6_cooks : Cond.instanceMethod yX6_cooks ∈ tblG := tblG_ok (List.mem_of_getElem? (i := 1113) (by decide +kernel)) rfl
theorem se_X6_cooks : Cond.selects RX6 yX6_cooks yX6_cooks ∈ tblG := tblG_ok (List.mem_of_getElem? (i := 63) (by decide +kernel)) rfl
set_option maxRecDepth 100000 in
theorem cd_X6_nextLine : Cond.code yX6_nextLine cX6_nextLine 6 (mX6_nextLine).2.2.2 ∈ tblG := tblG_ok (List.mem_of_getElem? (i := 1118) rfl) rfl
theorem mk_X6_nextLine : MOK mX6_nextLine 0 := ⟨ini_RX6, cd_X6_nextLine, ⟨by decide +kernel, by decide +kernel⟩, by decide +kernel, by decide⟩
theorem im_X6_nextLine : Cond.instanceMethod yX6_nextLine ∈ tblG := tblG_ok (List.mem_of_getElem? (i := 1117) (by decide +kernel)) rfl
theorem se_X6_nextLine : Cond.selects RX6 yX6_nextLine yX6_nextLine ∈ tblG := tblG_ok (List.mem_of_getElem? (i := 64) (by decide +kernel)) rfl
set_option maxRecDepth 100000 in
theorem cd_X6_cooking : Cond.code yX6_cooking cX6_cooking 6 (mX6_cooking).2.2.2 ∈ tblG := tblG_ok (List.mem_of_getElem? (i := 1110) rfl) rfl
theorem mk_X6_cooking : MOK mX6_cooking 1 := ⟨ini_RX6, cd_X6_cooking, ⟨by decide +kernel, by decide +kernel⟩, by decide +kernel, by decide⟩
theorem im_X6_cooking : Cond.instanceMethod yX6_cooking ∈ tblG := tblG_ok (List.mem_of_getElem? (i := 1108) (by decide +kernel)) rfl
theorem se_X6_cooking : Cond.selects RX6 yX6_cooking yX6_cooking ∈ tblG := tblG_ok (List.mem_of_getElem? (i := 1109) (by decide +kernel)) rfl
set_option maxRecDepth 100000 in
theorem cd_X6_beside : Cond.code yX6_beside cX6_beside 5 (mX6_beside).2.2.2 ∈ tblG := tblG_ok (List.mem_of_getElem? (i := 1122) rfl) rfl
theorem mk_X6_beside : MOK mX6_beside 1 := ⟨ini_RX6, cd_X6_beside, ⟨by decide +kernel, by decide +kernel⟩, by decide +kernel, by decide⟩
theorem im_X6_beside : Cond.instanceMethod yX6_beside ∈ tblG := tblG_ok (List.mem_of_getElem? (i := 1120) (by decide +kernel)) rfl
theorem se_X6_beside : Cond.selects RX6 yX6_beside yX6_beside ∈ tblG := tblG_ok (List.mem_of_getElem? (i := 1121) (by decide +kernel)) rfl
set_option maxRecDepth 100000 in
theorem cd_X6_passes : Cond.code yX6_passes cX6_passes 3 (mX6_passes).2.2.2 ∈ tblG := tblG_ok (List.mem_of_getElem? (i := 1134) rfl) rfl
theorem mk_X6_passes : MOK mX6_passes 1 := ⟨ini_RX6, cd_X6_passes, ⟨by decide +kernel, by decide +kernel⟩, by decide +kernel, by decide⟩
theorem im_X6_passes : Cond.instanceMethod yX6_passes ∈ tblG := tblG_ok (List.mem_of_getElem? (i := 1133) (by decide +kernel)) rfl
theorem se_X6_passes : Cond.selects RX6 yX6_passes yX6_passes ∈ tblG := tblG_ok (List.mem_of_getElem? (i := 66) (by decide +kernel)) rfl
set_option maxRecDepth 100000 in
theorem cd_X6_passOne : Cond.code yX6_passOne cX6_passOne 3 (mX6_passOne).2.2.2 ∈ tblG := tblG_ok (List.mem_of_getElem? (i := 1138) rfl) rfl
theorem mk_X6_passOne : MOK mX6_passOne 1 := ⟨ini_RX6, cd_X6_passOne, ⟨by decide +kernel, by decide +kernel⟩, by decide +kernel, by decide⟩
theorem im_X6_passOne : Cond.instanceMethod yX6_passOne ∈ tblG := tblG_ok (List.mem_of_getElem? (i := 1137) (by decide +kernel)) rfl
theorem se_X6_passOne : Cond.selects RX6 yX6_passOne yX6_passOne ∈ tblG := tblG_ok (List.mem_of_getElem? (i := 67) (by decide +kernel)) rfl
set_option maxRecDepth 100000 in
theorem cd_X6_passesAll : Cond.code yX6_passesAll cX6_passesAll 1 (mX6_passesAll).2.2.2 ∈ tblG := tblG_ok (List.mem_of_getElem? (i := 1130) rfl) rfl
theorem mk_X6_passesAll : MOK mX6_passesAll 0 := ⟨ini_RX6, cd_X6_passesAll, ⟨by decide +kernel, by decide +kernel⟩, by decide +kernel, by decide⟩
theorem im_X6_passesAll : Cond.instanceMethod yX6_passesAll ∈ tblG := tblG_ok (List.mem_of_getElem? (i := 1129) (by decide +kernel)) rfl
theorem se_X6_passesAll : Cond.selects RX6 yX6_passesAll yX6_passesAll ∈ tblG := tblG_ok (List.mem_of_getElem? (i := 65) (by decide +kernel)) rfl
set_option maxRecDepth 100000 in
theorem cd_X6_image : Cond.code yX6_image cX6_image 1 (mX6_image).2.2.2 ∈ tblG := tblG_ok (List.mem_of_getElem? (i := 1126) rfl) rfl
theorem mk_X6_image : MOK mX6_image 0 := ⟨ini_RX6, cd_X6_image, ⟨by decide +kernel, by decide +kernel⟩, by decide +kernel, by decide⟩
theorem im_X6_image : Cond.instanceMethod yX6_image ∈ tblG := tblG_ok (List.mem_of_getElem? (i := 1124) (by decide +kernel)) rfl
theorem se_X6_image : Cond.selects RX6 yX6_image yX6_image ∈ tblG := tblG_ok (List.mem_of_getElem? (i := 1125) (by decide +kernel)) rfl
set_option maxRecDepth 100000 in
theorem cd_X6_restore : Cond.code yX6_restore cX6_restore 1 (mX6_restore).2.2.2 ∈ tblG := tblG_ok (List.mem_of_getElem? (i := 1142) rfl) rfl
theorem mk_X6_restore : MOK mX6_restore 0 := ⟨ini_RX6, cd_X6_restore, ⟨by decide +kernel, by decide +kernel⟩, by decide +kernel, by decide⟩
theorem im_X6_restore : Cond.instanceMethod yX6_restore ∈ tblG := tblG_ok (List.mem_of_getElem? (i := 1140) (by decide +kernel)) rfl
theorem se_X6_restore : Cond.selects RX6 yX6_restore yX6_restore ∈ tblG := tblG_ok (List.mem_of_getElem? (i := 1141) (by decide +kernel)) rfl
set_option maxRecDepth 100000 in
theorem cd_X6_count : Cond.code yX6_count cX6_count 2 (mX6_count).2.2.2 ∈ tblG := tblG_ok (List.mem_of_getElem? (i := 1146) rfl) rfl
theorem mk_X6_count : MOK mX6_count 1 := ⟨ini_RX6, cd_X6_count, ⟨by decide +kernel, by decide +kernel⟩, by decide +kernel, by decide⟩
theorem im_X6_count : Cond.instanceMethod yX6_count ∈ tblG := tblG_ok (List.mem_of_getElem? (i := 1144) (by decide +kernel)) rfl
theorem se_X6_count : Cond.selects RX6 yX6_count yX6_count ∈ tblG := tblG_ok (List.mem_of_getElem? (i := 1145) (by decide +kernel)) rfl
set_option maxRecDepth 100000 in
theorem cd_J6_bitCount_0f7a4 : Cond.code yJ6_bitCount_0f7a4 cJ6_bitCount_0f7a4 1 (mJ6_bitCount_0f7a4).2.2.2 ∈ tblG := tblG_ok (List.mem_of_getElem? (i := 652) rfl) rfl
theorem mk_J6_bitCount_0f7a4 : MOK mJ6_bitCount_0f7a4 1 := ⟨ini_RJ6, cd_J6_bitCount_0f7a4, ⟨by decide +kernel, by decide +kernel⟩, by decide +kernel, by decide⟩
theorem sm_J6_bitCount_0f7a4 : Cond.static yJ6_bitCount_0f7a4 ∈ tblG := tblG_ok (List.mem_of_getElem? (i := 651) (by decide +kernel)) rfl
set_option maxRecDepth 100000 in
theorem cd_J13_bitCount_95d88 : Cond.code yJ13_bitCount_95d88 cJ13_bitCount_95d88 2 (mJ13_bitCount_95d88).2.2.2 ∈ tblG := tblG_ok (List.mem_of_getElem? (i := 542) rfl) rfl
theorem mk_J13_bitCount_95d88 : MOK mJ13_bitCount_95d88 1 := ⟨ini_RJ13, cd_J13_bitCount_95d88, ⟨by decide +kernel, by decide +kernel⟩, by decide +kernel, by decide⟩
theorem sm_J13_bitCount_95d88 : Cond.static yJ13_bitCount_95d88 ∈ tblG := tblG_ok (List.mem_of_getElem? (i := 541) (by decide +kernel)) rfl
set_option maxRecDepth 100000 in
theorem cd_J9_max_7cf53 : Cond.code yJ9_max_7cf53 cJ9_max_7cf53 2 (mJ9_max_7cf53).2.2.2 ∈ tblG := tblG_ok (List.mem_of_getElem? (i := 437) rfl) rfl
theorem mk_J9_max_7cf53 : MOK mJ9_max_7cf53 2 := ⟨ini_RJ9, cd_J9_max_7cf53, ⟨by decide +kernel, by decide +kernel⟩, by decide +kernel, by decide⟩
theorem sm_J9_max_7cf53 : Cond.static yJ9_max_7cf53 ∈ tblG := tblG_ok (List.mem_of_getElem? (i := 436) (by decide +kernel)) rfl
set_option maxRecDepth 100000 in
theorem cd_J9_min_7cf53 : Cond.code yJ9_min_7cf53 cJ9_min_7cf53 2 (mJ9_min_7cf53).2.2.2 ∈ tblG := tblG_ok (List.mem_of_getElem? (i := 649) rfl) rfl
theorem mk_J9_min_7cf53 : MOK mJ9_min_7cf53 2 := ⟨ini_RJ9, cd_J9_min_7cf53, ⟨by decide +kernel, by decide +kernel⟩, by decide +kernel, by decide⟩
theorem sm_J9_min_7cf53 : Cond.static yJ9_min_7cf53 ∈ tblG := tblG_ok (List.mem_of_getElem? (i := 648) (by decide +kernel)) rfl
set_option maxRecDepth 100000 in
theorem cd_J7_fill_d0a16 : Cond.code yJ7_fill_d0a16 cJ7_fill_d0a16 5 (mJ7_fill_d0a16).2.2.2 ∈ tblG := tblG_ok (List.mem_of_getElem? (i := 425) rfl) rfl
theorem mk_J7_fill_d0a16 : MOK mJ7_fill_d0a16 2 := ⟨ini_RJ7, cd_J7_fill_d0a16, ⟨by decide +kernel, by decide +kernel⟩, by decide +kernel, by decide⟩
theorem sm_J7_fill_d0a16 : Cond.static yJ7_fill_d0a16 ∈ tblG := tblG_ok (List.mem_of_getElem? (i := 424) (by decide +kernel)) rfl
set_option maxRecDepth 100000 in
theorem cd_J7_fill_53178 : Cond.code yJ7_fill_53178 cJ7_fill_53178 4 (mJ7_fill_53178).2.2.2 ∈ tblG := tblG_ok (List.mem_of_getElem? (i := 418) rfl) rfl
theorem mk_J7_fill_53178 : MOK mJ7_fill_53178 2 := ⟨ini_RJ7, cd_J7_fill_53178, ⟨by decide +kernel, by decide +kernel⟩, by decide +kernel, by decide⟩
theorem sm_J7_fill_53178 : Cond.static yJ7_fill_53178 ∈ tblG := tblG_ok (List.mem_of_getElem? (i := 417) (by decide +kernel)) rfl
theorem ml_RL_9 : Cond.methodLink RL 9 yX5_init ∈ tblG := tblG_ok (List.mem_of_getElem? (i := 83) (by decide +kernel)) rfl
theorem ml_RX5_21 : Cond.methodLink RX5 21 yX4_init ∈ tblG := tblG_ok (List.mem_of_getElem? (i := 151) (by decide +kernel)) rfl
theorem ml_RX5_33 : Cond.methodLink RX5 33 yX0_init ∈ tblG := tblG_ok (List.mem_of_getElem? (i := 194) (by decide +kernel)) rfl
theorem ml_RX5_45 : Cond.methodLink RX5 45 yX2_init ∈ tblG := tblG_ok (List.mem_of_getElem? (i := 207) (by decide +kernel)) rfl
theorem ml_RX5_52 : Cond.methodLink RX5 52 yX1_init ∈ tblG := tblG_ok (List.mem_of_getElem? (i := 223) (by decide +kernel)) rfl
theorem ml_RL_13 : Cond.methodLink RL 13 yX5_thing ∈ tblG := tblG_ok (List.mem_of_getElem? (i := 272) (by decide +kernel)) rfl
theorem ml_RX5_67 : Cond.methodLink RX5 67 yX5_refuse ∈ tblG := tblG_ok (List.mem_of_getElem? (i := 276) (by decide +kernel)) rfl
theorem ml_RX5_71 : Cond.methodLink RX5 71 yX3_hasPartnerAhead ∈ tblG := tblG_ok (List.mem_of_getElem? (i := 280) (by decide +kernel)) rfl
theorem ml_RX3_40 : Cond.methodLink RX3 40 yX3_kindOf ∈ tblG := tblG_ok (List.mem_of_getElem? (i := 284) (by decide +kernel)) rfl
theorem ml_RX5_79 : Cond.methodLink RX5 79 yX3_addThing ∈ tblG := tblG_ok (List.mem_of_getElem? (i := 288) (by decide +kernel)) rfl
theorem ml_RL_18 : Cond.methodLink RL 18 yX5_takes ∈ tblG := tblG_ok (List.mem_of_getElem? (i := 292) (by decide +kernel)) rfl
theorem ml_RX5_83 : Cond.methodLink RX5 83 yX3_setTaken ∈ tblG := tblG_ok (List.mem_of_getElem? (i := 296) (by decide +kernel)) rfl
theorem ml_RL_23 : Cond.methodLink RL 23 yX5_law ∈ tblG := tblG_ok (List.mem_of_getElem? (i := 300) (by decide +kernel)) rfl
theorem ml_RX5_87 : Cond.methodLink RX5 87 yX3_setRule ∈ tblG := tblG_ok (List.mem_of_getElem? (i := 304) (by decide +kernel)) rfl
theorem ml_RL_28 : Cond.methodLink RL 28 yX5_event ∈ tblG := tblG_ok (List.mem_of_getElem? (i := 308) (by decide +kernel)) rfl
theorem ml_RX5_90 : Cond.methodLink RX5 90 yX3_isThere ∈ tblG := tblG_ok (List.mem_of_getElem? (i := 312) (by decide +kernel)) rfl
theorem ml_RX5_94 : Cond.methodLink RX5 94 yX5_isUnknownAbove ∈ tblG := tblG_ok (List.mem_of_getElem? (i := 316) (by decide +kernel)) rfl
theorem ml_RX5_100 : Cond.methodLink RX5 100 yX3_addEvent ∈ tblG := tblG_ok (List.mem_of_getElem? (i := 319) (by decide +kernel)) rfl
theorem ml_RL_33 : Cond.methodLink RL 33 yX5_of ∈ tblG := tblG_ok (List.mem_of_getElem? (i := 326) (by decide +kernel)) rfl
theorem ml_RX5_104 : Cond.methodLink RX5 104 yX3_eventPart ∈ tblG := tblG_ok (List.mem_of_getElem? (i := 330) (by decide +kernel)) rfl
theorem ml_RL_37 : Cond.methodLink RL 37 yX5_takeBack ∈ tblG := tblG_ok (List.mem_of_getElem? (i := 334) (by decide +kernel)) rfl
theorem ml_RX5_107 : Cond.methodLink RX5 107 yX3_dropEvent ∈ tblG := tblG_ok (List.mem_of_getElem? (i := 338) (by decide +kernel)) rfl
theorem ml_RL_44 : Cond.methodLink RL 44 yX5_feed ∈ tblG := tblG_ok (List.mem_of_getElem? (i := 342) (by decide +kernel)) rfl
theorem ml_RX5_114 : Cond.methodLink RX5 114 yX1_append ∈ tblG := tblG_ok (List.mem_of_getElem? (i := 346) (by decide +kernel)) rfl
theorem ml_RL_49 : Cond.methodLink RL 49 yX5_house ∈ tblG := tblG_ok (List.mem_of_getElem? (i := 350) (by decide +kernel)) rfl
theorem ml_RX5_118 : Cond.methodLink RX5 118 yX1_readAll ∈ tblG := tblG_ok (List.mem_of_getElem? (i := 354) (by decide +kernel)) rfl
theorem ml_RX1_26 : Cond.methodLink RX1 26 yX1_readStatement ∈ tblG := tblG_ok (List.mem_of_getElem? (i := 358) (by decide +kernel)) rfl
theorem ml_RX1_30 : Cond.methodLink RX1 30 yX1_sign ∈ tblG := tblG_ok (List.mem_of_getElem? (i := 362) (by decide +kernel)) rfl
theorem ml_RX1_34 : Cond.methodLink RX1 34 yX1_readThing ∈ tblG := tblG_ok (List.mem_of_getElem? (i := 366) (by decide +kernel)) rfl
theorem ml_RX1_48 : Cond.methodLink RX1 48 yX1_digit ∈ tblG := tblG_ok (List.mem_of_getElem? (i := 370) (by decide +kernel)) rfl
theorem ml_RX1_51 : Cond.methodLink RX1 51 yX3_hasPartnerAhead ∈ tblG := tblG_ok (List.mem_of_getElem? (i := 374) (by decide +kernel)) rfl
theorem ml_RX1_54 : Cond.methodLink RX1 54 yX1_skip ∈ tblG := tblG_ok (List.mem_of_getElem? (i := 375) (by decide +kernel)) rfl
theorem ml_RX1_58 : Cond.methodLink RX1 58 yX3_addThing ∈ tblG := tblG_ok (List.mem_of_getElem? (i := 379) (by decide +kernel)) rfl
theorem ml_RX1_37 : Cond.methodLink RX1 37 yX1_readEvent ∈ tblG := tblG_ok (List.mem_of_getElem? (i := 380) (by decide +kernel)) rfl
theorem ml_RX1_69 : Cond.methodLink RX1 69 yX1_readNumber ∈ tblG := tblG_ok (List.mem_of_getElem? (i := 384) (by decide +kernel)) rfl
theorem ml_RX1_77 : Cond.methodLink RX1 77 yX1_readUnknown ∈ tblG := tblG_ok (List.mem_of_getElem? (i := 389) (by decide +kernel)) rfl
theorem ml_RX1_80 : Cond.methodLink RX1 80 yX3_addEvent ∈ tblG := tblG_ok (List.mem_of_getElem? (i := 393) (by decide +kernel)) rfl
theorem ml_RX1_40 : Cond.methodLink RX1 40 yX1_readTaken ∈ tblG := tblG_ok (List.mem_of_getElem? (i := 394) (by decide +kernel)) rfl
theorem ml_RX1_62 : Cond.methodLink RX1 62 yX3_setTaken ∈ tblG := tblG_ok (List.mem_of_getElem? (i := 398) (by decide +kernel)) rfl
theorem ml_RL_53 : Cond.methodLink RL 53 yX5_state ∈ tblG := tblG_ok (List.mem_of_getElem? (i := 399) (by decide +kernel)) rfl
theorem ml_RX5_121 : Cond.methodLink RX5 121 yX4_refresh ∈ tblG := tblG_ok (List.mem_of_getElem? (i := 403) (by decide +kernel)) rfl
theorem ml_RX4_50 : Cond.methodLink RX4 50 yX4_numberSources ∈ tblG := tblG_ok (List.mem_of_getElem? (i := 407) (by decide +kernel)) rfl
theorem ml_RX4_68 : Cond.methodLink RX4 68 yX3_eventPart ∈ tblG := tblG_ok (List.mem_of_getElem? (i := 411) (by decide +kernel)) rfl
theorem ml_RX4_53 : Cond.methodLink RX4 53 yX4_orderByHours ∈ tblG := tblG_ok (List.mem_of_getElem? (i := 412) (by decide +kernel)) rfl
theorem ml_RX4_72 : Cond.methodLink RX4 72 yJ7_fill_53178 ∈ tblG := tblG_ok (List.mem_of_getElem? (i := 416) (by decide +kernel)) rfl
theorem ml_RX4_56 : Cond.methodLink RX4 56 yX4_begin ∈ tblG := tblG_ok (List.mem_of_getElem? (i := 419) (by decide +kernel)) rfl
theorem ml_RX4_78 : Cond.methodLink RX4 78 yJ7_fill_d0a16 ∈ tblG := tblG_ok (List.mem_of_getElem? (i := 423) (by decide +kernel)) rfl
theorem ml_RX4_81 : Cond.methodLink RX4 81 yX3_isWet ∈ tblG := tblG_ok (List.mem_of_getElem? (i := 426) (by decide +kernel)) rfl
theorem ml_RX4_59 : Cond.methodLink RX4 59 yX4_playHours ∈ tblG := tblG_ok (List.mem_of_getElem? (i := 431) (by decide +kernel)) rfl
theorem ml_RX4_85 : Cond.methodLink RX4 85 yJ9_max_7cf53 ∈ tblG := tblG_ok (List.mem_of_getElem? (i := 435) (by decide +kernel)) rfl
theorem ml_RX4_90 : Cond.methodLink RX4 90 yX4_cleanTheWashed ∈ tblG := tblG_ok (List.mem_of_getElem? (i := 438) (by decide +kernel)) rfl
theorem ml_RX4_108 : Cond.methodLink RX4 108 yX3_kindOf ∈ tblG := tblG_ok (List.mem_of_getElem? (i := 442) (by decide +kernel)) rfl
theorem ml_RX4_112 : Cond.methodLink RX4 112 yX4_makeClean ∈ tblG := tblG_ok (List.mem_of_getElem? (i := 443) (by decide +kernel)) rfl
theorem ml_RX4_97 : Cond.methodLink RX4 97 yX4_spring ∈ tblG := tblG_ok (List.mem_of_getElem? (i := 453) (by decide +kernel)) rfl
theorem ml_RX4_148 : Cond.methodLink RX4 148 yX4_lessen ∈ tblG := tblG_ok (List.mem_of_getElem? (i := 457) (by decide +kernel)) rfl
theorem ml_RX4_137 : Cond.methodLink RX4 137 yX4_shareAmongJoined ∈ tblG := tblG_ok (List.mem_of_getElem? (i := 461) (by decide +kernel)) rfl
theorem ml_RX4_101 : Cond.methodLink RX4 101 yX4_happen ∈ tblG := tblG_ok (List.mem_of_getElem? (i := 465) (by decide +kernel)) rfl
theorem ml_RX4_116 : Cond.methodLink RX4 116 yX4_alterOne ∈ tblG := tblG_ok (List.mem_of_getElem? (i := 469) (by decide +kernel)) rfl
theorem ml_RX4_120 : Cond.methodLink RX4 120 arraycopyName ∈ tblG := tblG_ok (List.mem_of_getElem? (i := 476) (by decide +kernel)) rfl
theorem ml_RX4_126 : Cond.methodLink RX4 126 yX4_keepFirstDegree ∈ tblG := tblG_ok (List.mem_of_getElem? (i := 479) (by decide +kernel)) rfl
theorem ml_RX4_130 : Cond.methodLink RX4 130 yX3_ruleOf ∈ tblG := tblG_ok (List.mem_of_getElem? (i := 482) (by decide +kernel)) rfl
theorem ml_RX4_133 : Cond.methodLink RX4 133 yX4_give ∈ tblG := tblG_ok (List.mem_of_getElem? (i := 486) (by decide +kernel)) rfl
theorem ml_RX4_152 : Cond.methodLink RX4 152 yX3_takenBy ∈ tblG := tblG_ok (List.mem_of_getElem? (i := 490) (by decide +kernel)) rfl
theorem ml_RX5_124 : Cond.methodLink RX5 124 yX4_playFromStart ∈ tblG := tblG_ok (List.mem_of_getElem? (i := 497) (by decide +kernel)) rfl
theorem ml_RX5_128 : Cond.methodLink RX5 128 yX4_degree ∈ tblG := tblG_ok (List.mem_of_getElem? (i := 501) (by decide +kernel)) rfl
theorem ml_RL_58 : Cond.methodLink RL 58 yX5_when ∈ tblG := tblG_ok (List.mem_of_getElem? (i := 505) (by decide +kernel)) rfl
theorem ml_RX5_131 : Cond.methodLink RX5 131 yX4_uncleanAt ∈ tblG := tblG_ok (List.mem_of_getElem? (i := 509) (by decide +kernel)) rfl
theorem ml_RL_62 : Cond.methodLink RL 62 yX5_ways ∈ tblG := tblG_ok (List.mem_of_getElem? (i := 513) (by decide +kernel)) rfl
theorem ml_RX5_135 : Cond.methodLink RX5 135 yX3_everyWay ∈ tblG := tblG_ok (List.mem_of_getElem? (i := 517) (by decide +kernel)) rfl
theorem ml_RX3_64 : Cond.methodLink RX3 64 yX3_namedUnknowns ∈ tblG := tblG_ok (List.mem_of_getElem? (i := 521) (by decide +kernel)) rfl
theorem ml_RX3_60 : Cond.methodLink RX3 60 yX3_eventPart ∈ tblG := tblG_ok (List.mem_of_getElem? (i := 525) (by decide +kernel)) rfl
theorem ml_RX5_139 : Cond.methodLink RX5 139 yX0_left ∈ tblG := tblG_ok (List.mem_of_getElem? (i := 528) (by decide +kernel)) rfl
theorem ml_RX0_19 : Cond.methodLink RX0 19 yX4_refresh ∈ tblG := tblG_ok (List.mem_of_getElem? (i := 532) (by decide +kernel)) rfl
theorem ml_RX0_24 : Cond.methodLink RX0 24 yX3_everyWay ∈ tblG := tblG_ok (List.mem_of_getElem? (i := 533) (by decide +kernel)) rfl
theorem ml_RX0_34 : Cond.methodLink RX0 34 yX3_factPart ∈ tblG := tblG_ok (List.mem_of_getElem? (i := 534) (by decide +kernel)) rfl
theorem ml_RX0_38 : Cond.methodLink RX0 38 yX4_uncleanAt ∈ tblG := tblG_ok (List.mem_of_getElem? (i := 538) (by decide +kernel)) rfl
theorem ml_RX5_142 : Cond.methodLink RX5 142 yJ13_bitCount_95d88 ∈ tblG := tblG_ok (List.mem_of_getElem? (i := 540) (by decide +kernel)) rfl
theorem ml_RL_67 : Cond.methodLink RL 67 yX5_fact ∈ tblG := tblG_ok (List.mem_of_getElem? (i := 546) (by decide +kernel)) rfl
theorem ml_RX5_151 : Cond.methodLink RX5 151 yX3_addFact ∈ tblG := tblG_ok (List.mem_of_getElem? (i := 550) (by decide +kernel)) rfl
theorem ml_RL_71 : Cond.methodLink RL 71 yX5_forget ∈ tblG := tblG_ok (List.mem_of_getElem? (i := 554) (by decide +kernel)) rfl
theorem ml_RL_75 : Cond.methodLink RL 75 yX5_sure ∈ tblG := tblG_ok (List.mem_of_getElem? (i := 558) (by decide +kernel)) rfl
theorem ml_RX5_155 : Cond.methodLink RX5 155 yX5_thingAndHour ∈ tblG := tblG_ok (List.mem_of_getElem? (i := 562) (by decide +kernel)) rfl
theorem ml_RX5_158 : Cond.methodLink RX5 158 yX0_sureIn ∈ tblG := tblG_ok (List.mem_of_getElem? (i := 566) (by decide +kernel)) rfl
theorem ml_RX0_44 : Cond.methodLink RX0 44 yX0_cleanIn ∈ tblG := tblG_ok (List.mem_of_getElem? (i := 570) (by decide +kernel)) rfl
theorem ml_RL_79 : Cond.methodLink RL 79 yX5_many ∈ tblG := tblG_ok (List.mem_of_getElem? (i := 574) (by decide +kernel)) rfl
theorem ml_RX5_162 : Cond.methodLink RX5 162 yX0_cleanIn ∈ tblG := tblG_ok (List.mem_of_getElem? (i := 578) (by decide +kernel)) rfl
theorem ml_RL_83 : Cond.methodLink RL 83 yX5_judged ∈ tblG := tblG_ok (List.mem_of_getElem? (i := 579) (by decide +kernel)) rfl
theorem ml_RX5_166 : Cond.methodLink RX5 166 yX0_judge ∈ tblG := tblG_ok (List.mem_of_getElem? (i := 583) (by decide +kernel)) rfl
theorem ml_RX0_48 : Cond.methodLink RX0 48 yX3_isHidden ∈ tblG := tblG_ok (List.mem_of_getElem? (i := 587) (by decide +kernel)) rfl
theorem ml_RX0_52 : Cond.methodLink RX0 52 yX3_ruleOf ∈ tblG := tblG_ok (List.mem_of_getElem? (i := 591) (by decide +kernel)) rfl
theorem ml_RX0_56 : Cond.methodLink RX0 56 yX0_sureIn ∈ tblG := tblG_ok (List.mem_of_getElem? (i := 592) (by decide +kernel)) rfl
theorem ml_RX0_60 : Cond.methodLink RX0 60 yJ13_bitCount_95d88 ∈ tblG := tblG_ok (List.mem_of_getElem? (i := 593) (by decide +kernel)) rfl
theorem ml_RL_87 : Cond.methodLink RL 87 yX5_rivals ∈ tblG := tblG_ok (List.mem_of_getElem? (i := 594) (by decide +kernel)) rfl
theorem ml_RX5_169 : Cond.methodLink RX5 169 yX0_fewestRivals ∈ tblG := tblG_ok (List.mem_of_getElem? (i := 598) (by decide +kernel)) rfl
theorem ml_RX0_69 : Cond.methodLink RX0 69 yX0_areRivals ∈ tblG := tblG_ok (List.mem_of_getElem? (i := 602) (by decide +kernel)) rfl
theorem ml_RL_91 : Cond.methodLink RL 91 yX5_question ∈ tblG := tblG_ok (List.mem_of_getElem? (i := 606) (by decide +kernel)) rfl
theorem ml_RX5_173 : Cond.methodLink RX5 173 yX0_bestQuestion ∈ tblG := tblG_ok (List.mem_of_getElem? (i := 610) (by decide +kernel)) rfl
theorem ml_RX0_73 : Cond.methodLink RX0 73 yX3_namedUnknowns ∈ tblG := tblG_ok (List.mem_of_getElem? (i := 614) (by decide +kernel)) rfl
theorem ml_RX0_81 : Cond.methodLink RX0 81 yX0_inDoubt ∈ tblG := tblG_ok (List.mem_of_getElem? (i := 616) (by decide +kernel)) rfl
theorem ml_RX0_85 : Cond.methodLink RX0 85 yJ9_max_7cf53 ∈ tblG := tblG_ok (List.mem_of_getElem? (i := 620) (by decide +kernel)) rfl
theorem ml_RL_95 : Cond.methodLink RL 95 yX5_sources ∈ tblG := tblG_ok (List.mem_of_getElem? (i := 621) (by decide +kernel)) rfl
theorem ml_RX5_176 : Cond.methodLink RX5 176 yX4_originBits ∈ tblG := tblG_ok (List.mem_of_getElem? (i := 625) (by decide +kernel)) rfl
theorem ml_RL_99 : Cond.methodLink RL 99 yX5_washing ∈ tblG := tblG_ok (List.mem_of_getElem? (i := 629) (by decide +kernel)) rfl
theorem ml_RX5_179 : Cond.methodLink RX5 179 yX3_areThere ∈ tblG := tblG_ok (List.mem_of_getElem? (i := 633) (by decide +kernel)) rfl
theorem ml_RX5_182 : Cond.methodLink RX5 182 yX2_fewestWashes ∈ tblG := tblG_ok (List.mem_of_getElem? (i := 637) (by decide +kernel)) rfl
theorem ml_RX2_23 : Cond.methodLink RX2 23 yX4_playFromStart ∈ tblG := tblG_ok (List.mem_of_getElem? (i := 641) (by decide +kernel)) rfl
theorem ml_RX2_29 : Cond.methodLink RX2 29 yX2_keepRow ∈ tblG := tblG_ok (List.mem_of_getElem? (i := 642) (by decide +kernel)) rfl
theorem ml_RX2_86 : Cond.methodLink RX2 86 arraycopyName ∈ tblG := tblG_ok (List.mem_of_getElem? (i := 646) (by decide +kernel)) rfl
theorem ml_RX2_38 : Cond.methodLink RX2 38 yJ9_min_7cf53 ∈ tblG := tblG_ok (List.mem_of_getElem? (i := 647) (by decide +kernel)) rfl
theorem ml_RX2_44 : Cond.methodLink RX2 44 yJ6_bitCount_0f7a4 ∈ tblG := tblG_ok (List.mem_of_getElem? (i := 650) (by decide +kernel)) rfl
theorem ml_RX2_50 : Cond.methodLink RX2 50 yX2_cleansAll ∈ tblG := tblG_ok (List.mem_of_getElem? (i := 656) (by decide +kernel)) rfl
theorem ml_RX2_54 : Cond.methodLink RX2 54 yX2_takeRow ∈ tblG := tblG_ok (List.mem_of_getElem? (i := 660) (by decide +kernel)) rfl
theorem ml_RX2_61 : Cond.methodLink RX2 61 yX4_happen ∈ tblG := tblG_ok (List.mem_of_getElem? (i := 664) (by decide +kernel)) rfl
theorem ml_RX2_65 : Cond.methodLink RX2 65 yX4_playHours ∈ tblG := tblG_ok (List.mem_of_getElem? (i := 665) (by decide +kernel)) rfl
theorem ml_RX2_69 : Cond.methodLink RX2 69 yX4_areClean ∈ tblG := tblG_ok (List.mem_of_getElem? (i := 666) (by decide +kernel)) rfl
theorem ml_RL_103 : Cond.methodLink RL 103 yX5_step ∈ tblG := tblG_ok (List.mem_of_getElem? (i := 670) (by decide +kernel)) rfl
theorem ml_RX5_189 : Cond.methodLink RX5 189 yX3_addStep ∈ tblG := tblG_ok (List.mem_of_getElem? (i := 674) (by decide +kernel)) rfl
theorem ml_RL_107 : Cond.methodLink RL 107 yX5_clear ∈ tblG := tblG_ok (List.mem_of_getElem? (i := 678) (by decide +kernel)) rfl
theorem ml_RL_111 : Cond.methodLink RL 111 yX5_cooking ∈ tblG := tblG_ok (List.mem_of_getElem? (i := 682) (by decide +kernel)) rfl
theorem ml_RX5_193 : Cond.methodLink RX5 193 yX2_firstOrder ∈ tblG := tblG_ok (List.mem_of_getElem? (i := 686) (by decide +kernel)) rfl
theorem ml_RX2_73 : Cond.methodLink RX2 73 yX2_orderFrom ∈ tblG := tblG_ok (List.mem_of_getElem? (i := 690) (by decide +kernel)) rfl
theorem ml_RX2_80 : Cond.methodLink RX2 80 yX3_stepPart ∈ tblG := tblG_ok (List.mem_of_getElem? (i := 694) (by decide +kernel)) rfl
theorem ml_RL_115 : Cond.methodLink RL 115 yX5_beside ∈ tblG := tblG_ok (List.mem_of_getElem? (i := 698) (by decide +kernel)) rfl
theorem ml_RL_119 : Cond.methodLink RL 119 yX5_image ∈ tblG := tblG_ok (List.mem_of_getElem? (i := 702) (by decide +kernel)) rfl
theorem ml_RX5_196 : Cond.methodLink RX5 196 yX3_copyFrom ∈ tblG := tblG_ok (List.mem_of_getElem? (i := 706) (by decide +kernel)) rfl
theorem ml_RX3_74 : Cond.methodLink RX3 74 yX3_copyRow ∈ tblG := tblG_ok (List.mem_of_getElem? (i := 710) (by decide +kernel)) rfl
theorem ml_RX3_78 : Cond.methodLink RX3 78 yJ9_min_7cf53 ∈ tblG := tblG_ok (List.mem_of_getElem? (i := 713) (by decide +kernel)) rfl
theorem ml_RX3_83 : Cond.methodLink RX3 83 arraycopyName ∈ tblG := tblG_ok (List.mem_of_getElem? (i := 714) (by decide +kernel)) rfl
theorem ml_RL_123 : Cond.methodLink RL 123 yX5_restore ∈ tblG := tblG_ok (List.mem_of_getElem? (i := 715) (by decide +kernel)) rfl
theorem ml_RL_127 : Cond.methodLink RL 127 yX5_count ∈ tblG := tblG_ok (List.mem_of_getElem? (i := 719) (by decide +kernel)) rfl
theorem ml_RX5_199 : Cond.methodLink RX5 199 yX3_namedUnknowns ∈ tblG := tblG_ok (List.mem_of_getElem? (i := 723) (by decide +kernel)) rfl
theorem ml_RX5_202 : Cond.methodLink RX5 202 yJ6_bitCount_0f7a4 ∈ tblG := tblG_ok (List.mem_of_getElem? (i := 724) (by decide +kernel)) rfl
theorem ml_RL_12 : Cond.methodLink RL 12 yX6_init ∈ tblG := tblG_ok (List.mem_of_getElem? (i := 727) (by decide +kernel)) rfl
theorem ml_RL_17 : Cond.methodLink RL 17 yX6_thing ∈ tblG := tblG_ok (List.mem_of_getElem? (i := 862) (by decide +kernel)) rfl
theorem ml_RX6_105 : Cond.methodLink RX6 105 yX6_isIn ∈ tblG := tblG_ok (List.mem_of_getElem? (i := 866) (by decide +kernel)) rfl
theorem ml_RX6_109 : Cond.methodLink RX6 109 yX6_no ∈ tblG := tblG_ok (List.mem_of_getElem? (i := 869) (by decide +kernel)) rfl
theorem ml_RX6_113 : Cond.methodLink RX6 113 yX6_mayJoin ∈ tblG := tblG_ok (List.mem_of_getElem? (i := 873) (by decide +kernel)) rfl
theorem ml_RX6_117 : Cond.methodLink RX6 117 yX6_comes ∈ tblG := tblG_ok (List.mem_of_getElem? (i := 877) (by decide +kernel)) rfl
theorem ml_RL_22 : Cond.methodLink RL 22 yX6_takes ∈ tblG := tblG_ok (List.mem_of_getElem? (i := 881) (by decide +kernel)) rfl
theorem ml_RX6_121 : Cond.methodLink RX6 121 yX6_out ∈ tblG := tblG_ok (List.mem_of_getElem? (i := 885) (by decide +kernel)) rfl
theorem ml_RL_27 : Cond.methodLink RL 27 yX6_law ∈ tblG := tblG_ok (List.mem_of_getElem? (i := 888) (by decide +kernel)) rfl
theorem ml_RL_32 : Cond.methodLink RL 32 yX6_event ∈ tblG := tblG_ok (List.mem_of_getElem? (i := 892) (by decide +kernel)) rfl
theorem ml_RX6_132 : Cond.methodLink RX6 132 yX6_isThing ∈ tblG := tblG_ok (List.mem_of_getElem? (i := 896) (by decide +kernel)) rfl
theorem ml_RX6_128 : Cond.methodLink RX6 128 yX6_isOfTwo ∈ tblG := tblG_ok (List.mem_of_getElem? (i := 900) (by decide +kernel)) rfl
theorem ml_RX6_135 : Cond.methodLink RX6 135 yX6_happens ∈ tblG := tblG_ok (List.mem_of_getElem? (i := 903) (by decide +kernel)) rfl
theorem ml_RL_36 : Cond.methodLink RL 36 yX6_of ∈ tblG := tblG_ok (List.mem_of_getElem? (i := 907) (by decide +kernel)) rfl
theorem ml_RL_41 : Cond.methodLink RL 41 yX6_takeBack ∈ tblG := tblG_ok (List.mem_of_getElem? (i := 911) (by decide +kernel)) rfl
theorem ml_RL_48 : Cond.methodLink RL 48 yX6_feed ∈ tblG := tblG_ok (List.mem_of_getElem? (i := 915) (by decide +kernel)) rfl
theorem ml_RL_52 : Cond.methodLink RL 52 yX6_house ∈ tblG := tblG_ok (List.mem_of_getElem? (i := 920) (by decide +kernel)) rfl
theorem ml_RX6_173 : Cond.methodLink RX6 173 yX6_statement ∈ tblG := tblG_ok (List.mem_of_getElem? (i := 924) (by decide +kernel)) rfl
theorem ml_RX6_147 : Cond.methodLink RX6 147 yX6_sign ∈ tblG := tblG_ok (List.mem_of_getElem? (i := 928) (by decide +kernel)) rfl
theorem ml_RX6_164 : Cond.methodLink RX6 164 yX6_readsThing ∈ tblG := tblG_ok (List.mem_of_getElem? (i := 932) (by decide +kernel)) rfl
theorem ml_RX6_154 : Cond.methodLink RX6 154 yX6_digit ∈ tblG := tblG_ok (List.mem_of_getElem? (i := 936) (by decide +kernel)) rfl
theorem ml_RX6_157 : Cond.methodLink RX6 157 yX6_takesSign ∈ tblG := tblG_ok (List.mem_of_getElem? (i := 940) (by decide +kernel)) rfl
theorem ml_RX6_167 : Cond.methodLink RX6 167 yX6_readsEvent ∈ tblG := tblG_ok (List.mem_of_getElem? (i := 944) (by decide +kernel)) rfl
theorem ml_RX6_160 : Cond.methodLink RX6 160 yX6_number ∈ tblG := tblG_ok (List.mem_of_getElem? (i := 948) (by decide +kernel)) rfl
theorem ml_RX6_170 : Cond.methodLink RX6 170 yX6_readsTakes ∈ tblG := tblG_ok (List.mem_of_getElem? (i := 952) (by decide +kernel)) rfl
theorem ml_RL_57 : Cond.methodLink RL 57 yX6_state ∈ tblG := tblG_ok (List.mem_of_getElem? (i := 956) (by decide +kernel)) rfl
theorem ml_RX6_222 : Cond.methodLink RX6 222 yX6_runs ∈ tblG := tblG_ok (List.mem_of_getElem? (i := 960) (by decide +kernel)) rfl
theorem ml_RX6_215 : Cond.methodLink RX6 215 yX6_begins ∈ tblG := tblG_ok (List.mem_of_getElem? (i := 964) (by decide +kernel)) rfl
theorem ml_RX6_219 : Cond.methodLink RX6 219 yX6_goes ∈ tblG := tblG_ok (List.mem_of_getElem? (i := 968) (by decide +kernel)) rfl
theorem ml_RX6_204 : Cond.methodLink RX6 204 yX6_sunset ∈ tblG := tblG_ok (List.mem_of_getElem? (i := 972) (by decide +kernel)) rfl
theorem ml_RX6_190 : Cond.methodLink RX6 190 yX6_cleans ∈ tblG := tblG_ok (List.mem_of_getElem? (i := 976) (by decide +kernel)) rfl
theorem ml_RX6_207 : Cond.methodLink RX6 207 yX6_isSo ∈ tblG := tblG_ok (List.mem_of_getElem? (i := 980) (by decide +kernel)) rfl
theorem ml_RX6_211 : Cond.methodLink RX6 211 yX6_does ∈ tblG := tblG_ok (List.mem_of_getElem? (i := 984) (by decide +kernel)) rfl
theorem ml_RX6_194 : Cond.methodLink RX6 194 yX6_gives ∈ tblG := tblG_ok (List.mem_of_getElem? (i := 988) (by decide +kernel)) rfl
theorem ml_RX6_183 : Cond.methodLink RX6 183 yX6_sets ∈ tblG := tblG_ok (List.mem_of_getElem? (i := 992) (by decide +kernel)) rfl
theorem ml_RX6_198 : Cond.methodLink RX6 198 yX6_washes ∈ tblG := tblG_ok (List.mem_of_getElem? (i := 996) (by decide +kernel)) rfl
theorem ml_RX6_187 : Cond.methodLink RX6 187 yX6_isVessel ∈ tblG := tblG_ok (List.mem_of_getElem? (i := 1000) (by decide +kernel)) rfl
theorem ml_RX6_201 : Cond.methodLink RX6 201 yX6_joins ∈ tblG := tblG_ok (List.mem_of_getElem? (i := 1004) (by decide +kernel)) rfl
theorem ml_RL_61 : Cond.methodLink RL 61 yX6_when ∈ tblG := tblG_ok (List.mem_of_getElem? (i := 1008) (by decide +kernel)) rfl
theorem ml_RL_66 : Cond.methodLink RL 66 yX6_ways ∈ tblG := tblG_ok (List.mem_of_getElem? (i := 1012) (by decide +kernel)) rfl
theorem ml_RX6_229 : Cond.methodLink RX6 229 yX6_named ∈ tblG := tblG_ok (List.mem_of_getElem? (i := 1016) (by decide +kernel)) rfl
theorem ml_RX6_238 : Cond.methodLink RX6 238 yX6_bits ∈ tblG := tblG_ok (List.mem_of_getElem? (i := 1020) (by decide +kernel)) rfl
theorem ml_RX6_241 : Cond.methodLink RX6 241 yX6_findLeft ∈ tblG := tblG_ok (List.mem_of_getElem? (i := 1023) (by decide +kernel)) rfl
theorem ml_RX6_235 : Cond.methodLink RX6 235 yX6_agrees ∈ tblG := tblG_ok (List.mem_of_getElem? (i := 1027) (by decide +kernel)) rfl
theorem ml_RL_70 : Cond.methodLink RL 70 yX6_fact ∈ tblG := tblG_ok (List.mem_of_getElem? (i := 1031) (by decide +kernel)) rfl
theorem ml_RX6_245 : Cond.methodLink RX6 245 yX6_why ∈ tblG := tblG_ok (List.mem_of_getElem? (i := 1035) (by decide +kernel)) rfl
theorem ml_RL_74 : Cond.methodLink RL 74 yX6_forget ∈ tblG := tblG_ok (List.mem_of_getElem? (i := 1039) (by decide +kernel)) rfl
theorem ml_RL_78 : Cond.methodLink RL 78 yX6_sure ∈ tblG := tblG_ok (List.mem_of_getElem? (i := 1043) (by decide +kernel)) rfl
theorem ml_RX6_254 : Cond.methodLink RX6 254 yX6_findClean ∈ tblG := tblG_ok (List.mem_of_getElem? (i := 1047) (by decide +kernel)) rfl
theorem ml_RX6_248 : Cond.methodLink RX6 248 yX6_cleanNow ∈ tblG := tblG_ok (List.mem_of_getElem? (i := 1051) (by decide +kernel)) rfl
theorem ml_RX6_258 : Cond.methodLink RX6 258 yX6_sureOf ∈ tblG := tblG_ok (List.mem_of_getElem? (i := 1055) (by decide +kernel)) rfl
theorem ml_RX6_251 : Cond.methodLink RX6 251 yX6_manyOf ∈ tblG := tblG_ok (List.mem_of_getElem? (i := 1059) (by decide +kernel)) rfl
theorem ml_RL_82 : Cond.methodLink RL 82 yX6_many ∈ tblG := tblG_ok (List.mem_of_getElem? (i := 1063) (by decide +kernel)) rfl
theorem ml_RL_86 : Cond.methodLink RL 86 yX6_judged ∈ tblG := tblG_ok (List.mem_of_getElem? (i := 1067) (by decide +kernel)) rfl
theorem ml_RL_90 : Cond.methodLink RL 90 yX6_rivals ∈ tblG := tblG_ok (List.mem_of_getElem? (i := 1071) (by decide +kernel)) rfl
theorem ml_RX6_261 : Cond.methodLink RX6 261 yX6_areRivals ∈ tblG := tblG_ok (List.mem_of_getElem? (i := 1075) (by decide +kernel)) rfl
theorem ml_RL_94 : Cond.methodLink RL 94 yX6_question ∈ tblG := tblG_ok (List.mem_of_getElem? (i := 1079) (by decide +kernel)) rfl
theorem ml_RX6_264 : Cond.methodLink RX6 264 yX6_doubts ∈ tblG := tblG_ok (List.mem_of_getElem? (i := 1083) (by decide +kernel)) rfl
theorem ml_RL_98 : Cond.methodLink RL 98 yX6_sources ∈ tblG := tblG_ok (List.mem_of_getElem? (i := 1087) (by decide +kernel)) rfl
theorem ml_RL_102 : Cond.methodLink RL 102 yX6_washing ∈ tblG := tblG_ok (List.mem_of_getElem? (i := 1091) (by decide +kernel)) rfl
theorem ml_RX6_267 : Cond.methodLink RX6 267 yX6_isEnough ∈ tblG := tblG_ok (List.mem_of_getElem? (i := 1095) (by decide +kernel)) rfl
theorem ml_RL_106 : Cond.methodLink RL 106 yX6_step ∈ tblG := tblG_ok (List.mem_of_getElem? (i := 1099) (by decide +kernel)) rfl
theorem ml_RL_110 : Cond.methodLink RL 110 yX6_clear ∈ tblG := tblG_ok (List.mem_of_getElem? (i := 1103) (by decide +kernel)) rfl
theorem ml_RL_114 : Cond.methodLink RL 114 yX6_cooking ∈ tblG := tblG_ok (List.mem_of_getElem? (i := 1107) (by decide +kernel)) rfl
theorem ml_RX6_273 : Cond.methodLink RX6 273 yX6_cooks ∈ tblG := tblG_ok (List.mem_of_getElem? (i := 1111) (by decide +kernel)) rfl
theorem ml_RX6_276 : Cond.methodLink RX6 276 yX6_nextLine ∈ tblG := tblG_ok (List.mem_of_getElem? (i := 1115) (by decide +kernel)) rfl
theorem ml_RL_118 : Cond.methodLink RL 118 yX6_beside ∈ tblG := tblG_ok (List.mem_of_getElem? (i := 1119) (by decide +kernel)) rfl
theorem ml_RL_122 : Cond.methodLink RL 122 yX6_image ∈ tblG := tblG_ok (List.mem_of_getElem? (i := 1123) (by decide +kernel)) rfl
theorem ml_RX6_295 : Cond.methodLink RX6 295 yX6_passesAll ∈ tblG := tblG_ok (List.mem_of_getElem? (i := 1127) (by decide +kernel)) rfl
theorem ml_RX6_285 : Cond.methodLink RX6 285 yX6_passes ∈ tblG := tblG_ok (List.mem_of_getElem? (i := 1131) (by decide +kernel)) rfl
theorem ml_RX6_289 : Cond.methodLink RX6 289 yX6_passOne ∈ tblG := tblG_ok (List.mem_of_getElem? (i := 1135) (by decide +kernel)) rfl
theorem ml_RL_126 : Cond.methodLink RL 126 yX6_restore ∈ tblG := tblG_ok (List.mem_of_getElem? (i := 1139) (by decide +kernel)) rfl
theorem ml_RL_130 : Cond.methodLink RL 130 yX6_count ∈ tblG := tblG_ok (List.mem_of_getElem? (i := 1143) (by decide +kernel)) rfl
theorem in_RX0 : ∀ w ∈ u_ws RX0 TX0 2, w ∈ tblG := by decide +kernel
theorem in_RX1 : ∀ w ∈ u_ws RX1 TX1 4, w ∈ tblG := by decide +kernel
theorem in_RX2 : ∀ w ∈ u_ws RX2 TX2 3, w ∈ tblG := by decide +kernel
theorem in_RX3 : ∀ w ∈ u_ws RX3 TX3 13, w ∈ tblG := by decide +kernel
theorem in_RX4 : ∀ w ∈ u_ws RX4 TX4 11, w ∈ tblG := by decide +kernel
theorem in_RX5 : ∀ w ∈ u_ws RX5 TX5 10, w ∈ tblG := by decide +kernel
theorem in_RX6 : ∀ w ∈ u_ws RX6 TX6 43, w ∈ tblG := by decide +kernel
theorem fa_RX3_9 : FAt RX3 9 3 0 := ⟨RX3, TX3, 13, rfl, by decide, in_RX3, tblG_ok (List.mem_of_getElem? (i := 95) (by decide +kernel)) rfl⟩
theorem fa_RX3_15 : FAt RX3 15 3 1 := ⟨RX3, TX3, 13, rfl, by decide, in_RX3, tblG_ok (List.mem_of_getElem? (i := 96) (by decide +kernel)) rfl⟩
theorem fa_RX3_18 : FAt RX3 18 3 2 := ⟨RX3, TX3, 13, rfl, by decide, in_RX3, tblG_ok (List.mem_of_getElem? (i := 97) (by decide +kernel)) rfl⟩
theorem fa_RX3_21 : FAt RX3 21 3 3 := ⟨RX3, TX3, 13, rfl, by decide, in_RX3, tblG_ok (List.mem_of_getElem? (i := 98) (by decide +kernel)) rfl⟩
theorem fa_RX3_24 : FAt RX3 24 3 4 := ⟨RX3, TX3, 13, rfl, by decide, in_RX3, tblG_ok (List.mem_of_getElem? (i := 99) (by decide +kernel)) rfl⟩
theorem fa_RX3_27 : FAt RX3 27 3 5 := ⟨RX3, TX3, 13, rfl, by decide, in_RX3, tblG_ok (List.mem_of_getElem? (i := 100) (by decide +kernel)) rfl⟩
theorem fa_RX3_30 : FAt RX3 30 3 6 := ⟨RX3, TX3, 13, rfl, by decide, in_RX3, tblG_ok (List.mem_of_getElem? (i := 101) (by decide +kernel)) rfl⟩
theorem fa_RX2_32 : FAt RX2 32 3 6 := ⟨RX3, TX3, 13, rfl, by decide, in_RX3, tblG_ok (List.mem_of_getElem? (i := 102) (by decide +kernel)) rfl⟩
theorem fa_RX5_75 : FAt RX5 75 3 6 := ⟨RX3, TX3, 13, rfl, by decide, in_RX3, tblG_ok (List.mem_of_getElem? (i := 103) (by decide +kernel)) rfl⟩
theorem fa_RX1_43 : FAt RX1 43 3 6 := ⟨RX3, TX3, 13, rfl, by decide, in_RX3, tblG_ok (List.mem_of_getElem? (i := 104) (by decide +kernel)) rfl⟩
theorem fa_RX0_66 : FAt RX0 66 3 6 := ⟨RX3, TX3, 13, rfl, by decide, in_RX3, tblG_ok (List.mem_of_getElem? (i := 105) (by decide +kernel)) rfl⟩
theorem fa_RX4_105 : FAt RX4 105 3 6 := ⟨RX3, TX3, 13, rfl, by decide, in_RX3, tblG_ok (List.mem_of_getElem? (i := 106) (by decide +kernel)) rfl⟩
theorem fa_RX5_97 : FAt RX5 97 3 7 := ⟨RX3, TX3, 13, rfl, by decide, in_RX3, tblG_ok (List.mem_of_getElem? (i := 107) (by decide +kernel)) rfl⟩
theorem fa_RX1_66 : FAt RX1 66 3 7 := ⟨RX3, TX3, 13, rfl, by decide, in_RX3, tblG_ok (List.mem_of_getElem? (i := 108) (by decide +kernel)) rfl⟩
theorem fa_RX4_65 : FAt RX4 65 3 7 := ⟨RX3, TX3, 13, rfl, by decide, in_RX3, tblG_ok (List.mem_of_getElem? (i := 109) (by decide +kernel)) rfl⟩
theorem fa_RX3_47 : FAt RX3 47 3 7 := ⟨RX3, TX3, 13, rfl, by decide, in_RX3, tblG_ok (List.mem_of_getElem? (i := 110) (by decide +kernel)) rfl⟩
theorem fa_RX0_30 : FAt RX0 30 3 8 := ⟨RX3, TX3, 13, rfl, by decide, in_RX3, tblG_ok (List.mem_of_getElem? (i := 111) (by decide +kernel)) rfl⟩
theorem fa_RX5_148 : FAt RX5 148 3 8 := ⟨RX3, TX3, 13, rfl, by decide, in_RX3, tblG_ok (List.mem_of_getElem? (i := 112) (by decide +kernel)) rfl⟩
theorem fa_RX3_54 : FAt RX3 54 3 8 := ⟨RX3, TX3, 13, rfl, by decide, in_RX3, tblG_ok (List.mem_of_getElem? (i := 113) (by decide +kernel)) rfl⟩
theorem fa_RX2_77 : FAt RX2 77 3 9 := ⟨RX3, TX3, 13, rfl, by decide, in_RX3, tblG_ok (List.mem_of_getElem? (i := 114) (by decide +kernel)) rfl⟩
theorem fa_RX3_57 : FAt RX3 57 3 9 := ⟨RX3, TX3, 13, rfl, by decide, in_RX3, tblG_ok (List.mem_of_getElem? (i := 115) (by decide +kernel)) rfl⟩
theorem fa_RX5_186 : FAt RX5 186 3 9 := ⟨RX3, TX3, 13, rfl, by decide, in_RX3, tblG_ok (List.mem_of_getElem? (i := 116) (by decide +kernel)) rfl⟩
theorem fa_RX3_37 : FAt RX3 37 3 10 := ⟨RX3, TX3, 13, rfl, by decide, in_RX3, tblG_ok (List.mem_of_getElem? (i := 117) (by decide +kernel)) rfl⟩
theorem fa_RX3_34 : FAt RX3 34 3 11 := ⟨RX3, TX3, 13, rfl, by decide, in_RX3, tblG_ok (List.mem_of_getElem? (i := 118) (by decide +kernel)) rfl⟩
theorem fa_RX4_45 : FAt RX4 45 3 12 := ⟨RX3, TX3, 13, rfl, by decide, in_RX3, tblG_ok (List.mem_of_getElem? (i := 119) (by decide +kernel)) rfl⟩
theorem fa_RX3_44 : FAt RX3 44 3 12 := ⟨RX3, TX3, 13, rfl, by decide, in_RX3, tblG_ok (List.mem_of_getElem? (i := 120) (by decide +kernel)) rfl⟩
theorem fa_RX4_38 : FAt RX4 38 4 0 := ⟨RX4, TX4, 11, rfl, by decide, in_RX4, tblG_ok (List.mem_of_getElem? (i := 155) (by decide +kernel)) rfl⟩
theorem fa_RX4_42 : FAt RX4 42 4 1 := ⟨RX4, TX4, 11, rfl, by decide, in_RX4, tblG_ok (List.mem_of_getElem? (i := 156) (by decide +kernel)) rfl⟩
theorem fa_RX4_9 : FAt RX4 9 4 2 := ⟨RX4, TX4, 11, rfl, by decide, in_RX4, tblG_ok (List.mem_of_getElem? (i := 157) (by decide +kernel)) rfl⟩
theorem fa_RX2_83 : FAt RX2 83 4 2 := ⟨RX4, TX4, 11, rfl, by decide, in_RX4, tblG_ok (List.mem_of_getElem? (i := 158) (by decide +kernel)) rfl⟩
theorem fa_RX4_15 : FAt RX4 15 4 3 := ⟨RX4, TX4, 11, rfl, by decide, in_RX4, tblG_ok (List.mem_of_getElem? (i := 159) (by decide +kernel)) rfl⟩
theorem fa_RX4_18 : FAt RX4 18 4 4 := ⟨RX4, TX4, 11, rfl, by decide, in_RX4, tblG_ok (List.mem_of_getElem? (i := 160) (by decide +kernel)) rfl⟩
theorem fa_RX4_22 : FAt RX4 22 4 5 := ⟨RX4, TX4, 11, rfl, by decide, in_RX4, tblG_ok (List.mem_of_getElem? (i := 161) (by decide +kernel)) rfl⟩
theorem fa_RX4_25 : FAt RX4 25 4 6 := ⟨RX4, TX4, 11, rfl, by decide, in_RX4, tblG_ok (List.mem_of_getElem? (i := 162) (by decide +kernel)) rfl⟩
theorem fa_RX4_28 : FAt RX4 28 4 7 := ⟨RX4, TX4, 11, rfl, by decide, in_RX4, tblG_ok (List.mem_of_getElem? (i := 163) (by decide +kernel)) rfl⟩
theorem fa_RX4_31 : FAt RX4 31 4 8 := ⟨RX4, TX4, 11, rfl, by decide, in_RX4, tblG_ok (List.mem_of_getElem? (i := 164) (by decide +kernel)) rfl⟩
theorem fa_RX4_34 : FAt RX4 34 4 9 := ⟨RX4, TX4, 11, rfl, by decide, in_RX4, tblG_ok (List.mem_of_getElem? (i := 165) (by decide +kernel)) rfl⟩
theorem fa_RX2_57 : FAt RX2 57 4 10 := ⟨RX4, TX4, 11, rfl, by decide, in_RX4, tblG_ok (List.mem_of_getElem? (i := 166) (by decide +kernel)) rfl⟩
theorem fa_RX4_144 : FAt RX4 144 4 10 := ⟨RX4, TX4, 11, rfl, by decide, in_RX4, tblG_ok (List.mem_of_getElem? (i := 167) (by decide +kernel)) rfl⟩
theorem fa_RX0_9 : FAt RX0 9 0 0 := ⟨RX0, TX0, 2, rfl, by decide, in_RX0, tblG_ok (List.mem_of_getElem? (i := 198) (by decide +kernel)) rfl⟩
theorem fa_RX0_15 : FAt RX0 15 0 1 := ⟨RX0, TX0, 2, rfl, by decide, in_RX0, tblG_ok (List.mem_of_getElem? (i := 199) (by decide +kernel)) rfl⟩
theorem fa_RX2_15 : FAt RX2 15 2 0 := ⟨RX2, TX2, 3, rfl, by decide, in_RX2, tblG_ok (List.mem_of_getElem? (i := 211) (by decide +kernel)) rfl⟩
theorem fa_RX2_19 : FAt RX2 19 2 1 := ⟨RX2, TX2, 3, rfl, by decide, in_RX2, tblG_ok (List.mem_of_getElem? (i := 212) (by decide +kernel)) rfl⟩
theorem fa_RX2_9 : FAt RX2 9 2 2 := ⟨RX2, TX2, 3, rfl, by decide, in_RX2, tblG_ok (List.mem_of_getElem? (i := 213) (by decide +kernel)) rfl⟩
theorem fa_RX1_15 : FAt RX1 15 1 0 := ⟨RX1, TX1, 4, rfl, by decide, in_RX1, tblG_ok (List.mem_of_getElem? (i := 227) (by decide +kernel)) rfl⟩
theorem fa_RX1_9 : FAt RX1 9 1 1 := ⟨RX1, TX1, 4, rfl, by decide, in_RX1, tblG_ok (List.mem_of_getElem? (i := 228) (by decide +kernel)) rfl⟩
theorem fa_RX1_19 : FAt RX1 19 1 2 := ⟨RX1, TX1, 4, rfl, by decide, in_RX1, tblG_ok (List.mem_of_getElem? (i := 229) (by decide +kernel)) rfl⟩
theorem fa_RX5_111 : FAt RX5 111 1 2 := ⟨RX1, TX1, 4, rfl, by decide, in_RX1, tblG_ok (List.mem_of_getElem? (i := 230) (by decide +kernel)) rfl⟩
theorem fa_RX1_23 : FAt RX1 23 1 3 := ⟨RX1, TX1, 4, rfl, by decide, in_RX1, tblG_ok (List.mem_of_getElem? (i := 231) (by decide +kernel)) rfl⟩
theorem fa_RX5_12 : FAt RX5 12 5 0 := ⟨RX5, TX5, 10, rfl, by decide, in_RX5, tblG_ok (List.mem_of_getElem? (i := 241) (by decide +kernel)) rfl⟩
theorem fa_RX5_16 : FAt RX5 16 5 1 := ⟨RX5, TX5, 10, rfl, by decide, in_RX5, tblG_ok (List.mem_of_getElem? (i := 242) (by decide +kernel)) rfl⟩
theorem fa_RX5_24 : FAt RX5 24 5 2 := ⟨RX5, TX5, 10, rfl, by decide, in_RX5, tblG_ok (List.mem_of_getElem? (i := 243) (by decide +kernel)) rfl⟩
theorem fa_RX5_28 : FAt RX5 28 5 3 := ⟨RX5, TX5, 10, rfl, by decide, in_RX5, tblG_ok (List.mem_of_getElem? (i := 244) (by decide +kernel)) rfl⟩
theorem fa_RX5_36 : FAt RX5 36 5 4 := ⟨RX5, TX5, 10, rfl, by decide, in_RX5, tblG_ok (List.mem_of_getElem? (i := 245) (by decide +kernel)) rfl⟩
theorem fa_RX5_40 : FAt RX5 40 5 5 := ⟨RX5, TX5, 10, rfl, by decide, in_RX5, tblG_ok (List.mem_of_getElem? (i := 246) (by decide +kernel)) rfl⟩
theorem fa_RX5_46 : FAt RX5 46 5 6 := ⟨RX5, TX5, 10, rfl, by decide, in_RX5, tblG_ok (List.mem_of_getElem? (i := 247) (by decide +kernel)) rfl⟩
theorem fa_RX5_55 : FAt RX5 55 5 7 := ⟨RX5, TX5, 10, rfl, by decide, in_RX5, tblG_ok (List.mem_of_getElem? (i := 248) (by decide +kernel)) rfl⟩
theorem fa_RX5_59 : FAt RX5 59 5 8 := ⟨RX5, TX5, 10, rfl, by decide, in_RX5, tblG_ok (List.mem_of_getElem? (i := 249) (by decide +kernel)) rfl⟩
theorem fa_RX5_63 : FAt RX5 63 5 9 := ⟨RX5, TX5, 10, rfl, by decide, in_RX5, tblG_ok (List.mem_of_getElem? (i := 250) (by decide +kernel)) rfl⟩
theorem fs_RX5_206 : Cond.fieldLink RX5 206 "KitchenTouch" "IS_ONE" "[J" ∈ tblG := tblG_ok (List.mem_of_getElem? (i := 450) (by decide +kernel)) rfl
theorem fa_RX6_7 : FAt RX6 7 6 0 := ⟨RX6, TX6, 43, rfl, by decide, in_RX6, tblG_ok (List.mem_of_getElem? (i := 731) (by decide +kernel)) rfl⟩
theorem fa_RX6_13 : FAt RX6 13 6 1 := ⟨RX6, TX6, 43, rfl, by decide, in_RX6, tblG_ok (List.mem_of_getElem? (i := 732) (by decide +kernel)) rfl⟩
theorem fa_RX6_16 : FAt RX6 16 6 2 := ⟨RX6, TX6, 43, rfl, by decide, in_RX6, tblG_ok (List.mem_of_getElem? (i := 733) (by decide +kernel)) rfl⟩
theorem fa_RX6_19 : FAt RX6 19 6 3 := ⟨RX6, TX6, 43, rfl, by decide, in_RX6, tblG_ok (List.mem_of_getElem? (i := 734) (by decide +kernel)) rfl⟩
theorem fa_RX6_22 : FAt RX6 22 6 4 := ⟨RX6, TX6, 43, rfl, by decide, in_RX6, tblG_ok (List.mem_of_getElem? (i := 735) (by decide +kernel)) rfl⟩
theorem fa_RX6_25 : FAt RX6 25 6 5 := ⟨RX6, TX6, 43, rfl, by decide, in_RX6, tblG_ok (List.mem_of_getElem? (i := 736) (by decide +kernel)) rfl⟩
theorem fa_RX6_28 : FAt RX6 28 6 6 := ⟨RX6, TX6, 43, rfl, by decide, in_RX6, tblG_ok (List.mem_of_getElem? (i := 737) (by decide +kernel)) rfl⟩
theorem fa_RX6_31 : FAt RX6 31 6 7 := ⟨RX6, TX6, 43, rfl, by decide, in_RX6, tblG_ok (List.mem_of_getElem? (i := 738) (by decide +kernel)) rfl⟩
theorem fa_RX6_34 : FAt RX6 34 6 8 := ⟨RX6, TX6, 43, rfl, by decide, in_RX6, tblG_ok (List.mem_of_getElem? (i := 739) (by decide +kernel)) rfl⟩
theorem fa_RX6_37 : FAt RX6 37 6 9 := ⟨RX6, TX6, 43, rfl, by decide, in_RX6, tblG_ok (List.mem_of_getElem? (i := 740) (by decide +kernel)) rfl⟩
theorem fa_RX6_40 : FAt RX6 40 6 10 := ⟨RX6, TX6, 43, rfl, by decide, in_RX6, tblG_ok (List.mem_of_getElem? (i := 741) (by decide +kernel)) rfl⟩
theorem fa_RX6_101 : FAt RX6 101 6 11 := ⟨RX6, TX6, 43, rfl, by decide, in_RX6, tblG_ok (List.mem_of_getElem? (i := 742) (by decide +kernel)) rfl⟩
theorem fa_RX6_125 : FAt RX6 125 6 12 := ⟨RX6, TX6, 43, rfl, by decide, in_RX6, tblG_ok (List.mem_of_getElem? (i := 743) (by decide +kernel)) rfl⟩
theorem fa_RX6_43 : FAt RX6 43 6 13 := ⟨RX6, TX6, 43, rfl, by decide, in_RX6, tblG_ok (List.mem_of_getElem? (i := 744) (by decide +kernel)) rfl⟩
theorem fa_RX6_139 : FAt RX6 139 6 14 := ⟨RX6, TX6, 43, rfl, by decide, in_RX6, tblG_ok (List.mem_of_getElem? (i := 745) (by decide +kernel)) rfl⟩
theorem fa_RX6_144 : FAt RX6 144 6 15 := ⟨RX6, TX6, 43, rfl, by decide, in_RX6, tblG_ok (List.mem_of_getElem? (i := 746) (by decide +kernel)) rfl⟩
theorem fa_RX6_151 : FAt RX6 151 6 16 := ⟨RX6, TX6, 43, rfl, by decide, in_RX6, tblG_ok (List.mem_of_getElem? (i := 747) (by decide +kernel)) rfl⟩
theorem fa_RX6_46 : FAt RX6 46 6 17 := ⟨RX6, TX6, 43, rfl, by decide, in_RX6, tblG_ok (List.mem_of_getElem? (i := 748) (by decide +kernel)) rfl⟩
theorem fa_RX6_49 : FAt RX6 49 6 18 := ⟨RX6, TX6, 43, rfl, by decide, in_RX6, tblG_ok (List.mem_of_getElem? (i := 749) (by decide +kernel)) rfl⟩
theorem fa_RX6_52 : FAt RX6 52 6 19 := ⟨RX6, TX6, 43, rfl, by decide, in_RX6, tblG_ok (List.mem_of_getElem? (i := 750) (by decide +kernel)) rfl⟩
theorem fa_RX6_55 : FAt RX6 55 6 20 := ⟨RX6, TX6, 43, rfl, by decide, in_RX6, tblG_ok (List.mem_of_getElem? (i := 751) (by decide +kernel)) rfl⟩
theorem fa_RX6_59 : FAt RX6 59 6 21 := ⟨RX6, TX6, 43, rfl, by decide, in_RX6, tblG_ok (List.mem_of_getElem? (i := 752) (by decide +kernel)) rfl⟩
theorem fa_RX6_62 : FAt RX6 62 6 22 := ⟨RX6, TX6, 43, rfl, by decide, in_RX6, tblG_ok (List.mem_of_getElem? (i := 753) (by decide +kernel)) rfl⟩
theorem fa_RX6_65 : FAt RX6 65 6 23 := ⟨RX6, TX6, 43, rfl, by decide, in_RX6, tblG_ok (List.mem_of_getElem? (i := 754) (by decide +kernel)) rfl⟩
theorem fa_RX6_176 : FAt RX6 176 6 24 := ⟨RX6, TX6, 43, rfl, by decide, in_RX6, tblG_ok (List.mem_of_getElem? (i := 755) (by decide +kernel)) rfl⟩
theorem fa_RX6_180 : FAt RX6 180 6 25 := ⟨RX6, TX6, 43, rfl, by decide, in_RX6, tblG_ok (List.mem_of_getElem? (i := 756) (by decide +kernel)) rfl⟩
theorem fa_RX6_68 : FAt RX6 68 6 26 := ⟨RX6, TX6, 43, rfl, by decide, in_RX6, tblG_ok (List.mem_of_getElem? (i := 757) (by decide +kernel)) rfl⟩
theorem fa_RX6_71 : FAt RX6 71 6 27 := ⟨RX6, TX6, 43, rfl, by decide, in_RX6, tblG_ok (List.mem_of_getElem? (i := 758) (by decide +kernel)) rfl⟩
theorem fa_RX6_74 : FAt RX6 74 6 28 := ⟨RX6, TX6, 43, rfl, by decide, in_RX6, tblG_ok (List.mem_of_getElem? (i := 759) (by decide +kernel)) rfl⟩
theorem fa_RX6_77 : FAt RX6 77 6 29 := ⟨RX6, TX6, 43, rfl, by decide, in_RX6, tblG_ok (List.mem_of_getElem? (i := 760) (by decide +kernel)) rfl⟩
theorem fa_RX6_226 : FAt RX6 226 6 30 := ⟨RX6, TX6, 43, rfl, by decide, in_RX6, tblG_ok (List.mem_of_getElem? (i := 761) (by decide +kernel)) rfl⟩
theorem fa_RX6_232 : FAt RX6 232 6 31 := ⟨RX6, TX6, 43, rfl, by decide, in_RX6, tblG_ok (List.mem_of_getElem? (i := 762) (by decide +kernel)) rfl⟩
theorem fa_RX6_80 : FAt RX6 80 6 32 := ⟨RX6, TX6, 43, rfl, by decide, in_RX6, tblG_ok (List.mem_of_getElem? (i := 763) (by decide +kernel)) rfl⟩
theorem fa_RX6_83 : FAt RX6 83 6 33 := ⟨RX6, TX6, 43, rfl, by decide, in_RX6, tblG_ok (List.mem_of_getElem? (i := 764) (by decide +kernel)) rfl⟩
theorem fa_RX6_86 : FAt RX6 86 6 34 := ⟨RX6, TX6, 43, rfl, by decide, in_RX6, tblG_ok (List.mem_of_getElem? (i := 765) (by decide +kernel)) rfl⟩
theorem fa_RX6_89 : FAt RX6 89 6 35 := ⟨RX6, TX6, 43, rfl, by decide, in_RX6, tblG_ok (List.mem_of_getElem? (i := 766) (by decide +kernel)) rfl⟩
theorem fa_RX6_92 : FAt RX6 92 6 36 := ⟨RX6, TX6, 43, rfl, by decide, in_RX6, tblG_ok (List.mem_of_getElem? (i := 767) (by decide +kernel)) rfl⟩
theorem fa_RX6_270 : FAt RX6 270 6 37 := ⟨RX6, TX6, 43, rfl, by decide, in_RX6, tblG_ok (List.mem_of_getElem? (i := 768) (by decide +kernel)) rfl⟩
theorem fa_RX6_95 : FAt RX6 95 6 38 := ⟨RX6, TX6, 43, rfl, by decide, in_RX6, tblG_ok (List.mem_of_getElem? (i := 769) (by decide +kernel)) rfl⟩
theorem fa_RX6_98 : FAt RX6 98 6 39 := ⟨RX6, TX6, 43, rfl, by decide, in_RX6, tblG_ok (List.mem_of_getElem? (i := 770) (by decide +kernel)) rfl⟩
theorem fa_RX6_292 : FAt RX6 292 6 40 := ⟨RX6, TX6, 43, rfl, by decide, in_RX6, tblG_ok (List.mem_of_getElem? (i := 771) (by decide +kernel)) rfl⟩
theorem fa_RX6_279 : FAt RX6 279 6 41 := ⟨RX6, TX6, 43, rfl, by decide, in_RX6, tblG_ok (List.mem_of_getElem? (i := 772) (by decide +kernel)) rfl⟩
theorem fa_RX6_282 : FAt RX6 282 6 42 := ⟨RX6, TX6, 43, rfl, by decide, in_RX6, tblG_ok (List.mem_of_getElem? (i := 773) (by decide +kernel)) rfl⟩
theorem fp_1_2 : FPt 1 2 .int := ⟨RX1, TX1, 4, tyX1, rfl, tyX1_ok, nmX1, rfl, by decide +kernel⟩
theorem fp_1_3 : FPt 1 3 .int := ⟨RX1, TX1, 4, tyX1, rfl, tyX1_ok, nmX1, rfl, by decide +kernel⟩
theorem fp_3_6 : FPt 3 6 .int := ⟨RX3, TX3, 13, tyX3, rfl, tyX3_ok, nmX3, rfl, by decide +kernel⟩
theorem fp_3_7 : FPt 3 7 .int := ⟨RX3, TX3, 13, tyX3, rfl, tyX3_ok, nmX3, rfl, by decide +kernel⟩
theorem fp_3_8 : FPt 3 8 .int := ⟨RX3, TX3, 13, tyX3, rfl, tyX3_ok, nmX3, rfl, by decide +kernel⟩
theorem fp_3_9 : FPt 3 9 .int := ⟨RX3, TX3, 13, tyX3, rfl, tyX3_ok, nmX3, rfl, by decide +kernel⟩
theorem fp_3_10 : FPt 3 10 .int := ⟨RX3, TX3, 13, tyX3, rfl, tyX3_ok, nmX3, rfl, by decide +kernel⟩
theorem fp_3_11 : FPt 3 11 .int := ⟨RX3, TX3, 13, tyX3, rfl, tyX3_ok, nmX3, rfl, by decide +kernel⟩
theorem fp_3_12 : FPt 3 12 .int := ⟨RX3, TX3, 13, tyX3, rfl, tyX3_ok, nmX3, rfl, by decide +kernel⟩
theorem fp_4_9 : FPt 4 9 .int := ⟨RX4, TX4, 11, tyX4, rfl, tyX4_ok, nmX4, rfl, by decide +kernel⟩
theorem fp_4_10 : FPt 4 10 .boolean := ⟨RX4, TX4, 11, tyX4, rfl, tyX4_ok, nmX4, rfl, by decide +kernel⟩
theorem fp_5_9 : FPt 5 9 .boolean := ⟨RX5, TX5, 10, tyX5, rfl, tyX5_ok, nmX5, rfl, by decide +kernel⟩
theorem fp_6_11 : FPt 6 11 .int := ⟨RX6, TX6, 43, tyX6, rfl, tyX6_ok, nmX6, rfl, by decide +kernel⟩
theorem fp_6_12 : FPt 6 12 .int := ⟨RX6, TX6, 43, tyX6, rfl, tyX6_ok, nmX6, rfl, by decide +kernel⟩
theorem fp_6_14 : FPt 6 14 .int := ⟨RX6, TX6, 43, tyX6, rfl, tyX6_ok, nmX6, rfl, by decide +kernel⟩
theorem fp_6_15 : FPt 6 15 .int := ⟨RX6, TX6, 43, tyX6, rfl, tyX6_ok, nmX6, rfl, by decide +kernel⟩
theorem fp_6_16 : FPt 6 16 .int := ⟨RX6, TX6, 43, tyX6, rfl, tyX6_ok, nmX6, rfl, by decide +kernel⟩
theorem fp_6_24 : FPt 6 24 .boolean := ⟨RX6, TX6, 43, tyX6, rfl, tyX6_ok, nmX6, rfl, by decide +kernel⟩
theorem fp_6_25 : FPt 6 25 .boolean := ⟨RX6, TX6, 43, tyX6, rfl, tyX6_ok, nmX6, rfl, by decide +kernel⟩
theorem fp_6_30 : FPt 6 30 .int := ⟨RX6, TX6, 43, tyX6, rfl, tyX6_ok, nmX6, rfl, by decide +kernel⟩
theorem fp_6_31 : FPt 6 31 .int := ⟨RX6, TX6, 43, tyX6, rfl, tyX6_ok, nmX6, rfl, by decide +kernel⟩
theorem fp_6_37 : FPt 6 37 .int := ⟨RX6, TX6, 43, tyX6, rfl, tyX6_ok, nmX6, rfl, by decide +kernel⟩
theorem fp_6_40 : FPt 6 40 .boolean := ⟨RX6, TX6, 43, tyX6, rfl, tyX6_ok, nmX6, rfl, by decide +kernel⟩
theorem fp_6_41 : FPt 6 41 .boolean := ⟨RX6, TX6, 43, tyX6, rfl, tyX6_ok, nmX6, rfl, by decide +kernel⟩
theorem fp_6_42 : FPt 6 42 .int := ⟨RX6, TX6, 43, tyX6, rfl, tyX6_ok, nmX6, rfl, by decide +kernel⟩
theorem nm_RX3_50 : (RX3, 50, yX5_hasSecond, "KitchenTouch") ∈ nestM := by decide +kernel
theorem nm_RX1_73 : (RX1, 73, yX5_hasSecond, "KitchenTouch") ∈ nestM := by decide +kernel
theorem nm_RX4_93 : (RX4, 93, yX5_waysToldBy, "KitchenTouch") ∈ nestM := by decide +kernel
theorem nm_RX4_141 : (RX4, 141, yX5_isVessel, "KitchenTouch") ∈ nestM := by decide +kernel
theorem nm_RX4_155 : (RX4, 155, yX5_isFood, "KitchenTouch") ∈ nestM := by decide +kernel
theorem nf_RX3_70 : (RX3, 70, "KitchenTouch", "IS_ONE", "[J", "KitchenTouch") ∈ nestF := by decide +kernel
theorem nf_RX0_77 : (RX0, 77, "KitchenTouch", "IS_ONE", "[J", "KitchenTouch") ∈ nestF := by decide +kernel
theorem kl_RX4_63 : Cond.constantLong RX4 63 (-1 : Int64) ∈ tblG := tblG_ok (List.mem_of_getElem? (i := 430) (by decide +kernel)) rfl
theorem kl_RX5_210 : Cond.constantLong RX5 210 (-1 : Int64) ∈ tblG := tblG_ok (List.mem_of_getElem? (i := 452) (by decide +kernel)) rfl
theorem kl_RX3_68 : Cond.constantLong RX3 68 (-1 : Int64) ∈ tblG := tblG_ok (List.mem_of_getElem? (i := 526) (by decide +kernel)) rfl
theorem kl_RX0_42 : Cond.constantLong RX0 42 (-1 : Int64) ∈ tblG := tblG_ok (List.mem_of_getElem? (i := 539) (by decide +kernel)) rfl
theorem kl_RJ13_314 : Cond.constantLong RJ13 314 (6148914691236517205 : Int64) ∈ tblG := tblG_ok (List.mem_of_getElem? (i := 543) (by decide +kernel)) rfl
theorem kl_RJ13_316 : Cond.constantLong RJ13 316 (3689348814741910323 : Int64) ∈ tblG := tblG_ok (List.mem_of_getElem? (i := 544) (by decide +kernel)) rfl
theorem kl_RJ13_318 : Cond.constantLong RJ13 318 (1085102592571150095 : Int64) ∈ tblG := tblG_ok (List.mem_of_getElem? (i := 545) (by decide +kernel)) rfl
theorem kl_RX6_142 : Cond.constantLong RX6 142 (255 : Int64) ∈ tblG := tblG_ok (List.mem_of_getElem? (i := 919) (by decide +kernel)) rfl
theorem kl_RL_42 : Cond.constantLong RL 42 (4294967295 : Int64) ∈ tblG := tblG_ok (List.mem_of_getElem? (i := 1147) (by decide +kernel)) rfl
theorem ki_RJ6_265 : Cond.constant RJ6 265 (1431655765 : Int32) ∈ tblG := tblG_ok (List.mem_of_getElem? (i := 653) (by decide +kernel)) rfl
theorem ki_RJ6_266 : Cond.constant RJ6 266 (858993459 : Int32) ∈ tblG := tblG_ok (List.mem_of_getElem? (i := 654) (by decide +kernel)) rfl
theorem ki_RJ6_267 : Cond.constant RJ6 267 (252645135 : Int32) ∈ tblG := tblG_ok (List.mem_of_getElem? (i := 655) (by decide +kernel)) rfl
