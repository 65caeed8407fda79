def mX0_gather : mm_M := (yX0_gather, cX0_gather, 5, none)
def mX0_weigh : mm_M := (yX0_weigh, cX0_weigh, 6, none)
def mX0_mostBy : mm_M := (yX0_mostBy, cX0_mostBy, 4, (some .int))
def mX0_total : mm_M := (yX0_total, cX0_total, 1, (some .int))
def mX0_row : mm_M := (yX0_row, cX0_row, 6, (some .int))
def mX0_firstBest : mm_M := (yX0_firstBest, cX0_firstBest, 5, (some .int))
def mX1_isStep : mm_M := (yX1_isStep, cX1_isStep, 1, (some .boolean))
def mX1_play : mm_M := (yX1_play, cX1_play, 6, none)
def mX1_isRest : mm_M := (yX1_isRest, cX1_isRest, 5, (some .boolean))
def mX2_copyFrom : mm_M := (yX2_copyFrom, cX2_copyFrom, 2, none)
def mX2_over : mm_M := (yX2_over, cX2_over, 3, (some .int))
def mX2_overFrom : mm_M := (yX2_overFrom, cX2_overFrom, 5, (some .int))
def mX3_read : mm_M := (yX3_read, cX3_read, 3, (some .boolean))
def mX3_readClause : mm_M := (yX3_readClause, cX3_readClause, 2, (some .boolean))
def mX3_readRules : mm_M := (yX3_readRules, cX3_readRules, 2, (some .boolean))
def mX3_setRules : mm_M := (yX3_setRules, cX3_setRules, 2, none)
def mX3_readThing : mm_M := (yX3_readThing, cX3_readThing, 3, (some .boolean))
def mX3_readGun : mm_M := (yX3_readGun, cX3_readGun, 3, (some .boolean))
def mX3_readItems : mm_M := (yX3_readItems, cX3_readItems, 10, (some .boolean))
def mX4_freshTrial : mm_M := (yX4_freshTrial, cX4_freshTrial, 1, (some (.object "BeatenAfternoon$Season")))
def mX4_rises : mm_M := (yX4_rises, cX4_rises, 5, (some .boolean))
def mX4_rise : mm_M := (yX4_rise, cX4_rise, 4, none)
def mX4_run : mm_M := (yX4_run, cX4_run, 5, none)
def mX4_take : mm_M := (yX4_take, cX4_take, 3, none)
def mX4_firstInReach : mm_M := (yX4_firstInReach, cX4_firstInReach, 8, (some .int))
def mX4_reach : mm_M := (yX4_reach, cX4_reach, 6, (some .int))
def mX4_comingOver : mm_M := (yX4_comingOver, cX4_comingOver, 4, (some .int))
def mX4_sortPegs : mm_M := (yX4_sortPegs, cX4_sortPegs, 4, none)
def mX4_dealPegs : mm_M := (yX4_dealPegs, cX4_dealPegs, 9, (some .int))
def mX4_gunLeft : mm_M := (yX4_gunLeft, cX4_gunLeft, 5, (some .int))
def mX4_spread : mm_M := (yX4_spread, cX4_spread, 4, (some .int))
def mX4_stepAside : mm_M := (yX4_stepAside, cX4_stepAside, 5, none)
def mX4_oddsOfTaking : mm_M := (yX4_oddsOfTaking, cX4_oddsOfTaking, 3, (some .int))
def mX4_partsTaking : mm_M := (yX4_partsTaking, cX4_partsTaking, 7, (some .int))
def mX4_partsOver : mm_M := (yX4_partsOver, cX4_partsOver, 8, (some .int))
def mX5_worth : mm_M := (yX5_worth, cX5_worth, 6, (some .int))
def mX5_joined : mm_M := (yX5_joined, cX5_joined, 7, (some .int))
def mX6_read : mm_M := (yX6_read, cX6_read, 3, (some .boolean))
def mX6_made : mm_M := (yX6_made, cX6_made, 1, (some (.object "BeatenAfternoon$Law")))
def mX6_readClause : mm_M := (yX6_readClause, cX6_readClause, 5, (some .boolean))
def mX6_readWorth : mm_M := (yX6_readWorth, cX6_readWorth, 3, (some .boolean))
def mX6_readCondition : mm_M := (yX6_readCondition, cX6_readCondition, 4, (some .boolean))
def mX6_readTruth : mm_M := (yX6_readTruth, cX6_readTruth, 4, (some .boolean))
def mX6_readUnit : mm_M := (yX6_readUnit, cX6_readUnit, 4, (some .boolean))
def mX6_readComparison : mm_M := (yX6_readComparison, cX6_readComparison, 4, (some .boolean))
def mX6_readSum : mm_M := (yX6_readSum, cX6_readSum, 5, (some .boolean))
def mX6_readTerm : mm_M := (yX6_readTerm, cX6_readTerm, 5, (some .boolean))
def mX6_readAtom : mm_M := (yX6_readAtom, cX6_readAtom, 6, (some .boolean))
def mX6_isComparison : mm_M := (yX6_isComparison, cX6_isComparison, 1, (some .boolean))
def mX6_write : mm_M := (yX6_write, cX6_write, 2, none)
def mX7_keep : mm_M := (yX7_keep, cX7_keep, 2, none)
def mX7_takeBack : mm_M := (yX7_takeBack, cX7_takeBack, 2, (some .boolean))
def mX7_writeLog : mm_M := (yX7_writeLog, cX7_writeLog, 5, none)
def mX7_readLog : mm_M := (yX7_readLog, cX7_readLog, 3, (some .int))
def mX7_keepImage : mm_M := (yX7_keepImage, cX7_keepImage, 2, none)
def mX7_bringImageBack : mm_M := (yX7_bringImageBack, cX7_bringImageBack, 2, (some .boolean))
def mX7_forget : mm_M := (yX7_forget, cX7_forget, 1, none)
def mX8_isOut : mm_M := (yX8_isOut, cX8_isOut, 2, (some .boolean))
def mX8_bagsOfAll : mm_M := (yX8_bagsOfAll, cX8_bagsOfAll, 3, (some .int))
def mX8_copyFrom : mm_M := (yX8_copyFrom, cX8_copyFrom, 2, none)
def mX8_save : mm_M := (yX8_save, cX8_save, 3, none)
def mX8_load : mm_M := (yX8_load, cX8_load, 3, none)
def mX9_add : mm_M := (yX9_add, cX9_add, 5, (some .boolean))
def mX9_fit : mm_M := (yX9_fit, cX9_fit, 6, (some .boolean))
def mX9_apart : mm_M := (yX9_apart, cX9_apart, 8, (some .int))
def mX10_add : mm_M := (yX10_add, cX10_add, 7, (some .boolean))
def mX10_put : mm_M := (yX10_put, cX10_put, 6, (some .int))
def mX10_look : mm_M := (yX10_look, cX10_look, 1, (some .int))
def mX10_pass : mm_M := (yX10_pass, cX10_pass, 2, (some .boolean))
def mX10_isAtDigit : mm_M := (yX10_isAtDigit, cX10_isAtDigit, 1, (some .boolean))
def mX10_readNumber : mm_M := (yX10_readNumber, cX10_readNumber, 5, (some .int))
def mX11_feed : mm_M := (yX11_feed, cX11_feed, 6, (some .int))
def mX11_end : mm_M := (yX11_end, cX11_end, 2, (some .boolean))
def mX11_fault : mm_M := (yX11_fault, cX11_fault, 3, (some .int))
def mX11_text : mm_M := (yX11_text, cX11_text, 2, (some .int))
def mX11_rule : mm_M := (yX11_rule, cX11_rule, 2, (some .int))
def mX11_gun : mm_M := (yX11_gun, cX11_gun, 4, (some .int))
def mX11_law : mm_M := (yX11_law, cX11_law, 2, (some .boolean))
def mX11_drives : mm_M := (yX11_drives, cX11_drives, 3, (some .int))
def mX11_line : mm_M := (yX11_line, cX11_line, 4, (some .int))
def mX11_move : mm_M := (yX11_move, cX11_move, 5, (some .int))
def mX11_practise : mm_M := (yX11_practise, cX11_practise, 3, (some .int))
def mX11_wind : mm_M := (yX11_wind, cX11_wind, 4, (some .int))
def mX11_putOut : mm_M := (yX11_putOut, cX11_putOut, 3, (some .int))
def mX11_lots : mm_M := (yX11_lots, cX11_lots, 2, (some .boolean))
def mX11_years : mm_M := (yX11_years, cX11_years, 5, (some .int))
def mX11_status : mm_M := (yX11_status, cX11_status, 2, (some .int))
def mX11_undo : mm_M := (yX11_undo, cX11_undo, 1, (some .int))
def mX11_log : mm_M := (yX11_log, cX11_log, 3, (some .int))
def mX11_taker : mm_M := (yX11_taker, cX11_taker, 2, (some .int))
def mX11_bestLine : mm_M := (yX11_bestLine, cX11_bestLine, 7, (some .int))
def mX11_bestPeg : mm_M := (yX11_bestPeg, cX11_bestPeg, 7, (some .int))
def mX11_dealt : mm_M := (yX11_dealt, cX11_dealt, 8, (some .int))
def mX11_seen : mm_M := (yX11_seen, cX11_seen, 5, (some .int))
def mX11_lay : mm_M := (yX11_lay, cX11_lay, 5, (some .int))
def mX11_ask : mm_M := (yX11_ask, cX11_ask, 7, (some .int))
def mX11_claim : mm_M := (yX11_claim, cX11_claim, 2, (some .int))
def mX11_game : mm_M := (yX11_game, cX11_game, 6, (some .int))
def mX11_rests : mm_M := (yX11_rests, cX11_rests, 7, (some .int))
def mX11_odds : mm_M := (yX11_odds, cX11_odds, 3, (some .int))
def mX11_shares : mm_M := (yX11_shares, cX11_shares, 4, (some .int))
def mX11_rising : mm_M := (yX11_rising, cX11_rising, 4, (some .int))
def mX11_most : mm_M := (yX11_most, cX11_most, 2, (some .int))
def mX11_ahead : mm_M := (yX11_ahead, cX11_ahead, 4, (some .int))
def mX11_image : mm_M := (yX11_image, cX11_image, 1, (some .int))
def mX11_back : mm_M := (yX11_back, cX11_back, 1, (some .int))
def mX11_count : mm_M := (yX11_count, cX11_count, 2, (some .int))
def mX11_hasEstate : mm_M := (yX11_hasEstate, cX11_hasEstate, 1, (some .boolean))
def mX11_isThing : mm_M := (yX11_isThing, cX11_isThing, 2, (some .boolean))
def mX11_isGun : mm_M := (yX11_isGun, cX11_isGun, 2, (some .boolean))
def mX11_areTwoGuns : mm_M := (yX11_areTwoGuns, cX11_areTwoGuns, 3, (some .boolean))
def mX11_isColumn : mm_M := (yX11_isColumn, cX11_isColumn, 1, (some .boolean))
def mX11_isWind : mm_M := (yX11_isWind, cX11_isWind, 1, (some .boolean))
def mX11_isPair : mm_M := (yX11_isPair, cX11_isPair, 1, (some .boolean))
def mX11_refuse : mm_M := (yX11_refuse, cX11_refuse, 2, (some .int))
def mX11_settle : mm_M := (yX11_settle, cX11_settle, 1, (some .int))
def mX11_enact : mm_M := (yX11_enact, cX11_enact, 1, (some .int))
def mX11_overOrLost : mm_M := (yX11_overOrLost, cX11_overOrLost, 3, (some .int))
def mX11_logLength : mm_M := (yX11_logLength, cX11_logLength, 1, (some .int))
def mX11_driveOnce : mm_M := (yX11_driveOnce, cX11_driveOnce, 3, none)
def mX11_drawAhead : mm_M := (yX11_drawAhead, cX11_drawAhead, 3, none)
def mX11_draw : mm_M := (yX11_draw, cX11_draw, 2, (some .int))
def mX11_lastToRise : mm_M := (yX11_lastToRise, cX11_lastToRise, 1, (some .int))
def mX11_finest : mm_M := (yX11_finest, cX11_finest, 4, (some .int))
def mX11_busiest : mm_M := (yX11_busiest, cX11_busiest, 5, (some .int))
def mX11_firstGreatest : mm_M := (yX11_firstGreatest, cX11_firstGreatest, 4, (some .int))
def mX11_widestGap : mm_M := (yX11_widestGap, cX11_widestGap, 3, (some .int))
def mX11_valueOut : mm_M := (yX11_valueOut, cX11_valueOut, 3, (some .int))
def mX12_in : mm_M := (yX12_in, cX12_in, 3, (some .boolean))
def mX12_has : mm_M := (yX12_has, cX12_has, 2, (some .boolean))
def mX12_thrown : mm_M := (yX12_thrown, cX12_thrown, 1, (some .int))
def mX12_byteOf : mm_M := (yX12_byteOf, cX12_byteOf, 7, (some .int))
def mX12_feed : mm_M := (yX12_feed, cX12_feed, 9, (some .int))
def mX12_end : mm_M := (yX12_end, cX12_end, 2, (some .boolean))
def mX12_here : mm_M := (yX12_here, cX12_here, 1, (some .int))
def mX12_look : mm_M := (yX12_look, cX12_look, 1, (some .int))
def mX12_bad : mm_M := (yX12_bad, cX12_bad, 1, none)
def mX12_isDigit : mm_M := (yX12_isDigit, cX12_isDigit, 1, (some .boolean))
def mX12_put : mm_M := (yX12_put, cX12_put, 3, none)
def mX12_letterOf : mm_M := (yX12_letterOf, cX12_letterOf, 1, (some .int))
def mX12_opens : mm_M := (yX12_opens, cX12_opens, 1, none)
def mX12_closes : mm_M := (yX12_closes, cX12_closes, 2, none)
def mX12_plainNumber : mm_M := (yX12_plainNumber, cX12_plainNumber, 3, (some .int))
def mX12_atom : mm_M := (yX12_atom, cX12_atom, 2, none)
def mX12_term : mm_M := (yX12_term, cX12_term, 2, none)
def mX12_sum : mm_M := (yX12_sum, cX12_sum, 2, none)
def mX12_isSign : mm_M := (yX12_isSign, cX12_isSign, 1, (some .boolean))
def mX12_compare : mm_M := (yX12_compare, cX12_compare, 2, none)
def mX12_unit : mm_M := (yX12_unit, cX12_unit, 2, none)
def mX12_goOnAnd : mm_M := (yX12_goOnAnd, cX12_goOnAnd, 1, none)
def mX12_goOnOr : mm_M := (yX12_goOnOr, cX12_goOnOr, 1, none)
def mX12_condition : mm_M := (yX12_condition, cX12_condition, 1, none)
def mX12_clause : mm_M := (yX12_clause, cX12_clause, 3, none)
def mX12_open : mm_M := (yX12_open, cX12_open, 2, none)
def mX12_atEnd : mm_M := (yX12_atEnd, cX12_atEnd, 1, (some .int))
def mX12_readLaw : mm_M := (yX12_readLaw, cX12_readLaw, 2, (some .int))
def mX12_bounded : mm_M := (yX12_bounded, cX12_bounded, 2, (some .int))
def mX12_worked : mm_M := (yX12_worked, cX12_worked, 5, (some .int))
def mX12_workOut : mm_M := (yX12_workOut, cX12_workOut, 6, (some .int))
def mX12_worthOf : mm_M := (yX12_worthOf, cX12_worthOf, 3, (some .int))
def mX12_number : mm_M := (yX12_number, cX12_number, 4, (some .int))
def mX12_itemOf : mm_M := (yX12_itemOf, cX12_itemOf, 2, (some .int))
def mX12_highest : mm_M := (yX12_highest, cX12_highest, 2, (some .int))
def mX12_usual : mm_M := (yX12_usual, cX12_usual, 2, (some .int))
def mX12_items : mm_M := (yX12_items, cX12_items, 7, none)
def mX12_readEstate : mm_M := (yX12_readEstate, cX12_readEstate, 4, (some .int))
def mX12_fault : mm_M := (yX12_fault, cX12_fault, 2, (some .int))
def mX12_takeEstate : mm_M := (yX12_takeEstate, cX12_takeEstate, 2, (some .int))
def mX12_text : mm_M := (yX12_text, cX12_text, 2, (some .int))
def mX12_of : mm_M := (yX12_of, cX12_of, 3, (some .int))
def mX12_isThing : mm_M := (yX12_isThing, cX12_isThing, 2, (some .boolean))
def mX12_isGun : mm_M := (yX12_isGun, cX12_isGun, 2, (some .boolean))
def mX12_isColumn : mm_M := (yX12_isColumn, cX12_isColumn, 1, (some .boolean))
def mX12_isWind : mm_M := (yX12_isWind, cX12_isWind, 1, (some .boolean))
def mX12_isOut : mm_M := (yX12_isOut, cX12_isOut, 2, (some .boolean))
def mX12_flies : mm_M := (yX12_flies, cX12_flies, 5, (some .int))
def mX12_columnOf : mm_M := (yX12_columnOf, cX12_columnOf, 1, (some .int))
def mX12_overNow : mm_M := (yX12_overNow, cX12_overNow, 2, (some .int))
def mX12_risesAt : mm_M := (yX12_risesAt, cX12_risesAt, 3, (some .boolean))
def mX12_reachOf : mm_M := (yX12_reachOf, cX12_reachOf, 7, (some .int))
def mX12_takes : mm_M := (yX12_takes, cX12_takes, 7, (some .int))
def mX12_layDrive : mm_M := (yX12_layDrive, cX12_layDrive, 4, none)
def mX12_rule : mm_M := (yX12_rule, cX12_rule, 2, (some .int))
def mX12_thing : mm_M := (yX12_thing, cX12_thing, 3, (some .int))
def mX12_gun : mm_M := (yX12_gun, cX12_gun, 3, (some .int))
def mX12_law : mm_M := (yX12_law, cX12_law, 2, (some .boolean))
def mX12_keep : mm_M := (yX12_keep, cX12_keep, 2, none)
def mX12_isRefused : mm_M := (yX12_isRefused, cX12_isRefused, 2, (some .boolean))
def mX12_passDrive : mm_M := (yX12_passDrive, cX12_passDrive, 2, none)
def mX12_areDrives : mm_M := (yX12_areDrives, cX12_areDrives, 2, (some .boolean))
def mX12_drives : mm_M := (yX12_drives, cX12_drives, 3, (some .int))
def mX12_line : mm_M := (yX12_line, cX12_line, 4, (some .int))
def mX12_move : mm_M := (yX12_move, cX12_move, 3, (some .int))
def mX12_practise : mm_M := (yX12_practise, cX12_practise, 2, (some .int))
def mX12_wind : mm_M := (yX12_wind, cX12_wind, 3, (some .int))
def mX12_putOut : mm_M := (yX12_putOut, cX12_putOut, 2, (some .int))
def mX12_lots : mm_M := (yX12_lots, cX12_lots, 2, (some .boolean))
def mX12_draw : mm_M := (yX12_draw, cX12_draw, 2, (some .int))
def mX12_drawDrive : mm_M := (yX12_drawDrive, cX12_drawDrive, 2, none)
def mX12_years : mm_M := (yX12_years, cX12_years, 5, (some .int))
def mX12_status : mm_M := (yX12_status, cX12_status, 2, (some .int))
def mX12_undo : mm_M := (yX12_undo, cX12_undo, 2, (some .int))
def mX12_log : mm_M := (yX12_log, cX12_log, 3, (some .int))
def mX12_taker : mm_M := (yX12_taker, cX12_taker, 2, (some .int))
def mX12_tryRow : mm_M := (yX12_tryRow, cX12_tryRow, 5, none)
def mX12_bestLine : mm_M := (yX12_bestLine, cX12_bestLine, 6, (some .int))
def mX12_bestPeg : mm_M := (yX12_bestPeg, cX12_bestPeg, 5, (some .int))
def mX12_layPegs : mm_M := (yX12_layPegs, cX12_layPegs, 4, none)
def mX12_unlike : mm_M := (yX12_unlike, cX12_unlike, 4, (some .int))
def mX12_tryDeals : mm_M := (yX12_tryDeals, cX12_tryDeals, 5, none)
def mX12_dealt : mm_M := (yX12_dealt, cX12_dealt, 3, (some .int))
def mX12_seen : mm_M := (yX12_seen, cX12_seen, 5, (some .int))
def mX12_isLay : mm_M := (yX12_isLay, cX12_isLay, 4, (some .boolean))
def mX12_lay : mm_M := (yX12_lay, cX12_lay, 5, (some .int))
def mX12_ask : mm_M := (yX12_ask, cX12_ask, 8, (some .int))
def mX12_tryClaims : mm_M := (yX12_tryClaims, cX12_tryClaims, 7, none)
def mX12_claimable : mm_M := (yX12_claimable, cX12_claimable, 3, (some .int))
def mX12_claim : mm_M := (yX12_claim, cX12_claim, 2, (some .int))
def mX12_gameOf : mm_M := (yX12_gameOf, cX12_gameOf, 7, (some .int))
def mX12_areTwo : mm_M := (yX12_areTwo, cX12_areTwo, 3, (some .boolean))
def mX12_game : mm_M := (yX12_game, cX12_game, 6, (some .int))
def mX12_isRest : mm_M := (yX12_isRest, cX12_isRest, 6, (some .boolean))
def mX12_rests : mm_M := (yX12_rests, cX12_rests, 6, (some .int))
def mX12_oddsFrom : mm_M := (yX12_oddsFrom, cX12_oddsFrom, 10, (some .int))
def mX12_odds : mm_M := (yX12_odds, cX12_odds, 4, (some .int))
def mX12_bagsOfAll : mm_M := (yX12_bagsOfAll, cX12_bagsOfAll, 3, (some .int))
def mX12_shares : mm_M := (yX12_shares, cX12_shares, 3, (some .int))
def mX12_rising : mm_M := (yX12_rising, cX12_rising, 4, (some .int))
def mX12_finest : mm_M := (yX12_finest, cX12_finest, 3, (some .int))
def mX12_busiest : mm_M := (yX12_busiest, cX12_busiest, 6, (some .int))
def mX12_topGun : mm_M := (yX12_topGun, cX12_topGun, 4, (some .int))
def mX12_gap : mm_M := (yX12_gap, cX12_gap, 3, (some .int))
def mX12_whole : mm_M := (yX12_whole, cX12_whole, 3, (some .int))
def mX12_most : mm_M := (yX12_most, cX12_most, 2, (some .int))
def mX12_ahead : mm_M := (yX12_ahead, cX12_ahead, 3, (some .int))
def mX12_image : mm_M := (yX12_image, cX12_image, 2, (some .int))
def mX12_back : mm_M := (yX12_back, cX12_back, 2, (some .int))
def mX12_count : mm_M := (yX12_count, cX12_count, 2, (some .int))
def mJ11_isValidCodePoint_9a6ad : mm_M := (yJ11_isValidCodePoint_9a6ad, cJ11_isValidCodePoint_9a6ad, 2, (some .boolean))
def mJ11_highSurrogate_5068e : mm_M := (yJ11_highSurrogate_5068e, cJ11_highSurrogate_5068e, 1, (some .char))
def mJ11_lowSurrogate_5068e : mm_M := (yJ11_lowSurrogate_5068e, cJ11_lowSurrogate_5068e, 1, (some .char))
def mJ6_bitCount_0f7a4 : mm_M := (yJ6_bitCount_0f7a4, cJ6_bitCount_0f7a4, 1, (some .int))
def mJ9_floorMod_7cf53 : mm_M := (yJ9_floorMod_7cf53, cJ9_floorMod_7cf53, 3, (some .int))
def mJ0_length_8abf5 : mm_M := (yJ0_length_8abf5, cJ0_length_8abf5, 1, (some .int))
def mJ0_indexOf_0f7a4 : mm_M := (yJ0_indexOf_0f7a4, cJ0_indexOf_0f7a4, 2, (some .int))
def mJ0_indexOf_7cf53 : mm_M := (yJ0_indexOf_7cf53, cJ0_indexOf_7cf53, 3, (some .int))
def mJ0_coder_7d493 : mm_M := (yJ0_coder_7d493, cJ0_coder_7d493, 1, (some .byte))
def mJ0_isLatin1_aae02 : mm_M := (yJ0_isLatin1_aae02, cJ0_isLatin1_aae02, 1, (some .boolean))
def mJ0_checkBoundsBeginEnd_23922 : mm_M := (yJ0_checkBoundsBeginEnd_23922, cJ0_checkBoundsBeginEnd_23922, 3, none)
def mJ1_canEncode_9a6ad : mm_M := (yJ1_canEncode_9a6ad, cJ1_canEncode_9a6ad, 1, (some .boolean))
def mJ1_indexOf_4cfef : mm_M := (yJ1_indexOf_4cfef, cJ1_indexOf_4cfef, 4, (some .int))
def mJ1_indexOfChar_4cfef : mm_M := (yJ1_indexOfChar_4cfef, cJ1_indexOfChar_4cfef, 6, (some .int))
def mJ2_getChar_3b067 : mm_M := (yJ2_getChar_3b067, cJ2_getChar_3b067, 2, (some .char))
def mJ2_length_9d52b : mm_M := (yJ2_length_9d52b, cJ2_length_9d52b, 1, (some .int))
def mJ2_indexOf_4cfef : mm_M := (yJ2_indexOf_4cfef, cJ2_indexOf_4cfef, 4, (some .int))
def mJ2_indexOfChar_4cfef : mm_M := (yJ2_indexOfChar_4cfef, cJ2_indexOfChar_4cfef, 4, (some .int))
def mJ2_indexOfCharUnsafe_4cfef : mm_M := (yJ2_indexOfCharUnsafe_4cfef, cJ2_indexOfCharUnsafe_4cfef, 5, (some .int))
def mJ2_indexOfSupplementary_4cfef : mm_M := (yJ2_indexOfSupplementary_4cfef, cJ2_indexOfSupplementary_4cfef, 7, (some .int))
def mJ2_checkBoundsBeginEnd_d044e : mm_M := (yJ2_checkBoundsBeginEnd_d044e, cJ2_checkBoundsBeginEnd_d044e, 3, none)
def mJ7_fill_53178 : mm_M := (yJ7_fill_53178, cJ7_fill_53178, 4, none)
def mJ7_copyOf_59c91 : mm_M := (yJ7_copyOf_59c91, cJ7_copyOf_59c91, 3, (some (.array .int)))
def mJ3_checkFromToIndex_8c36e : mm_M := (yJ3_checkFromToIndex_8c36e, cJ3_checkFromToIndex_8c36e, 4, (some .int))
def mM_max : mm_M := (Lib.Math.max.name, Lib.Math.max.code, 2, (some .int))
def mM_min : mm_M := (Lib.Math.min.name, Lib.Math.min.code, 2, (some .int))
def mM_abs : mm_M := (Lib.Math.abs.name, Lib.Math.abs.code, 1, (some .int))
def mM_maxL : mm_M := (Lib.MathLoose.max_long.x, Lib.MathLoose.max_long.code, 4, (some .long))
def mM_minL : mm_M := (Lib.MathLoose.min_long.x, Lib.MathLoose.min_long.code, 4, (some .long))
def mm_tabl0 : List (mm_M × Nat × Nat × Nat) := [(mX0_gather, 0, 1, 0), (mX0_weigh, 0, 1, 0), (mX0_mostBy, 0, 3, 0), (mX0_total, 0, 0, 0), (mX0_row, 0, 1, 0), (mX0_firstBest, 0, 3, 0), (mX1_isStep, 1, 1, 1), (mX1_play, 0, 3, 1), (mX1_isRest, 0, 2, 1), (mX2_copyFrom, 0, 1, 2), (mX2_over, 0, 2, 2), (mX2_overFrom, 0, 3, 2), (mX3_read, 0, 1, 3), (mX3_readClause, 0, 1, 3), (mX3_readRules, 0, 1, 3), (mX3_setRules, 0, 1, 3), (mX3_readThing, 0, 1, 3), (mX3_readGun, 0, 1, 3), (mX3_readItems, 0, 4, 3), (mX4_freshTrial, 0, 0, 4), (mX4_rises, 0, 3, 4), (mX4_rise, 0, 1, 4), (mX4_run, 0, 1, 4), (mX4_take, 0, 2, 4), (mX4_firstInReach, 0, 3, 4), (mX4_reach, 0, 4, 4), (mX4_comingOver, 0, 1, 4), (mX4_sortPegs, 0, 0, 4), (mX4_dealPegs, 0, 2, 4), (mX4_gunLeft, 0, 2, 4), (mX4_spread, 0, 0, 4), (mX4_stepAside, 0, 4, 4), (mX4_oddsOfTaking, 0, 2, 4), (mX4_partsTaking, 0, 4, 4), (mX4_partsOver, 0, 5, 4), (mX5_worth, 0, 1, 5), (mX5_joined, 1, 3, 5), (mX6_read, 0, 1, 6), (mX6_made, 0, 0, 6), (mX6_readClause, 0, 1, 6), (mX6_readWorth, 0, 1, 6), (mX6_readCondition, 0, 2, 6), (mX6_readTruth, 0, 2, 6), (mX6_readUnit, 0, 2, 6), (mX6_readComparison, 0, 2, 6), (mX6_readSum, 0, 2, 6), (mX6_readTerm, 0, 2, 6), (mX6_readAtom, 0, 2, 6), (mX6_isComparison, 1, 1, 6), (mX6_write, 0, 1, 6)]
def mm_tabl1 : List (mm_M × Nat × Nat × Nat) := [(mX7_keep, 0, 1, 7), (mX7_takeBack, 0, 1, 7), (mX7_writeLog, 0, 4, 7), (mX7_readLog, 0, 2, 7), (mX7_keepImage, 0, 1, 7), (mX7_bringImageBack, 0, 1, 7), (mX7_forget, 0, 0, 7), (mX8_isOut, 0, 1, 8), (mX8_bagsOfAll, 0, 0, 8), (mX8_copyFrom, 0, 1, 8), (mX8_save, 0, 2, 8), (mX8_load, 0, 2, 8), (mX9_add, 0, 4, 9), (mX9_fit, 0, 3, 9), (mX9_apart, 0, 4, 9), (mX10_add, 0, 5, 10), (mX10_put, 0, 2, 10), (mX10_look, 0, 0, 10), (mX10_pass, 0, 1, 10), (mX10_isAtDigit, 0, 0, 10), (mX10_readNumber, 0, 2, 10), (mX11_feed, 0, 5, 11), (mX11_end, 0, 1, 11), (mX11_fault, 0, 1, 11), (mX11_text, 0, 1, 11), (mX11_rule, 0, 1, 11), (mX11_gun, 0, 2, 11), (mX11_law, 0, 1, 11), (mX11_drives, 0, 1, 11), (mX11_line, 0, 2, 11), (mX11_move, 0, 2, 11), (mX11_practise, 0, 1, 11), (mX11_wind, 0, 1, 11), (mX11_putOut, 0, 1, 11), (mX11_lots, 0, 1, 11), (mX11_years, 0, 2, 11), (mX11_status, 0, 1, 11), (mX11_undo, 0, 0, 11), (mX11_log, 0, 2, 11), (mX11_taker, 0, 1, 11), (mX11_bestLine, 0, 2, 11), (mX11_bestPeg, 0, 2, 11), (mX11_dealt, 0, 1, 11), (mX11_seen, 0, 4, 11), (mX11_lay, 0, 2, 11), (mX11_ask, 0, 2, 11), (mX11_claim, 0, 1, 11), (mX11_game, 0, 5, 11), (mX11_rests, 0, 3, 11), (mX11_odds, 0, 2, 11)]
def mm_tabl2 : List (mm_M × Nat × Nat × Nat) := [(mX11_shares, 0, 2, 11), (mX11_rising, 0, 1, 11), (mX11_most, 0, 1, 11), (mX11_ahead, 0, 1, 11), (mX11_image, 0, 0, 11), (mX11_back, 0, 0, 11), (mX11_count, 0, 1, 11), (mX11_hasEstate, 0, 0, 11), (mX11_isThing, 0, 1, 11), (mX11_isGun, 0, 1, 11), (mX11_areTwoGuns, 0, 2, 11), (mX11_isColumn, 1, 1, 11), (mX11_isWind, 1, 1, 11), (mX11_isPair, 1, 1, 11), (mX11_refuse, 0, 1, 11), (mX11_settle, 0, 0, 11), (mX11_enact, 0, 0, 11), (mX11_overOrLost, 0, 1, 11), (mX11_logLength, 0, 0, 11), (mX11_driveOnce, 0, 0, 11), (mX11_drawAhead, 0, 0, 11), (mX11_draw, 0, 1, 11), (mX11_lastToRise, 0, 0, 11), (mX11_finest, 0, 0, 11), (mX11_busiest, 0, 0, 11), (mX11_firstGreatest, 0, 1, 11), (mX11_widestGap, 0, 0, 11), (mX11_valueOut, 0, 0, 11), (mX12_in, 1, 3, 12), (mX12_has, 1, 2, 12), (mX12_thrown, 0, 0, 12), (mX12_byteOf, 1, 6, 12), (mX12_feed, 0, 5, 12), (mX12_end, 0, 1, 12), (mX12_here, 0, 0, 12), (mX12_look, 0, 0, 12), (mX12_bad, 0, 0, 12), (mX12_isDigit, 1, 1, 12), (mX12_put, 0, 2, 12), (mX12_letterOf, 1, 1, 12), (mX12_opens, 0, 0, 12), (mX12_closes, 0, 1, 12), (mX12_plainNumber, 0, 0, 12), (mX12_atom, 0, 0, 12), (mX12_term, 0, 0, 12), (mX12_sum, 0, 0, 12), (mX12_isSign, 1, 1, 12), (mX12_compare, 0, 0, 12), (mX12_unit, 0, 0, 12), (mX12_goOnAnd, 0, 0, 12)]
def mm_tabl3 : List (mm_M × Nat × Nat × Nat) := [(mX12_goOnOr, 0, 0, 12), (mX12_condition, 0, 0, 12), (mX12_clause, 0, 0, 12), (mX12_open, 0, 1, 12), (mX12_atEnd, 0, 0, 12), (mX12_readLaw, 0, 1, 12), (mX12_bounded, 1, 1, 12), (mX12_worked, 1, 3, 12), (mX12_workOut, 0, 3, 12), (mX12_worthOf, 0, 1, 12), (mX12_number, 0, 2, 12), (mX12_itemOf, 1, 2, 12), (mX12_highest, 1, 2, 12), (mX12_usual, 1, 2, 12), (mX12_items, 0, 4, 12), (mX12_readEstate, 0, 0, 12), (mX12_fault, 0, 1, 12), (mX12_takeEstate, 0, 0, 12), (mX12_text, 0, 1, 12), (mX12_of, 0, 2, 12), (mX12_isThing, 0, 1, 12), (mX12_isGun, 0, 1, 12), (mX12_isColumn, 1, 1, 12), (mX12_isWind, 1, 1, 12), (mX12_isOut, 0, 1, 12), (mX12_flies, 0, 3, 12), (mX12_columnOf, 1, 1, 12), (mX12_overNow, 0, 1, 12), (mX12_risesAt, 0, 2, 12), (mX12_reachOf, 0, 4, 12), (mX12_takes, 0, 2, 12), (mX12_layDrive, 0, 0, 12), (mX12_rule, 0, 1, 12), (mX12_thing, 0, 2, 12), (mX12_gun, 0, 2, 12), (mX12_law, 0, 1, 12), (mX12_keep, 0, 0, 12), (mX12_isRefused, 0, 1, 12), (mX12_passDrive, 0, 0, 12), (mX12_areDrives, 0, 1, 12), (mX12_drives, 0, 1, 12), (mX12_line, 0, 2, 12), (mX12_move, 0, 2, 12), (mX12_practise, 0, 1, 12), (mX12_wind, 0, 1, 12), (mX12_putOut, 0, 1, 12), (mX12_lots, 0, 1, 12), (mX12_draw, 0, 1, 12), (mX12_drawDrive, 0, 0, 12), (mX12_years, 0, 2, 12)]
def mm_tabl4 : List (mm_M × Nat × Nat × Nat) := [(mX12_status, 0, 1, 12), (mX12_undo, 0, 0, 12), (mX12_log, 0, 2, 12), (mX12_taker, 0, 1, 12), (mX12_tryRow, 0, 3, 12), (mX12_bestLine, 0, 2, 12), (mX12_bestPeg, 0, 2, 12), (mX12_layPegs, 0, 0, 12), (mX12_unlike, 0, 0, 12), (mX12_tryDeals, 0, 3, 12), (mX12_dealt, 0, 1, 12), (mX12_seen, 0, 4, 12), (mX12_isLay, 0, 2, 12), (mX12_lay, 0, 2, 12), (mX12_ask, 0, 2, 12), (mX12_tryClaims, 0, 4, 12), (mX12_claimable, 0, 0, 12), (mX12_claim, 0, 1, 12), (mX12_gameOf, 0, 4, 12), (mX12_areTwo, 0, 2, 12), (mX12_game, 0, 5, 12), (mX12_isRest, 0, 4, 12), (mX12_rests, 0, 3, 12), (mX12_oddsFrom, 0, 4, 12), (mX12_odds, 0, 2, 12), (mX12_bagsOfAll, 0, 0, 12), (mX12_shares, 0, 2, 12), (mX12_rising, 0, 1, 12), (mX12_finest, 0, 0, 12), (mX12_busiest, 0, 0, 12), (mX12_topGun, 0, 1, 12), (mX12_gap, 0, 0, 12), (mX12_whole, 0, 0, 12), (mX12_most, 0, 1, 12), (mX12_ahead, 0, 1, 12), (mX12_image, 0, 0, 12), (mX12_back, 0, 0, 12), (mX12_count, 0, 1, 12), (mJ11_isValidCodePoint_9a6ad, 1, 1, 0), (mJ11_highSurrogate_5068e, 1, 1, 0), (mJ11_lowSurrogate_5068e, 1, 1, 0), (mJ6_bitCount_0f7a4, 1, 1, 0), (mJ9_floorMod_7cf53, 1, 2, 0), (mJ0_length_8abf5, 5, 0, 0), (mJ0_indexOf_0f7a4, 5, 1, 0), (mJ0_indexOf_7cf53, 5, 2, 0), (mJ0_coder_7d493, 5, 0, 0), (mJ0_isLatin1_aae02, 5, 0, 0), (mJ0_checkBoundsBeginEnd_23922, 1, 3, 0), (mJ1_canEncode_9a6ad, 1, 1, 0)]
def mm_tabl5 : List (mm_M × Nat × Nat × Nat) := [(mJ1_indexOf_4cfef, 1, 4, 0), (mJ1_indexOfChar_4cfef, 1, 4, 0), (mJ2_getChar_3b067, 1, 2, 0), (mJ2_length_9d52b, 1, 1, 0), (mJ2_indexOf_4cfef, 1, 4, 0), (mJ2_indexOfChar_4cfef, 1, 4, 0), (mJ2_indexOfCharUnsafe_4cfef, 1, 4, 0), (mJ2_indexOfSupplementary_4cfef, 1, 4, 0), (mJ2_checkBoundsBeginEnd_d044e, 1, 3, 0), (mJ7_fill_53178, 1, 2, 0), (mJ7_copyOf_59c91, 1, 2, 0), (mJ3_checkFromToIndex_8c36e, 1, 4, 0), (mM_max, 2, 2, 0), (mM_min, 3, 2, 0), (mM_abs, 4, 1, 0), (mM_maxL, 1, 2, 0), (mM_minL, 1, 2, 0)]
def mm_tab (j : Nat) : Option (mm_M × Nat × Nat × Nat) := (([mm_tabl0, mm_tabl1, mm_tabl2, mm_tabl3, mm_tabl4, mm_tabl5] : List (List (mm_M × Nat × Nat × Nat)))[j / 50]?.getD [])[j % 50]?
theorem tab_0 : mm_tab 0 = some (mX0_gather, 0, 1, 0) := rfl
theorem tab_1 : mm_tab 1 = some (mX0_weigh, 0, 1, 0) := rfl
theorem tab_2 : mm_tab 2 = some (mX0_mostBy, 0, 3, 0) := rfl
theorem tab_3 : mm_tab 3 = some (mX0_total, 0, 0, 0) := rfl
theorem tab_4 : mm_tab 4 = some (mX0_row, 0, 1, 0) := rfl
theorem tab_5 : mm_tab 5 = some (mX0_firstBest, 0, 3, 0) := rfl
theorem tab_6 : mm_tab 6 = some (mX1_isStep, 1, 1, 1) := rfl
theorem tab_7 : mm_tab 7 = some (mX1_play, 0, 3, 1) := rfl
theorem tab_8 : mm_tab 8 = some (mX1_isRest, 0, 2, 1) := rfl
theorem tab_9 : mm_tab 9 = some (mX2_copyFrom, 0, 1, 2) := rfl
theorem tab_10 : mm_tab 10 = some (mX2_over, 0, 2, 2) := rfl
theorem tab_11 : mm_tab 11 = some (mX2_overFrom, 0, 3, 2) := rfl
theorem tab_12 : mm_tab 12 = some (mX3_read, 0, 1, 3) := rfl
theorem tab_13 : mm_tab 13 = some (mX3_readClause, 0, 1, 3) := rfl
theorem tab_14 : mm_tab 14 = some (mX3_readRules, 0, 1, 3) := rfl
theorem tab_15 : mm_tab 15 = some (mX3_setRules, 0, 1, 3) := rfl
theorem tab_16 : mm_tab 16 = some (mX3_readThing, 0, 1, 3) := rfl
theorem tab_17 : mm_tab 17 = some (mX3_readGun, 0, 1, 3) := rfl
theorem tab_18 : mm_tab 18 = some (mX3_readItems, 0, 4, 3) := rfl
theorem tab_19 : mm_tab 19 = some (mX4_freshTrial, 0, 0, 4) := rfl
theorem tab_20 : mm_tab 20 = some (mX4_rises, 0, 3, 4) := rfl
theorem tab_21 : mm_tab 21 = some (mX4_rise, 0, 1, 4) := rfl
theorem tab_22 : mm_tab 22 = some (mX4_run, 0, 1, 4) := rfl
theorem tab_23 : mm_tab 23 = some (mX4_take, 0, 2, 4) := rfl
theorem tab_24 : mm_tab 24 = some (mX4_firstInReach, 0, 3, 4) := rfl
theorem tab_25 : mm_tab 25 = some (mX4_reach, 0, 4, 4) := rfl
theorem tab_26 : mm_tab 26 = some (mX4_comingOver, 0, 1, 4) := rfl
theorem tab_27 : mm_tab 27 = some (mX4_sortPegs, 0, 0, 4) := rfl
theorem tab_28 : mm_tab 28 = some (mX4_dealPegs, 0, 2, 4) := rfl
theorem tab_29 : mm_tab 29 = some (mX4_gunLeft, 0, 2, 4) := rfl
theorem tab_30 : mm_tab 30 = some (mX4_spread, 0, 0, 4) := rfl
theorem tab_31 : mm_tab 31 = some (mX4_stepAside, 0, 4, 4) := rfl
theorem tab_32 : mm_tab 32 = some (mX4_oddsOfTaking, 0, 2, 4) := rfl
theorem tab_33 : mm_tab 33 = some (mX4_partsTaking, 0, 4, 4) := rfl
theorem tab_34 : mm_tab 34 = some (mX4_partsOver, 0, 5, 4) := rfl
theorem tab_35 : mm_tab 35 = some (mX5_worth, 0, 1, 5) := rfl
theorem tab_36 : mm_tab 36 = some (mX5_joined, 1, 3, 5) := rfl
theorem tab_37 : mm_tab 37 = some (mX6_read, 0, 1, 6) := rfl
theorem tab_38 : mm_tab 38 = some (mX6_made, 0, 0, 6) := rfl
theorem tab_39 : mm_tab 39 = some (mX6_readClause, 0, 1, 6) := rfl
theorem tab_40 : mm_tab 40 = some (mX6_readWorth, 0, 1, 6) := rfl
theorem tab_41 : mm_tab 41 = some (mX6_readCondition, 0, 2, 6) := rfl
theorem tab_42 : mm_tab 42 = some (mX6_readTruth, 0, 2, 6) := rfl
theorem tab_43 : mm_tab 43 = some (mX6_readUnit, 0, 2, 6) := rfl
theorem tab_44 : mm_tab 44 = some (mX6_readComparison, 0, 2, 6) := rfl
theorem tab_45 : mm_tab 45 = some (mX6_readSum, 0, 2, 6) := rfl
theorem tab_46 : mm_tab 46 = some (mX6_readTerm, 0, 2, 6) := rfl
theorem tab_47 : mm_tab 47 = some (mX6_readAtom, 0, 2, 6) := rfl
theorem tab_48 : mm_tab 48 = some (mX6_isComparison, 1, 1, 6) := rfl
theorem tab_49 : mm_tab 49 = some (mX6_write, 0, 1, 6) := rfl
theorem tab_50 : mm_tab 50 = some (mX7_keep, 0, 1, 7) := rfl
theorem tab_51 : mm_tab 51 = some (mX7_takeBack, 0, 1, 7) := rfl
theorem tab_52 : mm_tab 52 = some (mX7_writeLog, 0, 4, 7) := rfl
theorem tab_53 : mm_tab 53 = some (mX7_readLog, 0, 2, 7) := rfl
theorem tab_54 : mm_tab 54 = some (mX7_keepImage, 0, 1, 7) := rfl
theorem tab_55 : mm_tab 55 = some (mX7_bringImageBack, 0, 1, 7) := rfl
theorem tab_56 : mm_tab 56 = some (mX7_forget, 0, 0, 7) := rfl
theorem tab_57 : mm_tab 57 = some (mX8_isOut, 0, 1, 8) := rfl
theorem tab_58 : mm_tab 58 = some (mX8_bagsOfAll, 0, 0, 8) := rfl
theorem tab_59 : mm_tab 59 = some (mX8_copyFrom, 0, 1, 8) := rfl
theorem tab_60 : mm_tab 60 = some (mX8_save, 0, 2, 8) := rfl
theorem tab_61 : mm_tab 61 = some (mX8_load, 0, 2, 8) := rfl
theorem tab_62 : mm_tab 62 = some (mX9_add, 0, 4, 9) := rfl
theorem tab_63 : mm_tab 63 = some (mX9_fit, 0, 3, 9) := rfl
theorem tab_64 : mm_tab 64 = some (mX9_apart, 0, 4, 9) := rfl
theorem tab_65 : mm_tab 65 = some (mX10_add, 0, 5, 10) := rfl
theorem tab_66 : mm_tab 66 = some (mX10_put, 0, 2, 10) := rfl
theorem tab_67 : mm_tab 67 = some (mX10_look, 0, 0, 10) := rfl
theorem tab_68 : mm_tab 68 = some (mX10_pass, 0, 1, 10) := rfl
theorem tab_69 : mm_tab 69 = some (mX10_isAtDigit, 0, 0, 10) := rfl
theorem tab_70 : mm_tab 70 = some (mX10_readNumber, 0, 2, 10) := rfl
theorem tab_71 : mm_tab 71 = some (mX11_feed, 0, 5, 11) := rfl
theorem tab_72 : mm_tab 72 = some (mX11_end, 0, 1, 11) := rfl
theorem tab_73 : mm_tab 73 = some (mX11_fault, 0, 1, 11) := rfl
theorem tab_74 : mm_tab 74 = some (mX11_text, 0, 1, 11) := rfl
theorem tab_75 : mm_tab 75 = some (mX11_rule, 0, 1, 11) := rfl
theorem tab_76 : mm_tab 76 = some (mX11_gun, 0, 2, 11) := rfl
theorem tab_77 : mm_tab 77 = some (mX11_law, 0, 1, 11) := rfl
theorem tab_78 : mm_tab 78 = some (mX11_drives, 0, 1, 11) := rfl
theorem tab_79 : mm_tab 79 = some (mX11_line, 0, 2, 11) := rfl
theorem tab_80 : mm_tab 80 = some (mX11_move, 0, 2, 11) := rfl
theorem tab_81 : mm_tab 81 = some (mX11_practise, 0, 1, 11) := rfl
theorem tab_82 : mm_tab 82 = some (mX11_wind, 0, 1, 11) := rfl
theorem tab_83 : mm_tab 83 = some (mX11_putOut, 0, 1, 11) := rfl
theorem tab_84 : mm_tab 84 = some (mX11_lots, 0, 1, 11) := rfl
theorem tab_85 : mm_tab 85 = some (mX11_years, 0, 2, 11) := rfl
theorem tab_86 : mm_tab 86 = some (mX11_status, 0, 1, 11) := rfl
theorem tab_87 : mm_tab 87 = some (mX11_undo, 0, 0, 11) := rfl
theorem tab_88 : mm_tab 88 = some (mX11_log, 0, 2, 11) := rfl
theorem tab_89 : mm_tab 89 = some (mX11_taker, 0, 1, 11) := rfl
theorem tab_90 : mm_tab 90 = some (mX11_bestLine, 0, 2, 11) := rfl
theorem tab_91 : mm_tab 91 = some (mX11_bestPeg, 0, 2, 11) := rfl
theorem tab_92 : mm_tab 92 = some (mX11_dealt, 0, 1, 11) := rfl
theorem tab_93 : mm_tab 93 = some (mX11_seen, 0, 4, 11) := rfl
theorem tab_94 : mm_tab 94 = some (mX11_lay, 0, 2, 11) := rfl
theorem tab_95 : mm_tab 95 = some (mX11_ask, 0, 2, 11) := rfl
theorem tab_96 : mm_tab 96 = some (mX11_claim, 0, 1, 11) := rfl
theorem tab_97 : mm_tab 97 = some (mX11_game, 0, 5, 11) := rfl
theorem tab_98 : mm_tab 98 = some (mX11_rests, 0, 3, 11) := rfl
theorem tab_99 : mm_tab 99 = some (mX11_odds, 0, 2, 11) := rfl
theorem tab_100 : mm_tab 100 = some (mX11_shares, 0, 2, 11) := rfl
theorem tab_101 : mm_tab 101 = some (mX11_rising, 0, 1, 11) := rfl
theorem tab_102 : mm_tab 102 = some (mX11_most, 0, 1, 11) := rfl
theorem tab_103 : mm_tab 103 = some (mX11_ahead, 0, 1, 11) := rfl
theorem tab_104 : mm_tab 104 = some (mX11_image, 0, 0, 11) := rfl
theorem tab_105 : mm_tab 105 = some (mX11_back, 0, 0, 11) := rfl
theorem tab_106 : mm_tab 106 = some (mX11_count, 0, 1, 11) := rfl
theorem tab_107 : mm_tab 107 = some (mX11_hasEstate, 0, 0, 11) := rfl
theorem tab_108 : mm_tab 108 = some (mX11_isThing, 0, 1, 11) := rfl
theorem tab_109 : mm_tab 109 = some (mX11_isGun, 0, 1, 11) := rfl
theorem tab_110 : mm_tab 110 = some (mX11_areTwoGuns, 0, 2, 11) := rfl
theorem tab_111 : mm_tab 111 = some (mX11_isColumn, 1, 1, 11) := rfl
theorem tab_112 : mm_tab 112 = some (mX11_isWind, 1, 1, 11) := rfl
theorem tab_113 : mm_tab 113 = some (mX11_isPair, 1, 1, 11) := rfl
theorem tab_114 : mm_tab 114 = some (mX11_refuse, 0, 1, 11) := rfl
theorem tab_115 : mm_tab 115 = some (mX11_settle, 0, 0, 11) := rfl
theorem tab_116 : mm_tab 116 = some (mX11_enact, 0, 0, 11) := rfl
theorem tab_117 : mm_tab 117 = some (mX11_overOrLost, 0, 1, 11) := rfl
theorem tab_118 : mm_tab 118 = some (mX11_logLength, 0, 0, 11) := rfl
theorem tab_119 : mm_tab 119 = some (mX11_driveOnce, 0, 0, 11) := rfl
theorem tab_120 : mm_tab 120 = some (mX11_drawAhead, 0, 0, 11) := rfl
theorem tab_121 : mm_tab 121 = some (mX11_draw, 0, 1, 11) := rfl
theorem tab_122 : mm_tab 122 = some (mX11_lastToRise, 0, 0, 11) := rfl
theorem tab_123 : mm_tab 123 = some (mX11_finest, 0, 0, 11) := rfl
theorem tab_124 : mm_tab 124 = some (mX11_busiest, 0, 0, 11) := rfl
theorem tab_125 : mm_tab 125 = some (mX11_firstGreatest, 0, 1, 11) := rfl
theorem tab_126 : mm_tab 126 = some (mX11_widestGap, 0, 0, 11) := rfl
theorem tab_127 : mm_tab 127 = some (mX11_valueOut, 0, 0, 11) := rfl
theorem tab_128 : mm_tab 128 = some (mX12_in, 1, 3, 12) := rfl
theorem tab_129 : mm_tab 129 = some (mX12_has, 1, 2, 12) := rfl
theorem tab_130 : mm_tab 130 = some (mX12_thrown, 0, 0, 12) := rfl
theorem tab_131 : mm_tab 131 = some (mX12_byteOf, 1, 6, 12) := rfl
theorem tab_132 : mm_tab 132 = some (mX12_feed, 0, 5, 12) := rfl
theorem tab_133 : mm_tab 133 = some (mX12_end, 0, 1, 12) := rfl
theorem tab_134 : mm_tab 134 = some (mX12_here, 0, 0, 12) := rfl
theorem tab_135 : mm_tab 135 = some (mX12_look, 0, 0, 12) := rfl
theorem tab_136 : mm_tab 136 = some (mX12_bad, 0, 0, 12) := rfl
theorem tab_137 : mm_tab 137 = some (mX12_isDigit, 1, 1, 12) := rfl
theorem tab_138 : mm_tab 138 = some (mX12_put, 0, 2, 12) := rfl
theorem tab_139 : mm_tab 139 = some (mX12_letterOf, 1, 1, 12) := rfl
theorem tab_140 : mm_tab 140 = some (mX12_opens, 0, 0, 12) := rfl
theorem tab_141 : mm_tab 141 = some (mX12_closes, 0, 1, 12) := rfl
theorem tab_142 : mm_tab 142 = some (mX12_plainNumber, 0, 0, 12) := rfl
theorem tab_143 : mm_tab 143 = some (mX12_atom, 0, 0, 12) := rfl
theorem tab_144 : mm_tab 144 = some (mX12_term, 0, 0, 12) := rfl
theorem tab_145 : mm_tab 145 = some (mX12_sum, 0, 0, 12) := rfl
theorem tab_146 : mm_tab 146 = some (mX12_isSign, 1, 1, 12) := rfl
theorem tab_147 : mm_tab 147 = some (mX12_compare, 0, 0, 12) := rfl
theorem tab_148 : mm_tab 148 = some (mX12_unit, 0, 0, 12) := rfl
theorem tab_149 : mm_tab 149 = some (mX12_goOnAnd, 0, 0, 12) := rfl
theorem tab_150 : mm_tab 150 = some (mX12_goOnOr, 0, 0, 12) := rfl
theorem tab_151 : mm_tab 151 = some (mX12_condition, 0, 0, 12) := rfl
theorem tab_152 : mm_tab 152 = some (mX12_clause, 0, 0, 12) := rfl
theorem tab_153 : mm_tab 153 = some (mX12_open, 0, 1, 12) := rfl
theorem tab_154 : mm_tab 154 = some (mX12_atEnd, 0, 0, 12) := rfl
theorem tab_155 : mm_tab 155 = some (mX12_readLaw, 0, 1, 12) := rfl
theorem tab_156 : mm_tab 156 = some (mX12_bounded, 1, 1, 12) := rfl
theorem tab_157 : mm_tab 157 = some (mX12_worked, 1, 3, 12) := rfl
theorem tab_158 : mm_tab 158 = some (mX12_workOut, 0, 3, 12) := rfl
theorem tab_159 : mm_tab 159 = some (mX12_worthOf, 0, 1, 12) := rfl
theorem tab_160 : mm_tab 160 = some (mX12_number, 0, 2, 12) := rfl
theorem tab_161 : mm_tab 161 = some (mX12_itemOf, 1, 2, 12) := rfl
theorem tab_162 : mm_tab 162 = some (mX12_highest, 1, 2, 12) := rfl
theorem tab_163 : mm_tab 163 = some (mX12_usual, 1, 2, 12) := rfl
theorem tab_164 : mm_tab 164 = some (mX12_items, 0, 4, 12) := rfl
theorem tab_165 : mm_tab 165 = some (mX12_readEstate, 0, 0, 12) := rfl
theorem tab_166 : mm_tab 166 = some (mX12_fault, 0, 1, 12) := rfl
theorem tab_167 : mm_tab 167 = some (mX12_takeEstate, 0, 0, 12) := rfl
theorem tab_168 : mm_tab 168 = some (mX12_text, 0, 1, 12) := rfl
theorem tab_169 : mm_tab 169 = some (mX12_of, 0, 2, 12) := rfl
theorem tab_170 : mm_tab 170 = some (mX12_isThing, 0, 1, 12) := rfl
theorem tab_171 : mm_tab 171 = some (mX12_isGun, 0, 1, 12) := rfl
theorem tab_172 : mm_tab 172 = some (mX12_isColumn, 1, 1, 12) := rfl
theorem tab_173 : mm_tab 173 = some (mX12_isWind, 1, 1, 12) := rfl
theorem tab_174 : mm_tab 174 = some (mX12_isOut, 0, 1, 12) := rfl
theorem tab_175 : mm_tab 175 = some (mX12_flies, 0, 3, 12) := rfl
theorem tab_176 : mm_tab 176 = some (mX12_columnOf, 1, 1, 12) := rfl
theorem tab_177 : mm_tab 177 = some (mX12_overNow, 0, 1, 12) := rfl
theorem tab_178 : mm_tab 178 = some (mX12_risesAt, 0, 2, 12) := rfl
theorem tab_179 : mm_tab 179 = some (mX12_reachOf, 0, 4, 12) := rfl
theorem tab_180 : mm_tab 180 = some (mX12_takes, 0, 2, 12) := rfl
theorem tab_181 : mm_tab 181 = some (mX12_layDrive, 0, 0, 12) := rfl
theorem tab_182 : mm_tab 182 = some (mX12_rule, 0, 1, 12) := rfl
theorem tab_183 : mm_tab 183 = some (mX12_thing, 0, 2, 12) := rfl
theorem tab_184 : mm_tab 184 = some (mX12_gun, 0, 2, 12) := rfl
theorem tab_185 : mm_tab 185 = some (mX12_law, 0, 1, 12) := rfl
theorem tab_186 : mm_tab 186 = some (mX12_keep, 0, 0, 12) := rfl
theorem tab_187 : mm_tab 187 = some (mX12_isRefused, 0, 1, 12) := rfl
theorem tab_188 : mm_tab 188 = some (mX12_passDrive, 0, 0, 12) := rfl
theorem tab_189 : mm_tab 189 = some (mX12_areDrives, 0, 1, 12) := rfl
theorem tab_190 : mm_tab 190 = some (mX12_drives, 0, 1, 12) := rfl
theorem tab_191 : mm_tab 191 = some (mX12_line, 0, 2, 12) := rfl
theorem tab_192 : mm_tab 192 = some (mX12_move, 0, 2, 12) := rfl
theorem tab_193 : mm_tab 193 = some (mX12_practise, 0, 1, 12) := rfl
theorem tab_194 : mm_tab 194 = some (mX12_wind, 0, 1, 12) := rfl
theorem tab_195 : mm_tab 195 = some (mX12_putOut, 0, 1, 12) := rfl
theorem tab_196 : mm_tab 196 = some (mX12_lots, 0, 1, 12) := rfl
theorem tab_197 : mm_tab 197 = some (mX12_draw, 0, 1, 12) := rfl
theorem tab_198 : mm_tab 198 = some (mX12_drawDrive, 0, 0, 12) := rfl
theorem tab_199 : mm_tab 199 = some (mX12_years, 0, 2, 12) := rfl
theorem tab_200 : mm_tab 200 = some (mX12_status, 0, 1, 12) := rfl
theorem tab_201 : mm_tab 201 = some (mX12_undo, 0, 0, 12) := rfl
theorem tab_202 : mm_tab 202 = some (mX12_log, 0, 2, 12) := rfl
theorem tab_203 : mm_tab 203 = some (mX12_taker, 0, 1, 12) := rfl
theorem tab_204 : mm_tab 204 = some (mX12_tryRow, 0, 3, 12) := rfl
theorem tab_205 : mm_tab 205 = some (mX12_bestLine, 0, 2, 12) := rfl
theorem tab_206 : mm_tab 206 = some (mX12_bestPeg, 0, 2, 12) := rfl
theorem tab_207 : mm_tab 207 = some (mX12_layPegs, 0, 0, 12) := rfl
theorem tab_208 : mm_tab 208 = some (mX12_unlike, 0, 0, 12) := rfl
theorem tab_209 : mm_tab 209 = some (mX12_tryDeals, 0, 3, 12) := rfl
theorem tab_210 : mm_tab 210 = some (mX12_dealt, 0, 1, 12) := rfl
theorem tab_211 : mm_tab 211 = some (mX12_seen, 0, 4, 12) := rfl
theorem tab_212 : mm_tab 212 = some (mX12_isLay, 0, 2, 12) := rfl
theorem tab_213 : mm_tab 213 = some (mX12_lay, 0, 2, 12) := rfl
theorem tab_214 : mm_tab 214 = some (mX12_ask, 0, 2, 12) := rfl
theorem tab_215 : mm_tab 215 = some (mX12_tryClaims, 0, 4, 12) := rfl
theorem tab_216 : mm_tab 216 = some (mX12_claimable, 0, 0, 12) := rfl
theorem tab_217 : mm_tab 217 = some (mX12_claim, 0, 1, 12) := rfl
theorem tab_218 : mm_tab 218 = some (mX12_gameOf, 0, 4, 12) := rfl
theorem tab_219 : mm_tab 219 = some (mX12_areTwo, 0, 2, 12) := rfl
theorem tab_220 : mm_tab 220 = some (mX12_game, 0, 5, 12) := rfl
theorem tab_221 : mm_tab 221 = some (mX12_isRest, 0, 4, 12) := rfl
theorem tab_222 : mm_tab 222 = some (mX12_rests, 0, 3, 12) := rfl
theorem tab_223 : mm_tab 223 = some (mX12_oddsFrom, 0, 4, 12) := rfl
theorem tab_224 : mm_tab 224 = some (mX12_odds, 0, 2, 12) := rfl
theorem tab_225 : mm_tab 225 = some (mX12_bagsOfAll, 0, 0, 12) := rfl
theorem tab_226 : mm_tab 226 = some (mX12_shares, 0, 2, 12) := rfl
theorem tab_227 : mm_tab 227 = some (mX12_rising, 0, 1, 12) := rfl
theorem tab_228 : mm_tab 228 = some (mX12_finest, 0, 0, 12) := rfl
theorem tab_229 : mm_tab 229 = some (mX12_busiest, 0, 0, 12) := rfl
theorem tab_230 : mm_tab 230 = some (mX12_topGun, 0, 1, 12) := rfl
theorem tab_231 : mm_tab 231 = some (mX12_gap, 0, 0, 12) := rfl
theorem tab_232 : mm_tab 232 = some (mX12_whole, 0, 0, 12) := rfl
theorem tab_233 : mm_tab 233 = some (mX12_most, 0, 1, 12) := rfl
theorem tab_234 : mm_tab 234 = some (mX12_ahead, 0, 1, 12) := rfl
theorem tab_235 : mm_tab 235 = some (mX12_image, 0, 0, 12) := rfl
theorem tab_236 : mm_tab 236 = some (mX12_back, 0, 0, 12) := rfl
theorem tab_237 : mm_tab 237 = some (mX12_count, 0, 1, 12) := rfl
theorem tab_238 : mm_tab 238 = some (mJ11_isValidCodePoint_9a6ad, 1, 1, 0) := rfl
theorem tab_239 : mm_tab 239 = some (mJ11_highSurrogate_5068e, 1, 1, 0) := rfl
theorem tab_240 : mm_tab 240 = some (mJ11_lowSurrogate_5068e, 1, 1, 0) := rfl
theorem tab_241 : mm_tab 241 = some (mJ6_bitCount_0f7a4, 1, 1, 0) := rfl
theorem tab_242 : mm_tab 242 = some (mJ9_floorMod_7cf53, 1, 2, 0) := rfl
theorem tab_243 : mm_tab 243 = some (mJ0_length_8abf5, 5, 0, 0) := rfl
theorem tab_244 : mm_tab 244 = some (mJ0_indexOf_0f7a4, 5, 1, 0) := rfl
theorem tab_245 : mm_tab 245 = some (mJ0_indexOf_7cf53, 5, 2, 0) := rfl
theorem tab_246 : mm_tab 246 = some (mJ0_coder_7d493, 5, 0, 0) := rfl
theorem tab_247 : mm_tab 247 = some (mJ0_isLatin1_aae02, 5, 0, 0) := rfl
theorem tab_248 : mm_tab 248 = some (mJ0_checkBoundsBeginEnd_23922, 1, 3, 0) := rfl
theorem tab_249 : mm_tab 249 = some (mJ1_canEncode_9a6ad, 1, 1, 0) := rfl
theorem tab_250 : mm_tab 250 = some (mJ1_indexOf_4cfef, 1, 4, 0) := rfl
theorem tab_251 : mm_tab 251 = some (mJ1_indexOfChar_4cfef, 1, 4, 0) := rfl
theorem tab_252 : mm_tab 252 = some (mJ2_getChar_3b067, 1, 2, 0) := rfl
theorem tab_253 : mm_tab 253 = some (mJ2_length_9d52b, 1, 1, 0) := rfl
theorem tab_254 : mm_tab 254 = some (mJ2_indexOf_4cfef, 1, 4, 0) := rfl
theorem tab_255 : mm_tab 255 = some (mJ2_indexOfChar_4cfef, 1, 4, 0) := rfl
theorem tab_256 : mm_tab 256 = some (mJ2_indexOfCharUnsafe_4cfef, 1, 4, 0) := rfl
theorem tab_257 : mm_tab 257 = some (mJ2_indexOfSupplementary_4cfef, 1, 4, 0) := rfl
theorem tab_258 : mm_tab 258 = some (mJ2_checkBoundsBeginEnd_d044e, 1, 3, 0) := rfl
theorem tab_259 : mm_tab 259 = some (mJ7_fill_53178, 1, 2, 0) := rfl
theorem tab_260 : mm_tab 260 = some (mJ7_copyOf_59c91, 1, 2, 0) := rfl
theorem tab_261 : mm_tab 261 = some (mJ3_checkFromToIndex_8c36e, 1, 4, 0) := rfl
theorem tab_262 : mm_tab 262 = some (mM_max, 2, 2, 0) := rfl
theorem tab_263 : mm_tab 263 = some (mM_min, 3, 2, 0) := rfl
theorem tab_264 : mm_tab 264 = some (mM_abs, 4, 1, 0) := rfl
theorem tab_265 : mm_tab 265 = some (mM_maxL, 1, 2, 0) := rfl
theorem tab_266 : mm_tab 266 = some (mM_minL, 1, 2, 0) := rfl
def tbX0 : mm_T := (RX0, [(9, 0, 0, false), (15, 0, 1, true), (19, 0, 2, true), (22, 4, 1, true), (32, 4, 0, true), (36, 2, 0, false), (41, 8, 0, false), (50, 4, 10, false), (57, 2, 1, false)], [(28, 22), (46, 10), (53, 111), (60, 25), (64, 259), (70, 2), (74, 262), (79, 5)], [], [])
def tbX1 : mm_T := (RX1, [(9, 1, 0, true), (13, 1, 1, true), (22, 4, 2, true), (30, 4, 7, true)], [(16, 31), (26, 22)], [], [])
def tbX2 : mm_T := (RX2, [(9, 2, 0, false), (15, 2, 1, false), (18, 2, 2, true), (22, 2, 3, true), (25, 2, 4, true), (28, 2, 5, true), (31, 2, 6, true)], [(40, 11)], [], [])
def tbX3 : mm_T := (RX3, [(12, 3, 0, true), (21, 3, 1, true), (25, 3, 2, true), (29, 3, 3, false), (33, 10, 2, false), (39, 2, 0, false), (42, 2, 1, false), (45, 8, 4, false), (63, 8, 2, false), (66, 8, 3, false), (91, 8, 0, false), (94, 8, 1, false), (105, 2, 2, true), (108, 2, 3, true), (111, 2, 4, true), (114, 2, 5, true), (117, 2, 6, true), (128, 8, 6, true), (131, 8, 7, true)], [(51, 15), (55, 13), (59, 67), (69, 68), (73, 14), (76, 16), (79, 17), (87, 18), (140, 243), (145, 244), (149, 70)], [], [])
def tbX4 : mm_T := (RX4, [(12, 4, 0, true), (21, 4, 1, true), (25, 4, 2, true), (28, 4, 3, false), (32, 4, 4, false), (36, 4, 5, true), (40, 4, 6, true), (43, 4, 7, true), (46, 4, 8, true), (49, 4, 9, false), (52, 4, 10, false), (55, 4, 11, false), (58, 4, 12, true), (61, 4, 13, true), (68, 2, 2, true), (75, 2, 3, true), (78, 8, 2, false), (81, 8, 3, false), (84, 2, 0, false), (100, 8, 0, false), (115, 2, 5, true), (121, 2, 1, false), (128, 8, 6, true), (137, 8, 7, true), (143, 2, 6, true)], [(64, 59), (71, 57), (87, 20), (91, 21), (94, 259), (103, 10), (107, 24), (111, 23), (118, 111), (124, 25), (131, 264), (140, 262), (146, 35), (152, 263), (155, 19), (159, 29), (163, 33), (169, 34)], [(162, 1000000000)], [(167, 100)])
def tbX5 : mm_T := (RX5, [(9, 5, 1, true), (13, 5, 0, true)], [(16, 36)], [(22, 1000000), (25, -1000000)], [(20, 1000000), (23, -1000000)])
def tbX6 : mm_T := (RX6, [(11, 6, 0, true), (17, 6, 1, false), (21, 10, 2, false)], [(24, 68), (28, 39), (32, 67), (38, 260), (47, 45), (51, 48), (54, 49), (58, 41), (61, 40), (64, 42), (67, 43), (70, 44), (73, 46), (76, 47), (81, 244), (87, 70)], [], [])
def tbX7 : mm_T := (RX7, [(9, 7, 0, false), (13, 7, 1, false), (18, 7, 2, true), (22, 7, 3, true), (25, 7, 4, false), (29, 7, 5, true), (32, 7, 6, true)], [(35, 60), (39, 263), (45, 61), (48, 242)], [], [])
def tbX8 : mm_T := (RX8, [(9, 8, 0, false), (15, 8, 1, false), (18, 8, 2, false), (21, 8, 3, false), (24, 8, 4, false), (27, 8, 5, false), (30, 8, 6, true), (34, 8, 7, true), (37, 8, 8, true)], [], [], [])
def tbX9 : mm_T := (RX9, [(9, 9, 0, false), (15, 9, 1, true), (19, 9, 2, true), (22, 9, 3, true), (25, 9, 4, true)], [(29, 11), (35, 63), (39, 264)], [], [])
def tbX10 : mm_T := (RX10, [(11, 10, 0, true), (15, 10, 1, false), (19, 10, 2, false)], [(22, 66), (26, 67), (30, 69)], [], [])
def tbX11 : mm_T := (RX11, [(10, 11, 0, true), (19, 11, 1, true), (26, 11, 2, true), (33, 11, 3, true), (39, 11, 4, true), (43, 11, 5, false), (47, 11, 6, false), (50, 11, 7, false), (53, 11, 8, false), (57, 11, 9, true), (64, 11, 10, true), (71, 11, 11, true), (78, 11, 12, true), (85, 11, 13, true), (93, 10, 1, false), (101, 10, 2, false), (115, 4, 1, true), (119, 8, 0, false), (124, 8, 1, false), (127, 8, 2, false), (130, 8, 3, false), (144, 4, 0, true), (148, 2, 2, true), (153, 2, 3, true), (156, 2, 4, true), (159, 2, 5, true), (162, 2, 6, true), (175, 8, 6, true), (178, 8, 7, true), (181, 8, 8, true), (188, 4, 7, true), (191, 4, 8, true), (194, 4, 3, false), (201, 8, 5, false), (221, 8, 4, false), (231, 7, 0, false), (241, 4, 6, true), (251, 4, 11, false), (254, 2, 1, false), (263, 4, 2, true), (272, 9, 0, false), (322, 2, 0, false), (348, 4, 10, false), (362, 3, 0, true), (367, 3, 1, true), (385, 4, 9, false), (401, 4, 4, false), (404, 4, 5, true), (410, 4, 12, true)], [(89, 65), (96, 12), (100, 37), (104, 115), (108, 116), (111, 107), (133, 108), (165, 57), (168, 117), (172, 109), (184, 22), (198, 114), (204, 50), (207, 119), (210, 111), (213, 264), (218, 112), (224, 120), (227, 51), (234, 118), (237, 53), (244, 113), (247, 19), (257, 27), (260, 28), (266, 30), (269, 62), (275, 63), (279, 64), (283, 0), (287, 1), (291, 4), (294, 3), (297, 110), (301, 6), (305, 31), (309, 7), (313, 8), (316, 32), (319, 58), (325, 20), (329, 122), (332, 123), (335, 124), (338, 125), (342, 126), (345, 127), (351, 241), (356, 54), (359, 55), (363, 9), (370, 59), (372, 56), (375, 38), (379, 10), (382, 263), (388, 52), (391, 121), (398, 21), (407, 26), (413, 262)], [(304, -1000000)], [(394, 6364136223846793005), (396, 1442695040888963407)])
def tbX12 : mm_T := (RX12, [(9, 12, 1, true), (13, 12, 6, true), (16, 12, 7, true), (19, 12, 8, true), (22, 12, 9, true), (25, 12, 10, true), (28, 12, 11, true), (31, 12, 12, true), (34, 12, 15, true), (37, 12, 16, true), (40, 12, 17, true), (43, 12, 18, true), (46, 12, 19, true), (49, 12, 22, true), (52, 12, 23, true), (55, 12, 26, true), (58, 12, 27, true), (61, 12, 28, false), (65, 12, 29, false), (68, 12, 30, true), (71, 12, 31, true), (74, 12, 32, true), (77, 12, 33, true), (80, 12, 38, true), (83, 12, 43, true), (86, 12, 44, true), (89, 12, 45, true), (92, 12, 46, true), (95, 12, 47, true), (98, 12, 48, true), (102, 12, 50, true), (105, 12, 0, false), (112, 12, 2, false), (115, 12, 3, false), (122, 12, 4, false), (125, 12, 14, false), (128, 12, 5, false), (241, 12, 20, false), (244, 12, 21, false), (257, 12, 24, false), (260, 12, 25, false), (263, 12, 49, false), (266, 12, 39, false), (269, 12, 51, false), (276, 12, 13, false), (308, 12, 34, false), (311, 12, 35, false), (314, 12, 36, false), (317, 12, 37, false), (353, 12, 40, false), (367, 12, 41, false), (370, 12, 42, false)], [(108, 131), (118, 134), (131, 136), (134, 135), (137, 137), (141, 142), (144, 138), (148, 139), (152, 140), (155, 145), (158, 141), (162, 143), (165, 144), (168, 146), (171, 148), (174, 151), (177, 147), (180, 149), (183, 150), (186, 153), (189, 152), (192, 154), (199, 266), (205, 265), (208, 156), (212, 157), (216, 158), (220, 128), (224, 163), (228, 161), (231, 129), (235, 162), (238, 160), (247, 164), (251, 165), (254, 155), (273, 167), (279, 169), (282, 172), (285, 175), (288, 176), (291, 174), (294, 264), (297, 159), (300, 263), (302, 262), (304, 179), (320, 178), (323, 177), (326, 180), (329, 170), (332, 171), (335, 181), (338, 189), (341, 187), (344, 186), (347, 188), (350, 173), (361, 197), (364, 198), (373, 204), (377, 208), (380, 209), (384, 207), (387, 212), (390, 213), (393, 215), (397, 216), (400, 219), (404, 218), (407, 221), (413, 223), (417, 225), (420, 228), (423, 229), (426, 230), (429, 231), (432, 232), (435, 241)], [(403, -1000000), (416, 1000000000)], [(195, -1000000), (197, 1000000), (357, 6364136223846793005), (359, 1442695040888963407), (411, 100)])
def tbJ11 : mm_T := (RJ11, [], [], [(76, 56320), (110, 55232)], [])
def tbJ6 : mm_T := (RJ6, [], [], [(265, 1431655765), (266, 858993459), (267, 252645135)], [])
def tbJ9 : mm_T := (RJ9, [], [], [], [])
def tbJ0 : mm_T := (RJ0, [], [(335, 246), (492, 247), (505, 243), (633, 245), (637, 250), (640, 254), (1062, 261)], [], [])
def tbJ1 : mm_T := (RJ1, [], [(38, 263), (88, 249), (92, 262), (95, 251)], [], [])
def tbJ2 : mm_T := (RJ2, [], [(48, 253), (71, 252), (96, 258), (157, 239), (161, 240), (164, 238), (183, 263), (224, 262), (228, 255), (232, 257), (241, 248), (244, 256)], [(227, 65536)], [])
def tbJ10 : mm_T := (RJ10, [], [], [], [])
def tbJ7 : mm_T := (RJ7, [], [(304, 263)], [], [])
def tbJ3 : mm_T := (RJ3, [], [], [], [])
def mm_ch (c : Nat) : List Cond := match c with
  | 0 => k2_sels lw_privs
  | 1 => tables_1_1
  | 2 => tables_1_2
  | 3 => tables_1_3
  | 4 => tables_1_4
  | 5 => tables_1_5
  | 6 => tables_1_6
  | 7 => tables_1_7
  | _ => tables_1_8
theorem mm_ch_in {c : Nat} {w : Cond} (h : w ∈ mm_ch c) : w ∈ lw_tbl := by
  have h2 : w ∈ k2_sels lw_privs ++ (tables_1_1 ++ (tables_1_2 ++ (tables_1_3 ++ (tables_1_4 ++ (tables_1_5 ++ (tables_1_6 ++ (tables_1_7 ++ tables_1_8))))))) := by
    simp only [List.mem_append]
    unfold mm_ch at h
    split at h
    · exact Or.inl h
    · exact Or.inr (Or.inl h)
    · exact Or.inr (Or.inr (Or.inl h))
    · exact Or.inr (Or.inr (Or.inr (Or.inl h)))
    · exact Or.inr (Or.inr (Or.inr (Or.inr (Or.inl h))))
    · exact Or.inr (Or.inr (Or.inr (Or.inr (Or.inr (Or.inl h)))))
    · exact Or.inr (Or.inr (Or.inr (Or.inr (Or.inr (Or.inr (Or.inl h))))))
    · exact Or.inr (Or.inr (Or.inr (Or.inr (Or.inr (Or.inr (Or.inr (Or.inl h)))))))
    · exact Or.inr (Or.inr (Or.inr (Or.inr (Or.inr (Or.inr (Or.inr (Or.inr h)))))))
  exact h2
/-- the word stands at this place of the tables -/
def mm_has (p : Nat × Nat) (w : Cond) : Bool := decide ((mm_ch p.1)[p.2]? = some w) && goodWord w
theorem mm_has_in {p : Nat × Nat} {w : Cond} (h : mm_has p w = true) : w ∈ mm_gw := by
  rw [mm_has, Bool.and_eq_true, decide_eq_true_eq] at h
  exact List.mem_filter.mpr ⟨mm_ch_in (List.mem_of_getElem? h.1), h.2⟩
theorem mm_in {w : Cond} (c i : Nat) (h : (mm_ch c)[i]? = some w) (hg : goodWord w = true) : w ∈ mm_gw := List.mem_filter.mpr ⟨mm_ch_in (List.mem_of_getElem? h), hg⟩
def mm_okF (own : String) (q : Nat × Nat × Nat × Bool) : Prop := ∃ c, mm_cl[q.2.1]? = some c ∧ mm_okc c ∧ q.2.2.1 < c.2.2 ∧ q.2.2.1 < 100 ∧ (c.2.1 q.2.2.1).2.2.2 = q.2.2.2 ∧ Cond.fieldLink own q.1 c.1 (c.2.1 q.2.2.1).2.1 (c.2.1 q.2.2.1).2.2.1 ∈ mm_gw
def mm_okV (M' : mm_M) (ci : Nat) : Prop := Cond.instanceMethod M'.1 ∈ mm_gw ∧ Cond.selects M'.1.cls M'.1 M'.1 ∈ mm_gw ∧ ∃ c, mm_cl[ci]? = some c ∧ c.1 = M'.1.cls
def mm_okC (own : String) (q : Nat × Nat) : Prop := ∃ M' kind k ci, mm_tab q.2 = some (M', kind, k, ci) ∧ mm_okM M' k ∧ mm_lnk own q.1 M' ∧
    (kind = 0 → Cond.instanceMethod M'.1 ∈ mm_gw ∧ Cond.selects M'.1.cls M'.1 M'.1 ∈ mm_gw ∧ ∃ c, mm_cl[ci]? = some c ∧ c.1 = M'.1.cls) ∧ (kind = 1 → Cond.static M'.1 ∈ mm_gw) ∧ (kind = 5 → Cond.instanceMethod M'.1 ∈ mm_gw ∧ Cond.selects M'.1.cls M'.1 M'.1 ∈ mm_gw ∧ M'.1.cls = "java/lang/String") ∧
    (kind = 2 → Cond.methodLink own q.1 Lib.Math.max.name ∈ mm_gw ∧ Cond.static Lib.Math.max.name ∈ mm_gw ∧ Cond.initialized "java/lang/Math" ∈ mm_gw ∧ Cond.code Lib.Math.max.name Lib.Math.max.code 2 (some .int) ∈ mm_gw) ∧
    (kind = 3 → Cond.methodLink own q.1 Lib.Math.min.name ∈ mm_gw ∧ Cond.static Lib.Math.min.name ∈ mm_gw ∧ Cond.initialized "java/lang/Math" ∈ mm_gw ∧ Cond.code Lib.Math.min.name Lib.Math.min.code 2 (some .int) ∈ mm_gw) ∧
    (kind = 4 → Cond.methodLink own q.1 Lib.Math.abs.name ∈ mm_gw ∧ Cond.static Lib.Math.abs.name ∈ mm_gw ∧ Cond.initialized "java/lang/Math" ∈ mm_gw ∧ Cond.code Lib.Math.abs.name Lib.Math.abs.code 1 (some .int) ∈ mm_gw)
theorem mm_okC_V {own : String} {j N k ci : Nat} {M' : mm_M} (e : mm_tab N = some (M', 0, k, ci)) (hm : mm_okM M' k) (hl : mm_lnk own j M') (hv : mm_okV M' ci) : mm_okC own (j, N) :=
  ⟨M', 0, k, ci, e, hm, hl, fun _ => hv, (fun z => nomatch z), (fun z => nomatch z), (fun z => nomatch z), (fun z => nomatch z), (fun z => nomatch z)⟩
theorem mm_okC_X {own : String} {j N k ci : Nat} {M' : mm_M} (e : mm_tab N = some (M', 5, k, ci)) (hm : mm_okM M' k) (hl : mm_lnk own j M') (hv : Cond.instanceMethod M'.1 ∈ mm_gw ∧ Cond.selects M'.1.cls M'.1 M'.1 ∈ mm_gw ∧ M'.1.cls = "java/lang/String") : mm_okC own (j, N) :=
  ⟨M', 5, k, ci, e, hm, hl, (fun z => nomatch z), (fun z => nomatch z), fun _ => hv, (fun z => nomatch z), (fun z => nomatch z), (fun z => nomatch z)⟩
theorem mm_okC_S {own : String} {j N k ci : Nat} {M' : mm_M} (e : mm_tab N = some (M', 1, k, ci)) (hm : mm_okM M' k) (hl : mm_lnk own j M') (hv : Cond.static M'.1 ∈ mm_gw) : mm_okC own (j, N) :=
  ⟨M', 1, k, ci, e, hm, hl, (fun z => nomatch z), fun _ => hv, (fun z => nomatch z), (fun z => nomatch z), (fun z => nomatch z), (fun z => nomatch z)⟩
theorem mm_okC_max {own : String} {j N k ci : Nat} (e : mm_tab N = some (mM_max, 2, k, ci)) (hm : mm_okM mM_max k) (hl : Cond.methodLink own j mM_max.1 ∈ mm_gw) (hv : Cond.static mM_max.1 ∈ mm_gw) : mm_okC own (j, N) :=
  ⟨mM_max, 2, k, ci, e, hm, Or.inl hl, (fun z => nomatch z), (fun z => nomatch z), (fun z => nomatch z), fun _ => ⟨hl, hv, hm.2.1, hm.1⟩, (fun z => nomatch z), (fun z => nomatch z)⟩
theorem mm_okC_min {own : String} {j N k ci : Nat} (e : mm_tab N = some (mM_min, 3, k, ci)) (hm : mm_okM mM_min k) (hl : Cond.methodLink own j mM_min.1 ∈ mm_gw) (hv : Cond.static mM_min.1 ∈ mm_gw) : mm_okC own (j, N) :=
  ⟨mM_min, 3, k, ci, e, hm, Or.inl hl, (fun z => nomatch z), (fun z => nomatch z), (fun z => nomatch z), (fun z => nomatch z), fun _ => ⟨hl, hv, hm.2.1, hm.1⟩, (fun z => nomatch z)⟩
theorem mm_okC_abs {own : String} {j N k ci : Nat} (e : mm_tab N = some (mM_abs, 4, k, ci)) (hm : mm_okM mM_abs k) (hl : Cond.methodLink own j mM_abs.1 ∈ mm_gw) (hv : Cond.static mM_abs.1 ∈ mm_gw) : mm_okC own (j, N) :=
  ⟨mM_abs, 4, k, ci, e, hm, Or.inl hl, (fun z => nomatch z), (fun z => nomatch z), (fun z => nomatch z), (fun z => nomatch z), (fun z => nomatch z), fun _ => ⟨hl, hv, hm.2.1, hm.1⟩⟩
theorem mm_okc_of {c : vw_C} (h : ∀ w ∈ u_ws c.1 c.2.1 c.2.2, w ∈ mm_gw) (h0 : ∀ k, k < c.2.2 → (c.2.1 k).1 = c.1) (h1 : ∀ a, a < c.2.2 → ∀ b, b < c.2.2 → a ≠ b → (c.2.1 a).2.1 ≠ (c.2.1 b).2.1) (ty : Nat → FieldType) (h2 : ∀ k, k < c.2.2 → parseFieldDescriptor (c.2.1 k).2.2.1 = some (ty k)) : mm_okc c := ⟨h, h1, ⟨ty, h2⟩, h0⟩
theorem mm_nl {α : Type} {p : α → Prop} : ∀ x ∈ ([] : List α), p x := fun _ h => absurd h List.not_mem_nil
theorem mm_cs {α : Type} {p : α → Prop} {a : α} {l : List α} (h : p a) (t : ∀ x ∈ l, p x) : ∀ x ∈ a :: l, p x := List.forall_mem_cons.mpr ⟨h, t⟩
theorem okcX0 : mm_okc (RX0, TX0, 3) := mm_okc_of (show ∀ w ∈ ([u_lay RX0 TX0 0, u_lay RX0 TX0 1, u_lay RX0 TX0 2] : List Cond), w ∈ mm_gw from mm_cs (mm_in 2 92 rfl rfl) <| mm_cs (mm_in 2 94 rfl rfl) <| mm_cs (mm_in 2 96 rfl rfl) <| mm_nl) (by decide +kernel) nmX0 tyX0 tyX0_ok
theorem okcX1 : mm_okc (RX1, TX1, 2) := mm_okc_of (show ∀ w ∈ ([u_lay RX1 TX1 0, u_lay RX1 TX1 1] : List Cond), w ∈ mm_gw from mm_cs (mm_in 2 107 rfl rfl) <| mm_cs (mm_in 2 109 rfl rfl) <| mm_nl) (by decide +kernel) nmX1 tyX1 tyX1_ok
theorem okcX2 : mm_okc (RX2, TX2, 7) := mm_okc_of (show ∀ w ∈ ([u_lay RX2 TX2 0, u_lay RX2 TX2 1, u_lay RX2 TX2 2, u_lay RX2 TX2 3, u_lay RX2 TX2 4, u_lay RX2 TX2 5, u_lay RX2 TX2 6] : List Cond), w ∈ mm_gw from mm_cs (mm_in 1 97 rfl rfl) <| mm_cs (mm_in 1 99 rfl rfl) <| mm_cs (mm_in 1 101 rfl rfl) <| mm_cs (mm_in 1 103 rfl rfl) <| mm_cs (mm_in 1 105 rfl rfl) <| mm_cs (mm_in 1 107 rfl rfl) <| mm_cs (mm_in 1 109 rfl rfl) <| mm_nl) (by decide +kernel) nmX2 tyX2 tyX2_ok
theorem okcX3 : mm_okc (RX3, TX3, 4) := mm_okc_of (show ∀ w ∈ ([u_lay RX3 TX3 0, u_lay RX3 TX3 1, u_lay RX3 TX3 2, u_lay RX3 TX3 3] : List Cond), w ∈ mm_gw from mm_cs (mm_in 1 175 rfl rfl) <| mm_cs (mm_in 1 177 rfl rfl) <| mm_cs (mm_in 1 179 rfl rfl) <| mm_cs (mm_in 1 181 rfl rfl) <| mm_nl) (by decide +kernel) nmX3 tyX3 tyX3_ok
theorem okcX4 : mm_okc (RX4, TX4, 14) := mm_okc_of (show ∀ w ∈ ([u_lay RX4 TX4 0, u_lay RX4 TX4 1, u_lay RX4 TX4 2, u_lay RX4 TX4 3, u_lay RX4 TX4 4, u_lay RX4 TX4 5, u_lay RX4 TX4 6, u_lay RX4 TX4 7, u_lay RX4 TX4 8, u_lay RX4 TX4 9, u_lay RX4 TX4 10, u_lay RX4 TX4 11, u_lay RX4 TX4 12, u_lay RX4 TX4 13] : List Cond), w ∈ mm_gw from mm_cs (mm_in 1 239 rfl rfl) <| mm_cs (mm_in 2 1 rfl rfl) <| mm_cs (mm_in 2 3 rfl rfl) <| mm_cs (mm_in 2 5 rfl rfl) <| mm_cs (mm_in 2 7 rfl rfl) <| mm_cs (mm_in 2 9 rfl rfl) <| mm_cs (mm_in 2 11 rfl rfl) <| mm_cs (mm_in 2 13 rfl rfl) <| mm_cs (mm_in 2 15 rfl rfl) <| mm_cs (mm_in 2 17 rfl rfl) <| mm_cs (mm_in 2 19 rfl rfl) <| mm_cs (mm_in 2 21 rfl rfl) <| mm_cs (mm_in 2 23 rfl rfl) <| mm_cs (mm_in 2 25 rfl rfl) <| mm_nl) (by decide +kernel) nmX4 tyX4 tyX4_ok
theorem okcX5 : mm_okc (RX5, TX5, 2) := mm_okc_of (show ∀ w ∈ ([u_lay RX5 TX5 0, u_lay RX5 TX5 1] : List Cond), w ∈ mm_gw from mm_cs (mm_in 3 188 rfl rfl) <| mm_cs (mm_in 3 190 rfl rfl) <| mm_nl) (by decide +kernel) nmX5 tyX5 tyX5_ok
theorem okcX6 : mm_okc (RX6, TX6, 2) := mm_okc_of (show ∀ w ∈ ([u_lay RX6 TX6 0, u_lay RX6 TX6 1] : List Cond), w ∈ mm_gw from mm_cs (mm_in 1 192 rfl rfl) <| mm_cs (mm_in 1 194 rfl rfl) <| mm_nl) (by decide +kernel) nmX6 tyX6 tyX6_ok
theorem okcX7 : mm_okc (RX7, TX7, 7) := mm_okc_of (show ∀ w ∈ ([u_lay RX7 TX7 0, u_lay RX7 TX7 1, u_lay RX7 TX7 2, u_lay RX7 TX7 3, u_lay RX7 TX7 4, u_lay RX7 TX7 5, u_lay RX7 TX7 6] : List Cond), w ∈ mm_gw from mm_cs (mm_in 2 44 rfl rfl) <| mm_cs (mm_in 2 46 rfl rfl) <| mm_cs (mm_in 2 48 rfl rfl) <| mm_cs (mm_in 2 50 rfl rfl) <| mm_cs (mm_in 2 52 rfl rfl) <| mm_cs (mm_in 2 54 rfl rfl) <| mm_cs (mm_in 2 56 rfl rfl) <| mm_nl) (by decide +kernel) nmX7 tyX7 tyX7_ok
theorem okcX8 : mm_okc (RX8, TX8, 9) := mm_okc_of (show ∀ w ∈ ([u_lay RX8 TX8 0, u_lay RX8 TX8 1, u_lay RX8 TX8 2, u_lay RX8 TX8 3, u_lay RX8 TX8 4, u_lay RX8 TX8 5, u_lay RX8 TX8 6, u_lay RX8 TX8 7, u_lay RX8 TX8 8] : List Cond), w ∈ mm_gw from mm_cs (mm_in 1 150 rfl rfl) <| mm_cs (mm_in 1 152 rfl rfl) <| mm_cs (mm_in 1 154 rfl rfl) <| mm_cs (mm_in 1 156 rfl rfl) <| mm_cs (mm_in 1 158 rfl rfl) <| mm_cs (mm_in 1 160 rfl rfl) <| mm_cs (mm_in 1 162 rfl rfl) <| mm_cs (mm_in 1 164 rfl rfl) <| mm_cs (mm_in 1 166 rfl rfl) <| mm_nl) (by decide +kernel) nmX8 tyX8 tyX8_ok
theorem okcX9 : mm_okc (RX9, TX9, 5) := mm_okc_of (show ∀ w ∈ ([u_lay RX9 TX9 0, u_lay RX9 TX9 1, u_lay RX9 TX9 2, u_lay RX9 TX9 3, u_lay RX9 TX9 4] : List Cond), w ∈ mm_gw from mm_cs (mm_in 2 71 rfl rfl) <| mm_cs (mm_in 2 73 rfl rfl) <| mm_cs (mm_in 2 75 rfl rfl) <| mm_cs (mm_in 2 77 rfl rfl) <| mm_cs (mm_in 2 79 rfl rfl) <| mm_nl) (by decide +kernel) nmX9 tyX9 tyX9_ok
theorem okcX10 : mm_okc (RX10, TX10, 3) := mm_okc_of (show ∀ w ∈ ([u_lay RX10 TX10 0, u_lay RX10 TX10 1, u_lay RX10 TX10 2] : List Cond), w ∈ mm_gw from mm_cs (mm_in 1 48 rfl rfl) <| mm_cs (mm_in 1 50 rfl rfl) <| mm_cs (mm_in 1 52 rfl rfl) <| mm_nl) (by decide +kernel) nmX10 tyX10 tyX10_ok
theorem okcX11 : mm_okc (RX11, TX11, 14) := mm_okc_of (show ∀ w ∈ ([u_lay RX11 TX11 0, u_lay RX11 TX11 1, u_lay RX11 TX11 2, u_lay RX11 TX11 3, u_lay RX11 TX11 4, u_lay RX11 TX11 5, u_lay RX11 TX11 6, u_lay RX11 TX11 7, u_lay RX11 TX11 8, u_lay RX11 TX11 9, u_lay RX11 TX11 10, u_lay RX11 TX11 11, u_lay RX11 TX11 12, u_lay RX11 TX11 13] : List Cond), w ∈ mm_gw from mm_cs (mm_in 2 126 rfl rfl) <| mm_cs (mm_in 2 128 rfl rfl) <| mm_cs (mm_in 2 130 rfl rfl) <| mm_cs (mm_in 2 132 rfl rfl) <| mm_cs (mm_in 2 134 rfl rfl) <| mm_cs (mm_in 2 136 rfl rfl) <| mm_cs (mm_in 2 138 rfl rfl) <| mm_cs (mm_in 2 140 rfl rfl) <| mm_cs (mm_in 2 142 rfl rfl) <| mm_cs (mm_in 2 144 rfl rfl) <| mm_cs (mm_in 2 146 rfl rfl) <| mm_cs (mm_in 2 148 rfl rfl) <| mm_cs (mm_in 2 150 rfl rfl) <| mm_cs (mm_in 2 152 rfl rfl) <| mm_nl) (by decide +kernel) nmX11 tyX11 tyX11_ok
theorem okcX12 : mm_okc (RX12, TX12, 52) := mm_okc_of (show ∀ w ∈ ([u_lay RX12 TX12 0, u_lay RX12 TX12 1, u_lay RX12 TX12 2, u_lay RX12 TX12 3, u_lay RX12 TX12 4, u_lay RX12 TX12 5, u_lay RX12 TX12 6, u_lay RX12 TX12 7, u_lay RX12 TX12 8, u_lay RX12 TX12 9, u_lay RX12 TX12 10, u_lay RX12 TX12 11, u_lay RX12 TX12 12, u_lay RX12 TX12 13, u_lay RX12 TX12 14, u_lay RX12 TX12 15, u_lay RX12 TX12 16, u_lay RX12 TX12 17, u_lay RX12 TX12 18, u_lay RX12 TX12 19, u_lay RX12 TX12 20, u_lay RX12 TX12 21, u_lay RX12 TX12 22, u_lay RX12 TX12 23, u_lay RX12 TX12 24, u_lay RX12 TX12 25, u_lay RX12 TX12 26, u_lay RX12 TX12 27, u_lay RX12 TX12 28, u_lay RX12 TX12 29, u_lay RX12 TX12 30, u_lay RX12 TX12 31, u_lay RX12 TX12 32, u_lay RX12 TX12 33, u_lay RX12 TX12 34, u_lay RX12 TX12 35, u_lay RX12 TX12 36, u_lay RX12 TX12 37, u_lay RX12 TX12 38, u_lay RX12 TX12 39, u_lay RX12 TX12 40, u_lay RX12 TX12 41, u_lay RX12 TX12 42, u_lay RX12 TX12 43, u_lay RX12 TX12 44, u_lay RX12 TX12 45, u_lay RX12 TX12 46, u_lay RX12 TX12 47, u_lay RX12 TX12 48, u_lay RX12 TX12 49, u_lay RX12 TX12 50, u_lay RX12 TX12 51] : List Cond), w ∈ mm_gw from mm_cs (mm_in 6 20 rfl rfl) <| mm_cs (mm_in 6 22 rfl rfl) <| mm_cs (mm_in 6 24 rfl rfl) <| mm_cs (mm_in 6 26 rfl rfl) <| mm_cs (mm_in 6 28 rfl rfl) <| mm_cs (mm_in 6 30 rfl rfl) <| mm_cs (mm_in 6 32 rfl rfl) <| mm_cs (mm_in 6 34 rfl rfl) <| mm_cs (mm_in 6 36 rfl rfl) <| mm_cs (mm_in 6 38 rfl rfl) <| mm_cs (mm_in 6 40 rfl rfl) <| mm_cs (mm_in 6 42 rfl rfl) <| mm_cs (mm_in 6 44 rfl rfl) <| mm_cs (mm_in 6 46 rfl rfl) <| mm_cs (mm_in 6 48 rfl rfl) <| mm_cs (mm_in 6 50 rfl rfl) <| mm_cs (mm_in 6 52 rfl rfl) <| mm_cs (mm_in 6 54 rfl rfl) <| mm_cs (mm_in 6 56 rfl rfl) <| mm_cs (mm_in 6 58 rfl rfl) <| mm_cs (mm_in 6 60 rfl rfl) <| mm_cs (mm_in 6 62 rfl rfl) <| mm_cs (mm_in 6 64 rfl rfl) <| mm_cs (mm_in 6 66 rfl rfl) <| mm_cs (mm_in 6 68 rfl rfl) <| mm_cs (mm_in 6 70 rfl rfl) <| mm_cs (mm_in 6 72 rfl rfl) <| mm_cs (mm_in 6 74 rfl rfl) <| mm_cs (mm_in 6 76 rfl rfl) <| mm_cs (mm_in 6 78 rfl rfl) <| mm_cs (mm_in 6 80 rfl rfl) <| mm_cs (mm_in 6 82 rfl rfl) <| mm_cs (mm_in 6 84 rfl rfl) <| mm_cs (mm_in 6 86 rfl rfl) <| mm_cs (mm_in 6 88 rfl rfl) <| mm_cs (mm_in 6 90 rfl rfl) <| mm_cs (mm_in 6 92 rfl rfl) <| mm_cs (mm_in 6 94 rfl rfl) <| mm_cs (mm_in 6 96 rfl rfl) <| mm_cs (mm_in 6 98 rfl rfl) <| mm_cs (mm_in 6 100 rfl rfl) <| mm_cs (mm_in 6 102 rfl rfl) <| mm_cs (mm_in 6 104 rfl rfl) <| mm_cs (mm_in 6 106 rfl rfl) <| mm_cs (mm_in 6 108 rfl rfl) <| mm_cs (mm_in 6 110 rfl rfl) <| mm_cs (mm_in 6 112 rfl rfl) <| mm_cs (mm_in 6 114 rfl rfl) <| mm_cs (mm_in 6 116 rfl rfl) <| mm_cs (mm_in 6 118 rfl rfl) <| mm_cs (mm_in 6 120 rfl rfl) <| mm_cs (mm_in 6 122 rfl rfl) <| mm_nl) (by decide +kernel) nmX12 tyX12 tyX12_ok
theorem mm_okcs : ∀ (ci : Nat) (c : vw_C), mm_cl[ci]? = some c → mm_okc c := by
  intro ci c h
  match ci, h with
  | 0, h => cases h; exact okcX0
  | 1, h => cases h; exact okcX1
  | 2, h => cases h; exact okcX2
  | 3, h => cases h; exact okcX3
  | 4, h => cases h; exact okcX4
  | 5, h => cases h; exact okcX5
  | 6, h => cases h; exact okcX6
  | 7, h => cases h; exact okcX7
  | 8, h => cases h; exact okcX8
  | 9, h => cases h; exact okcX9
  | 10, h => cases h; exact okcX10
  | 11, h => cases h; exact okcX11
  | 12, h => cases h; exact okcX12
  | k + 13, h => simp [mm_cl] at h
theorem okM_X0_gather : mm_okM mX0_gather 1 := ⟨mm_in 4 211 rfl rfl, mm_in 1 10 rfl rfl, ⟨by decide +kernel, by decide +kernel, by decide +kernel⟩, by decide⟩
theorem okV_X0_gather : mm_okV mX0_gather 0 := ⟨mm_in 4 209 rfl rfl, mm_in 4 210 rfl rfl, _, rfl, rfl⟩
theorem okM_X0_weigh : mm_okM mX0_weigh 1 := ⟨mm_in 4 219 rfl rfl, mm_in 1 10 rfl rfl, ⟨by decide +kernel, by decide +kernel, by decide +kernel⟩, by decide⟩
theorem okV_X0_weigh : mm_okV mX0_weigh 0 := ⟨mm_in 4 217 rfl rfl, mm_in 4 218 rfl rfl, _, rfl, rfl⟩
theorem okM_X0_mostBy : mm_okM mX0_mostBy 3 := ⟨mm_in 4 224 rfl rfl, mm_in 1 10 rfl rfl, ⟨by decide +kernel, by decide +kernel, by decide +kernel⟩, by decide⟩
theorem okV_X0_mostBy : mm_okV mX0_mostBy 0 := ⟨mm_in 4 223 rfl rfl, mm_in 0 30 rfl rfl, _, rfl, rfl⟩
theorem okM_X0_total : mm_okM mX0_total 0 := ⟨mm_in 4 237 rfl rfl, mm_in 1 10 rfl rfl, ⟨by decide +kernel, by decide +kernel, by decide +kernel⟩, by decide⟩
theorem okV_X0_total : mm_okV mX0_total 0 := ⟨mm_in 4 235 rfl rfl, mm_in 4 236 rfl rfl, _, rfl, rfl⟩
theorem okM_X0_row : mm_okM mX0_row 1 := ⟨mm_in 4 229 rfl rfl, mm_in 1 10 rfl rfl, ⟨by decide +kernel, by decide +kernel, by decide +kernel⟩, by decide⟩
theorem okV_X0_row : mm_okV mX0_row 0 := ⟨mm_in 4 227 rfl rfl, mm_in 4 228 rfl rfl, _, rfl, rfl⟩
theorem okM_X0_firstBest : mm_okM mX0_firstBest 3 := ⟨mm_in 4 233 rfl rfl, mm_in 1 10 rfl rfl, ⟨by decide +kernel, by decide +kernel, by decide +kernel⟩, by decide⟩
theorem okV_X0_firstBest : mm_okV mX0_firstBest 0 := ⟨mm_in 4 232 rfl rfl, mm_in 0 31 rfl rfl, _, rfl, rfl⟩
theorem okM_X1_isStep : mm_okM mX1_isStep 1 := ⟨mm_in 5 8 rfl rfl, mm_in 1 11 rfl rfl, ⟨by decide +kernel, by decide +kernel, by decide +kernel⟩, by decide⟩
theorem okS_X1_isStep : Cond.static mX1_isStep.1 ∈ mm_gw := mm_in 5 7 rfl rfl
theorem okM_X1_play : mm_okM mX1_play 3 := ⟨mm_in 5 21 rfl rfl, mm_in 1 11 rfl rfl, ⟨by decide +kernel, by decide +kernel, by decide +kernel⟩, by decide⟩
theorem okV_X1_play : mm_okV mX1_play 1 := ⟨mm_in 5 19 rfl rfl, mm_in 5 20 rfl rfl, _, rfl, rfl⟩
theorem okM_X1_isRest : mm_okM mX1_isRest 2 := ⟨mm_in 5 27 rfl rfl, mm_in 1 11 rfl rfl, ⟨by decide +kernel, by decide +kernel, by decide +kernel⟩, by decide⟩
theorem okV_X1_isRest : mm_okV mX1_isRest 1 := ⟨mm_in 5 25 rfl rfl, mm_in 5 26 rfl rfl, _, rfl, rfl⟩
theorem okM_X2_copyFrom : mm_okM mX2_copyFrom 1 := ⟨mm_in 3 149 rfl rfl, mm_in 1 4 rfl rfl, ⟨by decide +kernel, by decide +kernel, by decide +kernel⟩, by decide⟩
theorem okV_X2_copyFrom : mm_okV mX2_copyFrom 2 := ⟨mm_in 3 147 rfl rfl, mm_in 3 148 rfl rfl, _, rfl, rfl⟩
theorem okM_X2_over : mm_okM mX2_over 2 := ⟨mm_in 3 231 rfl rfl, mm_in 1 4 rfl rfl, ⟨by decide +kernel, by decide +kernel, by decide +kernel⟩, by decide⟩
theorem okV_X2_over : mm_okV mX2_over 2 := ⟨mm_in 3 229 rfl rfl, mm_in 3 230 rfl rfl, _, rfl, rfl⟩
theorem okM_X2_overFrom : mm_okM mX2_overFrom 3 := ⟨mm_in 3 235 rfl rfl, mm_in 1 4 rfl rfl, ⟨by decide +kernel, by decide +kernel, by decide +kernel⟩, by decide⟩
theorem okV_X2_overFrom : mm_okV mX2_overFrom 2 := ⟨mm_in 3 233 rfl rfl, mm_in 3 234 rfl rfl, _, rfl, rfl⟩
theorem okM_X3_read : mm_okM mX3_read 1 := ⟨mm_in 2 178 rfl rfl, mm_in 1 3 rfl rfl, ⟨by decide +kernel, by decide +kernel, by decide +kernel⟩, by decide⟩
theorem okV_X3_read : mm_okV mX3_read 3 := ⟨mm_in 2 176 rfl rfl, mm_in 2 177 rfl rfl, _, rfl, rfl⟩
theorem okM_X3_readClause : mm_okM mX3_readClause 1 := ⟨mm_in 2 188 rfl rfl, mm_in 1 3 rfl rfl, ⟨by decide +kernel, by decide +kernel, by decide +kernel⟩, by decide⟩
theorem okV_X3_readClause : mm_okV mX3_readClause 3 := ⟨mm_in 2 187 rfl rfl, mm_in 0 2 rfl rfl, _, rfl, rfl⟩
theorem okM_X3_readRules : mm_okM mX3_readRules 1 := ⟨mm_in 2 196 rfl rfl, mm_in 1 3 rfl rfl, ⟨by decide +kernel, by decide +kernel, by decide +kernel⟩, by decide⟩
theorem okV_X3_readRules : mm_okV mX3_readRules 3 := ⟨mm_in 2 195 rfl rfl, mm_in 0 3 rfl rfl, _, rfl, rfl⟩
theorem okM_X3_setRules : mm_okM mX3_setRules 1 := ⟨mm_in 2 184 rfl rfl, mm_in 1 3 rfl rfl, ⟨by decide +kernel, by decide +kernel, by decide +kernel⟩, by decide⟩
theorem okV_X3_setRules : mm_okV mX3_setRules 3 := ⟨mm_in 2 183 rfl rfl, mm_in 0 1 rfl rfl, _, rfl, rfl⟩
theorem okM_X3_readThing : mm_okM mX3_readThing 1 := ⟨mm_in 3 66 rfl rfl, mm_in 1 3 rfl rfl, ⟨by decide +kernel, by decide +kernel, by decide +kernel⟩, by decide⟩
theorem okV_X3_readThing : mm_okV mX3_readThing 3 := ⟨mm_in 3 65 rfl rfl, mm_in 0 5 rfl rfl, _, rfl, rfl⟩
theorem okM_X3_readGun : mm_okM mX3_readGun 1 := ⟨mm_in 3 75 rfl rfl, mm_in 1 3 rfl rfl, ⟨by decide +kernel, by decide +kernel, by decide +kernel⟩, by decide⟩
theorem okV_X3_readGun : mm_okV mX3_readGun 3 := ⟨mm_in 3 74 rfl rfl, mm_in 0 6 rfl rfl, _, rfl, rfl⟩
theorem okM_X3_readItems : mm_okM mX3_readItems 4 := ⟨mm_in 2 203 rfl rfl, mm_in 1 3 rfl rfl, ⟨by decide +kernel, by decide +kernel, by decide +kernel⟩, by decide⟩
theorem okV_X3_readItems : mm_okV mX3_readItems 3 := ⟨mm_in 2 202 rfl rfl, mm_in 0 4 rfl rfl, _, rfl, rfl⟩
theorem okM_X4_freshTrial : mm_okM mX4_freshTrial 0 := ⟨mm_in 4 150 rfl rfl, mm_in 1 7 rfl rfl, ⟨by decide +kernel, by decide +kernel, by decide +kernel⟩, by decide⟩
theorem okV_X4_freshTrial : mm_okV mX4_freshTrial 4 := ⟨mm_in 4 148 rfl rfl, mm_in 4 149 rfl rfl, _, rfl, rfl⟩
theorem okM_X4_rises : mm_okM mX4_rises 3 := ⟨mm_in 3 220 rfl rfl, mm_in 1 7 rfl rfl, ⟨by decide +kernel, by decide +kernel, by decide +kernel⟩, by decide⟩
theorem okV_X4_rises : mm_okV mX4_rises 4 := ⟨mm_in 3 218 rfl rfl, mm_in 3 219 rfl rfl, _, rfl, rfl⟩
theorem okM_X4_rise : mm_okM mX4_rise 1 := ⟨mm_in 3 216 rfl rfl, mm_in 1 7 rfl rfl, ⟨by decide +kernel, by decide +kernel, by decide +kernel⟩, by decide⟩
theorem okV_X4_rise : mm_okV mX4_rise 4 := ⟨mm_in 3 214 rfl rfl, mm_in 3 215 rfl rfl, _, rfl, rfl⟩
theorem okM_X4_run : mm_okM mX4_run 1 := ⟨mm_in 3 212 rfl rfl, mm_in 1 7 rfl rfl, ⟨by decide +kernel, by decide +kernel, by decide +kernel⟩, by decide⟩
theorem okV_X4_run : mm_okV mX4_run 4 := ⟨mm_in 3 210 rfl rfl, mm_in 3 211 rfl rfl, _, rfl, rfl⟩
theorem okM_X4_take : mm_okM mX4_take 2 := ⟨mm_in 4 26 rfl rfl, mm_in 1 7 rfl rfl, ⟨by decide +kernel, by decide +kernel, by decide +kernel⟩, by decide⟩
theorem okV_X4_take : mm_okV mX4_take 4 := ⟨mm_in 4 25 rfl rfl, mm_in 0 22 rfl rfl, _, rfl, rfl⟩
theorem okM_X4_firstInReach : mm_okM mX4_firstInReach 3 := ⟨mm_in 3 239 rfl rfl, mm_in 1 7 rfl rfl, ⟨by decide +kernel, by decide +kernel, by decide +kernel⟩, by decide⟩
theorem okV_X4_firstInReach : mm_okV mX4_firstInReach 4 := ⟨mm_in 3 238 rfl rfl, mm_in 0 21 rfl rfl, _, rfl, rfl⟩
theorem okM_X4_reach : mm_okM mX4_reach 4 := ⟨mm_in 4 6 rfl rfl, mm_in 1 7 rfl rfl, ⟨by decide +kernel, by decide +kernel, by decide +kernel⟩, by decide⟩
theorem okV_X4_reach : mm_okV mX4_reach 4 := ⟨mm_in 4 4 rfl rfl, mm_in 4 5 rfl rfl, _, rfl, rfl⟩
theorem okM_X4_comingOver : mm_okM mX4_comingOver 1 := ⟨mm_in 5 79 rfl rfl, mm_in 1 7 rfl rfl, ⟨by decide +kernel, by decide +kernel, by decide +kernel⟩, by decide⟩
theorem okV_X4_comingOver : mm_okV mX4_comingOver 4 := ⟨mm_in 5 77 rfl rfl, mm_in 5 78 rfl rfl, _, rfl, rfl⟩
theorem okM_X4_sortPegs : mm_okM mX4_sortPegs 0 := ⟨mm_in 4 163 rfl rfl, mm_in 1 7 rfl rfl, ⟨by decide +kernel, by decide +kernel, by decide +kernel⟩, by decide⟩
theorem okV_X4_sortPegs : mm_okV mX4_sortPegs 4 := ⟨mm_in 4 161 rfl rfl, mm_in 4 162 rfl rfl, _, rfl, rfl⟩
theorem okM_X4_dealPegs : mm_okM mX4_dealPegs 2 := ⟨mm_in 4 167 rfl rfl, mm_in 1 7 rfl rfl, ⟨by decide +kernel, by decide +kernel, by decide +kernel⟩, by decide⟩
theorem okV_X4_dealPegs : mm_okV mX4_dealPegs 4 := ⟨mm_in 4 165 rfl rfl, mm_in 4 166 rfl rfl, _, rfl, rfl⟩
theorem okM_X4_gunLeft : mm_okM mX4_gunLeft 2 := ⟨mm_in 4 172 rfl rfl, mm_in 1 7 rfl rfl, ⟨by decide +kernel, by decide +kernel, by decide +kernel⟩, by decide⟩
theorem okV_X4_gunLeft : mm_okV mX4_gunLeft 4 := ⟨mm_in 4 171 rfl rfl, mm_in 0 29 rfl rfl, _, rfl, rfl⟩
theorem okM_X4_spread : mm_okM mX4_spread 0 := ⟨mm_in 4 176 rfl rfl, mm_in 1 7 rfl rfl, ⟨by decide +kernel, by decide +kernel, by decide +kernel⟩, by decide⟩
theorem okV_X4_spread : mm_okV mX4_spread 4 := ⟨mm_in 4 174 rfl rfl, mm_in 4 175 rfl rfl, _, rfl, rfl⟩
theorem okM_X4_stepAside : mm_okM mX4_stepAside 4 := ⟨mm_in 5 13 rfl rfl, mm_in 1 7 rfl rfl, ⟨by decide +kernel, by decide +kernel, by decide +kernel⟩, by decide⟩
theorem okV_X4_stepAside : mm_okV mX4_stepAside 4 := ⟨mm_in 5 11 rfl rfl, mm_in 5 12 rfl rfl, _, rfl, rfl⟩
theorem okM_X4_oddsOfTaking : mm_okM mX4_oddsOfTaking 2 := ⟨mm_in 5 35 rfl rfl, mm_in 1 7 rfl rfl, ⟨by decide +kernel, by decide +kernel, by decide +kernel⟩, by decide⟩
theorem okV_X4_oddsOfTaking : mm_okV mX4_oddsOfTaking 4 := ⟨mm_in 5 33 rfl rfl, mm_in 5 34 rfl rfl, _, rfl, rfl⟩
theorem okM_X4_partsTaking : mm_okM mX4_partsTaking 4 := ⟨mm_in 5 40 rfl rfl, mm_in 1 7 rfl rfl, ⟨by decide +kernel, by decide +kernel, by decide +kernel⟩, by decide⟩
theorem okV_X4_partsTaking : mm_okV mX4_partsTaking 4 := ⟨mm_in 5 39 rfl rfl, mm_in 0 33 rfl rfl, _, rfl, rfl⟩
theorem okM_X4_partsOver : mm_okM mX4_partsOver 5 := ⟨mm_in 5 45 rfl rfl, mm_in 1 7 rfl rfl, ⟨by decide +kernel, by decide +kernel, by decide +kernel⟩, by decide⟩
theorem okV_X4_partsOver : mm_okV mX4_partsOver 4 := ⟨mm_in 5 44 rfl rfl, mm_in 0 34 rfl rfl, _, rfl, rfl⟩
theorem okM_X5_worth : mm_okM mX5_worth 1 := ⟨mm_in 4 14 rfl rfl, mm_in 1 20 rfl rfl, ⟨by decide +kernel, by decide +kernel, by decide +kernel⟩, by decide⟩
theorem okV_X5_worth : mm_okV mX5_worth 5 := ⟨mm_in 4 12 rfl rfl, mm_in 4 13 rfl rfl, _, rfl, rfl⟩
theorem okM_X5_joined : mm_okM mX5_joined 3 := ⟨mm_in 4 17 rfl rfl, mm_in 1 20 rfl rfl, ⟨by decide +kernel, by decide +kernel, by decide +kernel⟩, by decide⟩
theorem okS_X5_joined : Cond.static mX5_joined.1 ∈ mm_gw := mm_in 4 16 rfl rfl
theorem okM_X6_read : mm_okM mX6_read 1 := ⟨mm_in 3 88 rfl rfl, mm_in 1 6 rfl rfl, ⟨by decide +kernel, by decide +kernel, by decide +kernel⟩, by decide⟩
theorem okV_X6_read : mm_okV mX6_read 6 := ⟨mm_in 3 86 rfl rfl, mm_in 3 87 rfl rfl, _, rfl, rfl⟩
theorem okM_X6_made : mm_okM mX6_made 0 := ⟨mm_in 3 167 rfl rfl, mm_in 1 6 rfl rfl, ⟨by decide +kernel, by decide +kernel, by decide +kernel⟩, by decide⟩
theorem okV_X6_made : mm_okV mX6_made 6 := ⟨mm_in 3 165 rfl rfl, mm_in 3 166 rfl rfl, _, rfl, rfl⟩
theorem okM_X6_readClause : mm_okM mX6_readClause 1 := ⟨mm_in 3 93 rfl rfl, mm_in 1 6 rfl rfl, ⟨by decide +kernel, by decide +kernel, by decide +kernel⟩, by decide⟩
theorem okV_X6_readClause : mm_okV mX6_readClause 6 := ⟨mm_in 3 92 rfl rfl, mm_in 0 7 rfl rfl, _, rfl, rfl⟩
theorem okM_X6_readWorth : mm_okM mX6_readWorth 1 := ⟨mm_in 3 136 rfl rfl, mm_in 1 6 rfl rfl, ⟨by decide +kernel, by decide +kernel, by decide +kernel⟩, by decide⟩
theorem okV_X6_readWorth : mm_okV mX6_readWorth 6 := ⟨mm_in 3 135 rfl rfl, mm_in 0 16 rfl rfl, _, rfl, rfl⟩
theorem okM_X6_readCondition : mm_okM mX6_readCondition 2 := ⟨mm_in 3 120 rfl rfl, mm_in 1 6 rfl rfl, ⟨by decide +kernel, by decide +kernel, by decide +kernel⟩, by decide⟩
theorem okV_X6_readCondition : mm_okV mX6_readCondition 6 := ⟨mm_in 3 119 rfl rfl, mm_in 0 12 rfl rfl, _, rfl, rfl⟩
theorem okM_X6_readTruth : mm_okM mX6_readTruth 2 := ⟨mm_in 3 124 rfl rfl, mm_in 1 6 rfl rfl, ⟨by decide +kernel, by decide +kernel, by decide +kernel⟩, by decide⟩
theorem okV_X6_readTruth : mm_okV mX6_readTruth 6 := ⟨mm_in 3 123 rfl rfl, mm_in 0 13 rfl rfl, _, rfl, rfl⟩
theorem okM_X6_readUnit : mm_okM mX6_readUnit 2 := ⟨mm_in 3 128 rfl rfl, mm_in 1 6 rfl rfl, ⟨by decide +kernel, by decide +kernel, by decide +kernel⟩, by decide⟩
theorem okV_X6_readUnit : mm_okV mX6_readUnit 6 := ⟨mm_in 3 127 rfl rfl, mm_in 0 14 rfl rfl, _, rfl, rfl⟩
theorem okM_X6_readComparison : mm_okM mX6_readComparison 2 := ⟨mm_in 3 132 rfl rfl, mm_in 1 6 rfl rfl, ⟨by decide +kernel, by decide +kernel, by decide +kernel⟩, by decide⟩
theorem okV_X6_readComparison : mm_okV mX6_readComparison 6 := ⟨mm_in 3 131 rfl rfl, mm_in 0 15 rfl rfl, _, rfl, rfl⟩
theorem okM_X6_readSum : mm_okM mX6_readSum 2 := ⟨mm_in 3 98 rfl rfl, mm_in 1 6 rfl rfl, ⟨by decide +kernel, by decide +kernel, by decide +kernel⟩, by decide⟩
theorem okV_X6_readSum : mm_okV mX6_readSum 6 := ⟨mm_in 3 97 rfl rfl, mm_in 0 8 rfl rfl, _, rfl, rfl⟩
theorem okM_X6_readTerm : mm_okM mX6_readTerm 2 := ⟨mm_in 3 102 rfl rfl, mm_in 1 6 rfl rfl, ⟨by decide +kernel, by decide +kernel, by decide +kernel⟩, by decide⟩
theorem okV_X6_readTerm : mm_okV mX6_readTerm 6 := ⟨mm_in 3 101 rfl rfl, mm_in 0 9 rfl rfl, _, rfl, rfl⟩
theorem okM_X6_readAtom : mm_okM mX6_readAtom 2 := ⟨mm_in 3 106 rfl rfl, mm_in 1 6 rfl rfl, ⟨by decide +kernel, by decide +kernel, by decide +kernel⟩, by decide⟩
theorem okV_X6_readAtom : mm_okV mX6_readAtom 6 := ⟨mm_in 3 105 rfl rfl, mm_in 0 10 rfl rfl, _, rfl, rfl⟩
theorem okM_X6_isComparison : mm_okM mX6_isComparison 1 := ⟨mm_in 3 116 rfl rfl, mm_in 1 6 rfl rfl, ⟨by decide +kernel, by decide +kernel, by decide +kernel⟩, by decide⟩
theorem okS_X6_isComparison : Cond.static mX6_isComparison.1 ∈ mm_gw := mm_in 3 115 rfl rfl
theorem okM_X6_write : mm_okM mX6_write 1 := ⟨mm_in 3 112 rfl rfl, mm_in 1 6 rfl rfl, ⟨by decide +kernel, by decide +kernel, by decide +kernel⟩, by decide⟩
theorem okV_X6_write : mm_okV mX6_write 6 := ⟨mm_in 3 111 rfl rfl, mm_in 0 11 rfl rfl, _, rfl, rfl⟩
theorem okM_X7_keep : mm_okM mX7_keep 1 := ⟨mm_in 4 42 rfl rfl, mm_in 1 8 rfl rfl, ⟨by decide +kernel, by decide +kernel, by decide +kernel⟩, by decide⟩
theorem okV_X7_keep : mm_okV mX7_keep 7 := ⟨mm_in 4 40 rfl rfl, mm_in 4 41 rfl rfl, _, rfl, rfl⟩
theorem okM_X7_takeBack : mm_okM mX7_takeBack 1 := ⟨mm_in 4 119 rfl rfl, mm_in 1 8 rfl rfl, ⟨by decide +kernel, by decide +kernel, by decide +kernel⟩, by decide⟩
theorem okV_X7_takeBack : mm_okV mX7_takeBack 7 := ⟨mm_in 4 117 rfl rfl, mm_in 4 118 rfl rfl, _, rfl, rfl⟩
theorem okM_X7_writeLog : mm_okM mX7_writeLog 4 := ⟨mm_in 4 55 rfl rfl, mm_in 1 8 rfl rfl, ⟨by decide +kernel, by decide +kernel, by decide +kernel⟩, by decide⟩
theorem okV_X7_writeLog : mm_okV mX7_writeLog 7 := ⟨mm_in 4 53 rfl rfl, mm_in 4 54 rfl rfl, _, rfl, rfl⟩
theorem okM_X7_readLog : mm_okM mX7_readLog 2 := ⟨mm_in 4 135 rfl rfl, mm_in 1 8 rfl rfl, ⟨by decide +kernel, by decide +kernel, by decide +kernel⟩, by decide⟩
theorem okV_X7_readLog : mm_okV mX7_readLog 7 := ⟨mm_in 4 133 rfl rfl, mm_in 4 134 rfl rfl, _, rfl, rfl⟩
theorem okM_X7_keepImage : mm_okM mX7_keepImage 1 := ⟨mm_in 5 110 rfl rfl, mm_in 1 8 rfl rfl, ⟨by decide +kernel, by decide +kernel, by decide +kernel⟩, by decide⟩
theorem okV_X7_keepImage : mm_okV mX7_keepImage 7 := ⟨mm_in 5 108 rfl rfl, mm_in 5 109 rfl rfl, _, rfl, rfl⟩
theorem okM_X7_bringImageBack : mm_okM mX7_bringImageBack 1 := ⟨mm_in 5 119 rfl rfl, mm_in 1 8 rfl rfl, ⟨by decide +kernel, by decide +kernel, by decide +kernel⟩, by decide⟩
theorem okV_X7_bringImageBack : mm_okV mX7_bringImageBack 7 := ⟨mm_in 5 117 rfl rfl, mm_in 5 118 rfl rfl, _, rfl, rfl⟩
theorem okM_X7_forget : mm_okM mX7_forget 0 := ⟨mm_in 3 159 rfl rfl, mm_in 1 8 rfl rfl, ⟨by decide +kernel, by decide +kernel, by decide +kernel⟩, by decide⟩
theorem okV_X7_forget : mm_okV mX7_forget 7 := ⟨mm_in 3 157 rfl rfl, mm_in 3 158 rfl rfl, _, rfl, rfl⟩
theorem okM_X8_isOut : mm_okM mX8_isOut 1 := ⟨mm_in 3 224 rfl rfl, mm_in 1 5 rfl rfl, ⟨by decide +kernel, by decide +kernel, by decide +kernel⟩, by decide⟩
theorem okV_X8_isOut : mm_okV mX8_isOut 8 := ⟨mm_in 3 222 rfl rfl, mm_in 3 223 rfl rfl, _, rfl, rfl⟩
theorem okM_X8_bagsOfAll : mm_okM mX8_bagsOfAll 0 := ⟨mm_in 5 53 rfl rfl, mm_in 1 5 rfl rfl, ⟨by decide +kernel, by decide +kernel, by decide +kernel⟩, by decide⟩
theorem okV_X8_bagsOfAll : mm_okV mX8_bagsOfAll 8 := ⟨mm_in 5 51 rfl rfl, mm_in 5 52 rfl rfl, _, rfl, rfl⟩
theorem okM_X8_copyFrom : mm_okM mX8_copyFrom 1 := ⟨mm_in 3 154 rfl rfl, mm_in 1 5 rfl rfl, ⟨by decide +kernel, by decide +kernel, by decide +kernel⟩, by decide⟩
theorem okV_X8_copyFrom : mm_okV mX8_copyFrom 8 := ⟨mm_in 3 152 rfl rfl, mm_in 3 153 rfl rfl, _, rfl, rfl⟩
theorem okM_X8_save : mm_okM mX8_save 2 := ⟨mm_in 4 46 rfl rfl, mm_in 1 5 rfl rfl, ⟨by decide +kernel, by decide +kernel, by decide +kernel⟩, by decide⟩
theorem okV_X8_save : mm_okV mX8_save 8 := ⟨mm_in 4 44 rfl rfl, mm_in 4 45 rfl rfl, _, rfl, rfl⟩
theorem okM_X8_load : mm_okM mX8_load 2 := ⟨mm_in 4 123 rfl rfl, mm_in 1 5 rfl rfl, ⟨by decide +kernel, by decide +kernel, by decide +kernel⟩, by decide⟩
theorem okV_X8_load : mm_okV mX8_load 8 := ⟨mm_in 4 121 rfl rfl, mm_in 4 122 rfl rfl, _, rfl, rfl⟩
theorem okM_X9_add : mm_okM mX9_add 4 := ⟨mm_in 4 184 rfl rfl, mm_in 1 9 rfl rfl, ⟨by decide +kernel, by decide +kernel, by decide +kernel⟩, by decide⟩
theorem okV_X9_add : mm_okV mX9_add 9 := ⟨mm_in 4 182 rfl rfl, mm_in 4 183 rfl rfl, _, rfl, rfl⟩
theorem okM_X9_fit : mm_okM mX9_fit 3 := ⟨mm_in 4 192 rfl rfl, mm_in 1 9 rfl rfl, ⟨by decide +kernel, by decide +kernel, by decide +kernel⟩, by decide⟩
theorem okV_X9_fit : mm_okV mX9_fit 9 := ⟨mm_in 4 190 rfl rfl, mm_in 4 191 rfl rfl, _, rfl, rfl⟩
theorem okM_X9_apart : mm_okM mX9_apart 4 := ⟨mm_in 4 201 rfl rfl, mm_in 1 9 rfl rfl, ⟨by decide +kernel, by decide +kernel, by decide +kernel⟩, by decide⟩
theorem okV_X9_apart : mm_okV mX9_apart 9 := ⟨mm_in 4 199 rfl rfl, mm_in 4 200 rfl rfl, _, rfl, rfl⟩
theorem okM_X10_add : mm_okM mX10_add 5 := ⟨mm_in 2 162 rfl rfl, mm_in 1 2 rfl rfl, ⟨by decide +kernel, by decide +kernel, by decide +kernel⟩, by decide⟩
theorem okV_X10_add : mm_okV mX10_add 10 := ⟨mm_in 2 160 rfl rfl, mm_in 2 161 rfl rfl, _, rfl, rfl⟩
theorem okM_X10_put : mm_okM mX10_put 2 := ⟨mm_in 2 166 rfl rfl, mm_in 1 2 rfl rfl, ⟨by decide +kernel, by decide +kernel, by decide +kernel⟩, by decide⟩
theorem okV_X10_put : mm_okV mX10_put 10 := ⟨mm_in 2 165 rfl rfl, mm_in 0 0 rfl rfl, _, rfl, rfl⟩
theorem okM_X10_look : mm_okM mX10_look 0 := ⟨mm_in 2 192 rfl rfl, mm_in 1 2 rfl rfl, ⟨by decide +kernel, by decide +kernel, by decide +kernel⟩, by decide⟩
theorem okV_X10_look : mm_okV mX10_look 10 := ⟨mm_in 2 190 rfl rfl, mm_in 2 191 rfl rfl, _, rfl, rfl⟩
theorem okM_X10_pass : mm_okM mX10_pass 1 := ⟨mm_in 3 84 rfl rfl, mm_in 1 2 rfl rfl, ⟨by decide +kernel, by decide +kernel, by decide +kernel⟩, by decide⟩
theorem okV_X10_pass : mm_okV mX10_pass 10 := ⟨mm_in 3 82 rfl rfl, mm_in 3 83 rfl rfl, _, rfl, rfl⟩
theorem okM_X10_isAtDigit : mm_okM mX10_isAtDigit 0 := ⟨mm_in 3 62 rfl rfl, mm_in 1 2 rfl rfl, ⟨by decide +kernel, by decide +kernel, by decide +kernel⟩, by decide⟩
theorem okV_X10_isAtDigit : mm_okV mX10_isAtDigit 10 := ⟨mm_in 3 60 rfl rfl, mm_in 3 61 rfl rfl, _, rfl, rfl⟩
theorem okM_X10_readNumber : mm_okM mX10_readNumber 2 := ⟨mm_in 3 57 rfl rfl, mm_in 1 2 rfl rfl, ⟨by decide +kernel, by decide +kernel, by decide +kernel⟩, by decide⟩
theorem okV_X10_readNumber : mm_okV mX10_readNumber 10 := ⟨mm_in 3 55 rfl rfl, mm_in 3 56 rfl rfl, _, rfl, rfl⟩
theorem okM_X11_hasEstate : mm_okM mX11_hasEstate 0 := ⟨mm_in 3 200 rfl rfl, mm_in 1 1 rfl rfl, ⟨by decide +kernel, by decide +kernel, by decide +kernel⟩, by decide⟩
theorem okV_X11_hasEstate : mm_okV mX11_hasEstate 11 := ⟨mm_in 3 199 rfl rfl, mm_in 0 19 rfl rfl, _, rfl, rfl⟩
theorem okM_X11_isThing : mm_okM mX11_isThing 1 := ⟨mm_in 4 88 rfl rfl, mm_in 1 1 rfl rfl, ⟨by decide +kernel, by decide +kernel, by decide +kernel⟩, by decide⟩
theorem okV_X11_isThing : mm_okV mX11_isThing 11 := ⟨mm_in 4 87 rfl rfl, mm_in 0 25 rfl rfl, _, rfl, rfl⟩
theorem okM_X11_isGun : mm_okM mX11_isGun 1 := ⟨mm_in 3 208 rfl rfl, mm_in 1 1 rfl rfl, ⟨by decide +kernel, by decide +kernel, by decide +kernel⟩, by decide⟩
theorem okV_X11_isGun : mm_okV mX11_isGun 11 := ⟨mm_in 3 207 rfl rfl, mm_in 0 20 rfl rfl, _, rfl, rfl⟩
theorem okM_X11_areTwoGuns : mm_okM mX11_areTwoGuns 2 := ⟨mm_in 5 5 rfl rfl, mm_in 1 1 rfl rfl, ⟨by decide +kernel, by decide +kernel, by decide +kernel⟩, by decide⟩
theorem okV_X11_areTwoGuns : mm_okV mX11_areTwoGuns 11 := ⟨mm_in 5 4 rfl rfl, mm_in 0 32 rfl rfl, _, rfl, rfl⟩
theorem okM_X11_isColumn : mm_okM mX11_isColumn 1 := ⟨mm_in 4 2 rfl rfl, mm_in 1 1 rfl rfl, ⟨by decide +kernel, by decide +kernel, by decide +kernel⟩, by decide⟩
theorem okS_X11_isColumn : Cond.static mX11_isColumn.1 ∈ mm_gw := mm_in 4 1 rfl rfl
theorem okM_X11_isWind : mm_okM mX11_isWind 1 := ⟨mm_in 4 80 rfl rfl, mm_in 1 1 rfl rfl, ⟨by decide +kernel, by decide +kernel, by decide +kernel⟩, by decide⟩
theorem okS_X11_isWind : Cond.static mX11_isWind.1 ∈ mm_gw := mm_in 4 79 rfl rfl
theorem okM_X11_isPair : mm_okM mX11_isPair 1 := ⟨mm_in 4 146 rfl rfl, mm_in 1 1 rfl rfl, ⟨by decide +kernel, by decide +kernel, by decide +kernel⟩, by decide⟩
theorem okS_X11_isPair : Cond.static mX11_isPair.1 ∈ mm_gw := mm_in 4 145 rfl rfl
theorem okM_X11_refuse : mm_okM mX11_refuse 1 := ⟨mm_in 4 38 rfl rfl, mm_in 1 1 rfl rfl, ⟨by decide +kernel, by decide +kernel, by decide +kernel⟩, by decide⟩
theorem okV_X11_refuse : mm_okV mX11_refuse 11 := ⟨mm_in 4 37 rfl rfl, mm_in 0 23 rfl rfl, _, rfl, rfl⟩
theorem okM_X11_settle : mm_okM mX11_settle 0 := ⟨mm_in 3 145 rfl rfl, mm_in 1 1 rfl rfl, ⟨by decide +kernel, by decide +kernel, by decide +kernel⟩, by decide⟩
theorem okV_X11_settle : mm_okV mX11_settle 11 := ⟨mm_in 3 144 rfl rfl, mm_in 0 17 rfl rfl, _, rfl, rfl⟩
theorem okM_X11_enact : mm_okM mX11_enact 0 := ⟨mm_in 3 163 rfl rfl, mm_in 1 1 rfl rfl, ⟨by decide +kernel, by decide +kernel, by decide +kernel⟩, by decide⟩
theorem okV_X11_enact : mm_okV mX11_enact 11 := ⟨mm_in 3 162 rfl rfl, mm_in 0 18 rfl rfl, _, rfl, rfl⟩
theorem okM_X11_overOrLost : mm_okM mX11_overOrLost 1 := ⟨mm_in 5 200 rfl rfl, mm_in 1 1 rfl rfl, ⟨by decide +kernel, by decide +kernel, by decide +kernel⟩, by decide⟩
theorem okV_X11_overOrLost : mm_okV mX11_overOrLost 11 := ⟨mm_in 5 199 rfl rfl, mm_in 0 42 rfl rfl, _, rfl, rfl⟩
theorem okM_X11_logLength : mm_okM mX11_logLength 0 := ⟨mm_in 4 131 rfl rfl, mm_in 1 1 rfl rfl, ⟨by decide +kernel, by decide +kernel, by decide +kernel⟩, by decide⟩
theorem okV_X11_logLength : mm_okV mX11_logLength 11 := ⟨mm_in 4 130 rfl rfl, mm_in 0 28 rfl rfl, _, rfl, rfl⟩
theorem okM_X11_driveOnce : mm_okM mX11_driveOnce 0 := ⟨mm_in 4 51 rfl rfl, mm_in 1 1 rfl rfl, ⟨by decide +kernel, by decide +kernel, by decide +kernel⟩, by decide⟩
theorem okV_X11_driveOnce : mm_okV mX11_driveOnce 11 := ⟨mm_in 4 50 rfl rfl, mm_in 0 24 rfl rfl, _, rfl, rfl⟩
theorem okM_X11_drawAhead : mm_okM mX11_drawAhead 0 := ⟨mm_in 4 101 rfl rfl, mm_in 1 1 rfl rfl, ⟨by decide +kernel, by decide +kernel, by decide +kernel⟩, by decide⟩
theorem okV_X11_drawAhead : mm_okV mX11_drawAhead 11 := ⟨mm_in 4 100 rfl rfl, mm_in 0 26 rfl rfl, _, rfl, rfl⟩
theorem okM_X11_draw : mm_okM mX11_draw 1 := ⟨mm_in 4 105 rfl rfl, mm_in 1 1 rfl rfl, ⟨by decide +kernel, by decide +kernel, by decide +kernel⟩, by decide⟩
theorem okV_X11_draw : mm_okV mX11_draw 11 := ⟨mm_in 4 104 rfl rfl, mm_in 0 27 rfl rfl, _, rfl, rfl⟩
theorem okM_X11_lastToRise : mm_okM mX11_lastToRise 0 := ⟨mm_in 5 66 rfl rfl, mm_in 1 1 rfl rfl, ⟨by decide +kernel, by decide +kernel, by decide +kernel⟩, by decide⟩
theorem okV_X11_lastToRise : mm_okV mX11_lastToRise 11 := ⟨mm_in 5 65 rfl rfl, mm_in 0 35 rfl rfl, _, rfl, rfl⟩
theorem okM_X11_finest : mm_okM mX11_finest 0 := ⟨mm_in 5 71 rfl rfl, mm_in 1 1 rfl rfl, ⟨by decide +kernel, by decide +kernel, by decide +kernel⟩, by decide⟩
theorem okV_X11_finest : mm_okV mX11_finest 11 := ⟨mm_in 5 70 rfl rfl, mm_in 0 36 rfl rfl, _, rfl, rfl⟩
theorem okM_X11_busiest : mm_okM mX11_busiest 0 := ⟨mm_in 5 75 rfl rfl, mm_in 1 1 rfl rfl, ⟨by decide +kernel, by decide +kernel, by decide +kernel⟩, by decide⟩
theorem okV_X11_busiest : mm_okV mX11_busiest 11 := ⟨mm_in 5 74 rfl rfl, mm_in 0 37 rfl rfl, _, rfl, rfl⟩
theorem okM_X11_firstGreatest : mm_okM mX11_firstGreatest 1 := ⟨mm_in 5 83 rfl rfl, mm_in 1 1 rfl rfl, ⟨by decide +kernel, by decide +kernel, by decide +kernel⟩, by decide⟩
theorem okV_X11_firstGreatest : mm_okV mX11_firstGreatest 11 := ⟨mm_in 5 82 rfl rfl, mm_in 0 38 rfl rfl, _, rfl, rfl⟩
theorem okM_X11_widestGap : mm_okM mX11_widestGap 0 := ⟨mm_in 5 87 rfl rfl, mm_in 1 1 rfl rfl, ⟨by decide +kernel, by decide +kernel, by decide +kernel⟩, by decide⟩
theorem okV_X11_widestGap : mm_okV mX11_widestGap 11 := ⟨mm_in 5 86 rfl rfl, mm_in 0 39 rfl rfl, _, rfl, rfl⟩
theorem okM_X11_valueOut : mm_okM mX11_valueOut 0 := ⟨mm_in 5 92 rfl rfl, mm_in 1 1 rfl rfl, ⟨by decide +kernel, by decide +kernel, by decide +kernel⟩, by decide⟩
theorem okV_X11_valueOut : mm_okV mX11_valueOut 11 := ⟨mm_in 5 91 rfl rfl, mm_in 0 40 rfl rfl, _, rfl, rfl⟩
theorem okM_X12_in : mm_okM mX12_in 3 := ⟨mm_in 6 185 rfl rfl, mm_in 1 12 rfl rfl, ⟨by decide +kernel, by decide +kernel, by decide +kernel⟩, by decide⟩
theorem okS_X12_in : Cond.static mX12_in.1 ∈ mm_gw := mm_in 6 184 rfl rfl
theorem okM_X12_has : mm_okM mX12_has 2 := ⟨mm_in 6 168 rfl rfl, mm_in 1 12 rfl rfl, ⟨by decide +kernel, by decide +kernel, by decide +kernel⟩, by decide⟩
theorem okS_X12_has : Cond.static mX12_has.1 ∈ mm_gw := mm_in 6 167 rfl rfl
theorem okM_X12_byteOf : mm_okM mX12_byteOf 6 := ⟨mm_in 6 135 rfl rfl, mm_in 1 12 rfl rfl, ⟨by decide +kernel, by decide +kernel, by decide +kernel⟩, by decide⟩
theorem okS_X12_byteOf : Cond.static mX12_byteOf.1 ∈ mm_gw := mm_in 6 134 rfl rfl
theorem okM_X12_here : mm_okM mX12_here 0 := ⟨mm_in 6 158 rfl rfl, mm_in 1 12 rfl rfl, ⟨by decide +kernel, by decide +kernel, by decide +kernel⟩, by decide⟩
theorem okV_X12_here : mm_okV mX12_here 12 := ⟨mm_in 6 157 rfl rfl, mm_in 0 45 rfl rfl, _, rfl, rfl⟩
theorem okM_X12_look : mm_okM mX12_look 0 := ⟨mm_in 6 154 rfl rfl, mm_in 1 12 rfl rfl, ⟨by decide +kernel, by decide +kernel, by decide +kernel⟩, by decide⟩
theorem okV_X12_look : mm_okV mX12_look 12 := ⟨mm_in 6 153 rfl rfl, mm_in 0 44 rfl rfl, _, rfl, rfl⟩
theorem okM_X12_bad : mm_okM mX12_bad 0 := ⟨mm_in 6 182 rfl rfl, mm_in 1 12 rfl rfl, ⟨by decide +kernel, by decide +kernel, by decide +kernel⟩, by decide⟩
theorem okV_X12_bad : mm_okV mX12_bad 12 := ⟨mm_in 6 181 rfl rfl, mm_in 0 48 rfl rfl, _, rfl, rfl⟩
theorem okM_X12_isDigit : mm_okM mX12_isDigit 1 := ⟨mm_in 6 178 rfl rfl, mm_in 1 12 rfl rfl, ⟨by decide +kernel, by decide +kernel, by decide +kernel⟩, by decide⟩
theorem okS_X12_isDigit : Cond.static mX12_isDigit.1 ∈ mm_gw := mm_in 6 177 rfl rfl
theorem okM_X12_put : mm_okM mX12_put 2 := ⟨mm_in 6 213 rfl rfl, mm_in 1 12 rfl rfl, ⟨by decide +kernel, by decide +kernel, by decide +kernel⟩, by decide⟩
theorem okV_X12_put : mm_okV mX12_put 12 := ⟨mm_in 6 212 rfl rfl, mm_in 0 55 rfl rfl, _, rfl, rfl⟩
theorem okM_X12_letterOf : mm_okM mX12_letterOf 1 := ⟨mm_in 6 236 rfl rfl, mm_in 1 12 rfl rfl, ⟨by decide +kernel, by decide +kernel, by decide +kernel⟩, by decide⟩
theorem okS_X12_letterOf : Cond.static mX12_letterOf.1 ∈ mm_gw := mm_in 6 235 rfl rfl
theorem okM_X12_opens : mm_okM mX12_opens 0 := ⟨mm_in 6 209 rfl rfl, mm_in 1 12 rfl rfl, ⟨by decide +kernel, by decide +kernel, by decide +kernel⟩, by decide⟩
theorem okV_X12_opens : mm_okV mX12_opens 12 := ⟨mm_in 6 208 rfl rfl, mm_in 0 54 rfl rfl, _, rfl, rfl⟩
theorem okM_X12_closes : mm_okM mX12_closes 1 := ⟨mm_in 6 217 rfl rfl, mm_in 1 12 rfl rfl, ⟨by decide +kernel, by decide +kernel, by decide +kernel⟩, by decide⟩
theorem okV_X12_closes : mm_okV mX12_closes 12 := ⟨mm_in 6 216 rfl rfl, mm_in 0 56 rfl rfl, _, rfl, rfl⟩
theorem okM_X12_plainNumber : mm_okM mX12_plainNumber 0 := ⟨mm_in 6 233 rfl rfl, mm_in 1 12 rfl rfl, ⟨by decide +kernel, by decide +kernel, by decide +kernel⟩, by decide⟩
theorem okV_X12_plainNumber : mm_okV mX12_plainNumber 12 := ⟨mm_in 6 232 rfl rfl, mm_in 0 60 rfl rfl, _, rfl, rfl⟩
theorem okM_X12_atom : mm_okM mX12_atom 0 := ⟨mm_in 6 229 rfl rfl, mm_in 1 12 rfl rfl, ⟨by decide +kernel, by decide +kernel, by decide +kernel⟩, by decide⟩
theorem okV_X12_atom : mm_okV mX12_atom 12 := ⟨mm_in 6 228 rfl rfl, mm_in 0 59 rfl rfl, _, rfl, rfl⟩
theorem okM_X12_term : mm_okM mX12_term 0 := ⟨mm_in 6 225 rfl rfl, mm_in 1 12 rfl rfl, ⟨by decide +kernel, by decide +kernel, by decide +kernel⟩, by decide⟩
theorem okV_X12_term : mm_okV mX12_term 12 := ⟨mm_in 6 224 rfl rfl, mm_in 0 58 rfl rfl, _, rfl, rfl⟩
theorem okM_X12_sum : mm_okM mX12_sum 0 := ⟨mm_in 6 221 rfl rfl, mm_in 1 12 rfl rfl, ⟨by decide +kernel, by decide +kernel, by decide +kernel⟩, by decide⟩
theorem okV_X12_sum : mm_okV mX12_sum 12 := ⟨mm_in 6 220 rfl rfl, mm_in 0 57 rfl rfl, _, rfl, rfl⟩
theorem okM_X12_isSign : mm_okM mX12_isSign 1 := ⟨mm_in 7 3 rfl rfl, mm_in 1 12 rfl rfl, ⟨by decide +kernel, by decide +kernel, by decide +kernel⟩, by decide⟩
theorem okS_X12_isSign : Cond.static mX12_isSign.1 ∈ mm_gw := mm_in 7 2 rfl rfl
theorem okM_X12_compare : mm_okM mX12_compare 0 := ⟨mm_in 7 0 rfl rfl, mm_in 1 12 rfl rfl, ⟨by decide +kernel, by decide +kernel, by decide +kernel⟩, by decide⟩
theorem okV_X12_compare : mm_okV mX12_compare 12 := ⟨mm_in 6 239 rfl rfl, mm_in 0 61 rfl rfl, _, rfl, rfl⟩
theorem okM_X12_unit : mm_okM mX12_unit 0 := ⟨mm_in 6 205 rfl rfl, mm_in 1 12 rfl rfl, ⟨by decide +kernel, by decide +kernel, by decide +kernel⟩, by decide⟩
theorem okV_X12_unit : mm_okV mX12_unit 12 := ⟨mm_in 6 204 rfl rfl, mm_in 0 53 rfl rfl, _, rfl, rfl⟩
theorem okM_X12_goOnAnd : mm_okM mX12_goOnAnd 0 := ⟨mm_in 7 7 rfl rfl, mm_in 1 12 rfl rfl, ⟨by decide +kernel, by decide +kernel, by decide +kernel⟩, by decide⟩
theorem okV_X12_goOnAnd : mm_okV mX12_goOnAnd 12 := ⟨mm_in 7 6 rfl rfl, mm_in 0 62 rfl rfl, _, rfl, rfl⟩
theorem okM_X12_goOnOr : mm_okM mX12_goOnOr 0 := ⟨mm_in 7 11 rfl rfl, mm_in 1 12 rfl rfl, ⟨by decide +kernel, by decide +kernel, by decide +kernel⟩, by decide⟩
theorem okV_X12_goOnOr : mm_okV mX12_goOnOr 12 := ⟨mm_in 7 10 rfl rfl, mm_in 0 63 rfl rfl, _, rfl, rfl⟩
theorem okM_X12_condition : mm_okM mX12_condition 0 := ⟨mm_in 6 201 rfl rfl, mm_in 1 12 rfl rfl, ⟨by decide +kernel, by decide +kernel, by decide +kernel⟩, by decide⟩
theorem okV_X12_condition : mm_okV mX12_condition 12 := ⟨mm_in 6 200 rfl rfl, mm_in 0 52 rfl rfl, _, rfl, rfl⟩
theorem okM_X12_clause : mm_okM mX12_clause 0 := ⟨mm_in 6 197 rfl rfl, mm_in 1 12 rfl rfl, ⟨by decide +kernel, by decide +kernel, by decide +kernel⟩, by decide⟩
theorem okV_X12_clause : mm_okV mX12_clause 12 := ⟨mm_in 6 196 rfl rfl, mm_in 0 51 rfl rfl, _, rfl, rfl⟩
theorem okM_X12_open : mm_okM mX12_open 1 := ⟨mm_in 6 193 rfl rfl, mm_in 1 12 rfl rfl, ⟨by decide +kernel, by decide +kernel, by decide +kernel⟩, by decide⟩
theorem okV_X12_open : mm_okV mX12_open 12 := ⟨mm_in 6 192 rfl rfl, mm_in 0 50 rfl rfl, _, rfl, rfl⟩
theorem okM_X12_atEnd : mm_okM mX12_atEnd 0 := ⟨mm_in 7 15 rfl rfl, mm_in 1 12 rfl rfl, ⟨by decide +kernel, by decide +kernel, by decide +kernel⟩, by decide⟩
theorem okV_X12_atEnd : mm_okV mX12_atEnd 12 := ⟨mm_in 7 14 rfl rfl, mm_in 0 64 rfl rfl, _, rfl, rfl⟩
theorem okM_X12_readLaw : mm_okM mX12_readLaw 1 := ⟨mm_in 6 189 rfl rfl, mm_in 1 12 rfl rfl, ⟨by decide +kernel, by decide +kernel, by decide +kernel⟩, by decide⟩
theorem okV_X12_readLaw : mm_okV mX12_readLaw 12 := ⟨mm_in 6 188 rfl rfl, mm_in 0 49 rfl rfl, _, rfl, rfl⟩
theorem okM_X12_bounded : mm_okM mX12_bounded 1 := ⟨mm_in 7 96 rfl rfl, mm_in 1 12 rfl rfl, ⟨by decide +kernel, by decide +kernel, by decide +kernel⟩, by decide⟩
theorem okS_X12_bounded : Cond.static mX12_bounded.1 ∈ mm_gw := mm_in 7 95 rfl rfl
theorem okM_X12_worked : mm_okM mX12_worked 3 := ⟨mm_in 7 93 rfl rfl, mm_in 1 12 rfl rfl, ⟨by decide +kernel, by decide +kernel, by decide +kernel⟩, by decide⟩
theorem okS_X12_worked : Cond.static mX12_worked.1 ∈ mm_gw := mm_in 7 92 rfl rfl
theorem okM_X12_workOut : mm_okM mX12_workOut 3 := ⟨mm_in 7 90 rfl rfl, mm_in 1 12 rfl rfl, ⟨by decide +kernel, by decide +kernel, by decide +kernel⟩, by decide⟩
theorem okV_X12_workOut : mm_okV mX12_workOut 12 := ⟨mm_in 7 89 rfl rfl, mm_in 0 77 rfl rfl, _, rfl, rfl⟩
theorem okM_X12_worthOf : mm_okM mX12_worthOf 1 := ⟨mm_in 7 86 rfl rfl, mm_in 1 12 rfl rfl, ⟨by decide +kernel, by decide +kernel, by decide +kernel⟩, by decide⟩
theorem okV_X12_worthOf : mm_okV mX12_worthOf 12 := ⟨mm_in 7 85 rfl rfl, mm_in 0 76 rfl rfl, _, rfl, rfl⟩
theorem okM_X12_number : mm_okM mX12_number 2 := ⟨mm_in 6 175 rfl rfl, mm_in 1 12 rfl rfl, ⟨by decide +kernel, by decide +kernel, by decide +kernel⟩, by decide⟩
theorem okV_X12_number : mm_okV mX12_number 12 := ⟨mm_in 6 174 rfl rfl, mm_in 0 47 rfl rfl, _, rfl, rfl⟩
theorem okM_X12_itemOf : mm_okM mX12_itemOf 2 := ⟨mm_in 6 165 rfl rfl, mm_in 1 12 rfl rfl, ⟨by decide +kernel, by decide +kernel, by decide +kernel⟩, by decide⟩
theorem okS_X12_itemOf : Cond.static mX12_itemOf.1 ∈ mm_gw := mm_in 6 164 rfl rfl
theorem okM_X12_highest : mm_okM mX12_highest 2 := ⟨mm_in 6 171 rfl rfl, mm_in 1 12 rfl rfl, ⟨by decide +kernel, by decide +kernel, by decide +kernel⟩, by decide⟩
theorem okS_X12_highest : Cond.static mX12_highest.1 ∈ mm_gw := mm_in 6 170 rfl rfl
theorem okM_X12_usual : mm_okM mX12_usual 2 := ⟨mm_in 6 150 rfl rfl, mm_in 1 12 rfl rfl, ⟨by decide +kernel, by decide +kernel, by decide +kernel⟩, by decide⟩
theorem okS_X12_usual : Cond.static mX12_usual.1 ∈ mm_gw := mm_in 6 149 rfl rfl
theorem okM_X12_items : mm_okM mX12_items 4 := ⟨mm_in 6 162 rfl rfl, mm_in 1 12 rfl rfl, ⟨by decide +kernel, by decide +kernel, by decide +kernel⟩, by decide⟩
theorem okV_X12_items : mm_okV mX12_items 12 := ⟨mm_in 6 161 rfl rfl, mm_in 0 46 rfl rfl, _, rfl, rfl⟩
theorem okM_X12_readEstate : mm_okM mX12_readEstate 0 := ⟨mm_in 6 147 rfl rfl, mm_in 1 12 rfl rfl, ⟨by decide +kernel, by decide +kernel, by decide +kernel⟩, by decide⟩
theorem okV_X12_readEstate : mm_okV mX12_readEstate 12 := ⟨mm_in 6 146 rfl rfl, mm_in 0 43 rfl rfl, _, rfl, rfl⟩
theorem okM_X12_takeEstate : mm_okM mX12_takeEstate 0 := ⟨mm_in 7 23 rfl rfl, mm_in 1 12 rfl rfl, ⟨by decide +kernel, by decide +kernel, by decide +kernel⟩, by decide⟩
theorem okV_X12_takeEstate : mm_okV mX12_takeEstate 12 := ⟨mm_in 7 22 rfl rfl, mm_in 0 65 rfl rfl, _, rfl, rfl⟩
theorem okM_X12_of : mm_okM mX12_of 2 := ⟨mm_in 7 43 rfl rfl, mm_in 1 12 rfl rfl, ⟨by decide +kernel, by decide +kernel, by decide +kernel⟩, by decide⟩
theorem okV_X12_of : mm_okV mX12_of 12 := ⟨mm_in 7 42 rfl rfl, mm_in 0 68 rfl rfl, _, rfl, rfl⟩
theorem okM_X12_isThing : mm_okM mX12_isThing 1 := ⟨mm_in 7 35 rfl rfl, mm_in 1 12 rfl rfl, ⟨by decide +kernel, by decide +kernel, by decide +kernel⟩, by decide⟩
theorem okV_X12_isThing : mm_okV mX12_isThing 12 := ⟨mm_in 7 34 rfl rfl, mm_in 0 66 rfl rfl, _, rfl, rfl⟩
theorem okM_X12_isGun : mm_okM mX12_isGun 1 := ⟨mm_in 7 61 rfl rfl, mm_in 1 12 rfl rfl, ⟨by decide +kernel, by decide +kernel, by decide +kernel⟩, by decide⟩
theorem okV_X12_isGun : mm_okV mX12_isGun 12 := ⟨mm_in 7 60 rfl rfl, mm_in 0 70 rfl rfl, _, rfl, rfl⟩
theorem okM_X12_isColumn : mm_okM mX12_isColumn 1 := ⟨mm_in 7 53 rfl rfl, mm_in 1 12 rfl rfl, ⟨by decide +kernel, by decide +kernel, by decide +kernel⟩, by decide⟩
theorem okS_X12_isColumn : Cond.static mX12_isColumn.1 ∈ mm_gw := mm_in 7 52 rfl rfl
theorem okM_X12_isWind : mm_okM mX12_isWind 1 := ⟨mm_in 7 149 rfl rfl, mm_in 1 12 rfl rfl, ⟨by decide +kernel, by decide +kernel, by decide +kernel⟩, by decide⟩
theorem okS_X12_isWind : Cond.static mX12_isWind.1 ∈ mm_gw := mm_in 7 148 rfl rfl
theorem okM_X12_isOut : mm_okM mX12_isOut 1 := ⟨mm_in 7 73 rfl rfl, mm_in 1 12 rfl rfl, ⟨by decide +kernel, by decide +kernel, by decide +kernel⟩, by decide⟩
theorem okV_X12_isOut : mm_okV mX12_isOut 12 := ⟨mm_in 7 72 rfl rfl, mm_in 0 73 rfl rfl, _, rfl, rfl⟩
theorem okM_X12_flies : mm_okM mX12_flies 3 := ⟨mm_in 7 47 rfl rfl, mm_in 1 12 rfl rfl, ⟨by decide +kernel, by decide +kernel, by decide +kernel⟩, by decide⟩
theorem okV_X12_flies : mm_okV mX12_flies 12 := ⟨mm_in 7 46 rfl rfl, mm_in 0 69 rfl rfl, _, rfl, rfl⟩
theorem okM_X12_columnOf : mm_okM mX12_columnOf 1 := ⟨mm_in 7 50 rfl rfl, mm_in 1 12 rfl rfl, ⟨by decide +kernel, by decide +kernel, by decide +kernel⟩, by decide⟩
theorem okS_X12_columnOf : Cond.static mX12_columnOf.1 ∈ mm_gw := mm_in 7 49 rfl rfl
theorem okM_X12_overNow : mm_okM mX12_overNow 1 := ⟨mm_in 7 39 rfl rfl, mm_in 1 12 rfl rfl, ⟨by decide +kernel, by decide +kernel, by decide +kernel⟩, by decide⟩
theorem okV_X12_overNow : mm_okV mX12_overNow 12 := ⟨mm_in 7 38 rfl rfl, mm_in 0 67 rfl rfl, _, rfl, rfl⟩
theorem okM_X12_risesAt : mm_okM mX12_risesAt 2 := ⟨mm_in 7 69 rfl rfl, mm_in 1 12 rfl rfl, ⟨by decide +kernel, by decide +kernel, by decide +kernel⟩, by decide⟩
theorem okV_X12_risesAt : mm_okV mX12_risesAt 12 := ⟨mm_in 7 68 rfl rfl, mm_in 0 72 rfl rfl, _, rfl, rfl⟩
theorem okM_X12_reachOf : mm_okM mX12_reachOf 4 := ⟨mm_in 7 81 rfl rfl, mm_in 1 12 rfl rfl, ⟨by decide +kernel, by decide +kernel, by decide +kernel⟩, by decide⟩
theorem okV_X12_reachOf : mm_okV mX12_reachOf 12 := ⟨mm_in 7 80 rfl rfl, mm_in 0 75 rfl rfl, _, rfl, rfl⟩
theorem okM_X12_takes : mm_okM mX12_takes 2 := ⟨mm_in 7 77 rfl rfl, mm_in 1 12 rfl rfl, ⟨by decide +kernel, by decide +kernel, by decide +kernel⟩, by decide⟩
theorem okV_X12_takes : mm_okV mX12_takes 12 := ⟨mm_in 7 76 rfl rfl, mm_in 0 74 rfl rfl, _, rfl, rfl⟩
theorem okM_X12_layDrive : mm_okM mX12_layDrive 0 := ⟨mm_in 7 65 rfl rfl, mm_in 1 12 rfl rfl, ⟨by decide +kernel, by decide +kernel, by decide +kernel⟩, by decide⟩
theorem okV_X12_layDrive : mm_okV mX12_layDrive 12 := ⟨mm_in 7 64 rfl rfl, mm_in 0 71 rfl rfl, _, rfl, rfl⟩
theorem okM_X12_keep : mm_okM mX12_keep 0 := ⟨mm_in 7 126 rfl rfl, mm_in 1 12 rfl rfl, ⟨by decide +kernel, by decide +kernel, by decide +kernel⟩, by decide⟩
theorem okV_X12_keep : mm_okV mX12_keep 12 := ⟨mm_in 7 125 rfl rfl, mm_in 0 80 rfl rfl, _, rfl, rfl⟩
theorem okM_X12_isRefused : mm_okM mX12_isRefused 1 := ⟨mm_in 7 122 rfl rfl, mm_in 1 12 rfl rfl, ⟨by decide +kernel, by decide +kernel, by decide +kernel⟩, by decide⟩
theorem okV_X12_isRefused : mm_okV mX12_isRefused 12 := ⟨mm_in 7 121 rfl rfl, mm_in 0 79 rfl rfl, _, rfl, rfl⟩
theorem okM_X12_passDrive : mm_okM mX12_passDrive 0 := ⟨mm_in 7 130 rfl rfl, mm_in 1 12 rfl rfl, ⟨by decide +kernel, by decide +kernel, by decide +kernel⟩, by decide⟩
theorem okV_X12_passDrive : mm_okV mX12_passDrive 12 := ⟨mm_in 7 129 rfl rfl, mm_in 0 81 rfl rfl, _, rfl, rfl⟩
theorem okM_X12_areDrives : mm_okM mX12_areDrives 1 := ⟨mm_in 7 118 rfl rfl, mm_in 1 12 rfl rfl, ⟨by decide +kernel, by decide +kernel, by decide +kernel⟩, by decide⟩
theorem okV_X12_areDrives : mm_okV mX12_areDrives 12 := ⟨mm_in 7 117 rfl rfl, mm_in 0 78 rfl rfl, _, rfl, rfl⟩
theorem okM_X12_draw : mm_okM mX12_draw 1 := ⟨mm_in 7 169 rfl rfl, mm_in 1 12 rfl rfl, ⟨by decide +kernel, by decide +kernel, by decide +kernel⟩, by decide⟩
theorem okV_X12_draw : mm_okV mX12_draw 12 := ⟨mm_in 7 168 rfl rfl, mm_in 0 83 rfl rfl, _, rfl, rfl⟩
theorem okM_X12_drawDrive : mm_okM mX12_drawDrive 0 := ⟨mm_in 7 165 rfl rfl, mm_in 1 12 rfl rfl, ⟨by decide +kernel, by decide +kernel, by decide +kernel⟩, by decide⟩
theorem okV_X12_drawDrive : mm_okV mX12_drawDrive 12 := ⟨mm_in 7 164 rfl rfl, mm_in 0 82 rfl rfl, _, rfl, rfl⟩
theorem okM_X12_tryRow : mm_okM mX12_tryRow 3 := ⟨mm_in 7 195 rfl rfl, mm_in 1 12 rfl rfl, ⟨by decide +kernel, by decide +kernel, by decide +kernel⟩, by decide⟩
theorem okV_X12_tryRow : mm_okV mX12_tryRow 12 := ⟨mm_in 7 194 rfl rfl, mm_in 0 84 rfl rfl, _, rfl, rfl⟩
theorem okM_X12_layPegs : mm_okM mX12_layPegs 0 := ⟨mm_in 7 207 rfl rfl, mm_in 1 12 rfl rfl, ⟨by decide +kernel, by decide +kernel, by decide +kernel⟩, by decide⟩
theorem okV_X12_layPegs : mm_okV mX12_layPegs 12 := ⟨mm_in 7 206 rfl rfl, mm_in 0 85 rfl rfl, _, rfl, rfl⟩
theorem okM_X12_unlike : mm_okM mX12_unlike 0 := ⟨mm_in 7 215 rfl rfl, mm_in 1 12 rfl rfl, ⟨by decide +kernel, by decide +kernel, by decide +kernel⟩, by decide⟩
theorem okV_X12_unlike : mm_okV mX12_unlike 12 := ⟨mm_in 7 214 rfl rfl, mm_in 0 87 rfl rfl, _, rfl, rfl⟩
theorem okM_X12_tryDeals : mm_okM mX12_tryDeals 3 := ⟨mm_in 7 211 rfl rfl, mm_in 1 12 rfl rfl, ⟨by decide +kernel, by decide +kernel, by decide +kernel⟩, by decide⟩
theorem okV_X12_tryDeals : mm_okV mX12_tryDeals 12 := ⟨mm_in 7 210 rfl rfl, mm_in 0 86 rfl rfl, _, rfl, rfl⟩
theorem okM_X12_isLay : mm_okM mX12_isLay 2 := ⟨mm_in 7 227 rfl rfl, mm_in 1 12 rfl rfl, ⟨by decide +kernel, by decide +kernel, by decide +kernel⟩, by decide⟩
theorem okV_X12_isLay : mm_okV mX12_isLay 12 := ⟨mm_in 7 226 rfl rfl, mm_in 0 88 rfl rfl, _, rfl, rfl⟩
theorem okM_X12_lay : mm_okM mX12_lay 2 := ⟨mm_in 7 223 rfl rfl, mm_in 1 12 rfl rfl, ⟨by decide +kernel, by decide +kernel, by decide +kernel⟩, by decide⟩
theorem okV_X12_lay : mm_okV mX12_lay 12 := ⟨mm_in 7 221 rfl rfl, mm_in 7 222 rfl rfl, _, rfl, rfl⟩
theorem okM_X12_tryClaims : mm_okM mX12_tryClaims 4 := ⟨mm_in 8 4 rfl rfl, mm_in 1 12 rfl rfl, ⟨by decide +kernel, by decide +kernel, by decide +kernel⟩, by decide⟩
theorem okV_X12_tryClaims : mm_okV mX12_tryClaims 12 := ⟨mm_in 8 3 rfl rfl, mm_in 0 90 rfl rfl, _, rfl, rfl⟩
theorem okM_X12_claimable : mm_okM mX12_claimable 0 := ⟨mm_in 8 0 rfl rfl, mm_in 1 12 rfl rfl, ⟨by decide +kernel, by decide +kernel, by decide +kernel⟩, by decide⟩
theorem okV_X12_claimable : mm_okV mX12_claimable 12 := ⟨mm_in 7 239 rfl rfl, mm_in 0 89 rfl rfl, _, rfl, rfl⟩
theorem okM_X12_gameOf : mm_okM mX12_gameOf 4 := ⟨mm_in 8 17 rfl rfl, mm_in 1 12 rfl rfl, ⟨by decide +kernel, by decide +kernel, by decide +kernel⟩, by decide⟩
theorem okV_X12_gameOf : mm_okV mX12_gameOf 12 := ⟨mm_in 8 16 rfl rfl, mm_in 0 92 rfl rfl, _, rfl, rfl⟩
theorem okM_X12_areTwo : mm_okM mX12_areTwo 2 := ⟨mm_in 8 12 rfl rfl, mm_in 1 12 rfl rfl, ⟨by decide +kernel, by decide +kernel, by decide +kernel⟩, by decide⟩
theorem okV_X12_areTwo : mm_okV mX12_areTwo 12 := ⟨mm_in 8 11 rfl rfl, mm_in 0 91 rfl rfl, _, rfl, rfl⟩
theorem okM_X12_isRest : mm_okM mX12_isRest 4 := ⟨mm_in 8 25 rfl rfl, mm_in 1 12 rfl rfl, ⟨by decide +kernel, by decide +kernel, by decide +kernel⟩, by decide⟩
theorem okV_X12_isRest : mm_okV mX12_isRest 12 := ⟨mm_in 8 24 rfl rfl, mm_in 0 93 rfl rfl, _, rfl, rfl⟩
theorem okM_X12_oddsFrom : mm_okM mX12_oddsFrom 4 := ⟨mm_in 8 34 rfl rfl, mm_in 1 12 rfl rfl, ⟨by decide +kernel, by decide +kernel, by decide +kernel⟩, by decide⟩
theorem okV_X12_oddsFrom : mm_okV mX12_oddsFrom 12 := ⟨mm_in 8 33 rfl rfl, mm_in 0 94 rfl rfl, _, rfl, rfl⟩
theorem okM_X12_bagsOfAll : mm_okM mX12_bagsOfAll 0 := ⟨mm_in 8 43 rfl rfl, mm_in 1 12 rfl rfl, ⟨by decide +kernel, by decide +kernel, by decide +kernel⟩, by decide⟩
theorem okV_X12_bagsOfAll : mm_okV mX12_bagsOfAll 12 := ⟨mm_in 8 42 rfl rfl, mm_in 0 95 rfl rfl, _, rfl, rfl⟩
theorem okM_X12_finest : mm_okM mX12_finest 0 := ⟨mm_in 8 55 rfl rfl, mm_in 1 12 rfl rfl, ⟨by decide +kernel, by decide +kernel, by decide +kernel⟩, by decide⟩
theorem okV_X12_finest : mm_okV mX12_finest 12 := ⟨mm_in 8 54 rfl rfl, mm_in 0 96 rfl rfl, _, rfl, rfl⟩
theorem okM_X12_busiest : mm_okM mX12_busiest 0 := ⟨mm_in 8 59 rfl rfl, mm_in 1 12 rfl rfl, ⟨by decide +kernel, by decide +kernel, by decide +kernel⟩, by decide⟩
theorem okV_X12_busiest : mm_okV mX12_busiest 12 := ⟨mm_in 8 58 rfl rfl, mm_in 0 97 rfl rfl, _, rfl, rfl⟩
theorem okM_X12_topGun : mm_okM mX12_topGun 1 := ⟨mm_in 8 63 rfl rfl, mm_in 1 12 rfl rfl, ⟨by decide +kernel, by decide +kernel, by decide +kernel⟩, by decide⟩
theorem okV_X12_topGun : mm_okV mX12_topGun 12 := ⟨mm_in 8 62 rfl rfl, mm_in 0 98 rfl rfl, _, rfl, rfl⟩
theorem okM_X12_gap : mm_okM mX12_gap 0 := ⟨mm_in 8 67 rfl rfl, mm_in 1 12 rfl rfl, ⟨by decide +kernel, by decide +kernel, by decide +kernel⟩, by decide⟩
theorem okV_X12_gap : mm_okV mX12_gap 12 := ⟨mm_in 8 66 rfl rfl, mm_in 0 99 rfl rfl, _, rfl, rfl⟩
theorem okM_X12_whole : mm_okM mX12_whole 0 := ⟨mm_in 8 71 rfl rfl, mm_in 1 12 rfl rfl, ⟨by decide +kernel, by decide +kernel, by decide +kernel⟩, by decide⟩
theorem okV_X12_whole : mm_okV mX12_whole 12 := ⟨mm_in 8 70 rfl rfl, mm_in 0 100 rfl rfl, _, rfl, rfl⟩
theorem okM_J11_isValidCodePoint_9a6ad : mm_okM mJ11_isValidCodePoint_9a6ad 1 := ⟨mm_in 3 45 rfl rfl, mm_in 1 19 rfl rfl, ⟨by decide +kernel, by decide +kernel, by decide +kernel⟩, by decide⟩
theorem okS_J11_isValidCodePoint_9a6ad : Cond.static mJ11_isValidCodePoint_9a6ad.1 ∈ mm_gw := mm_in 3 44 rfl rfl
theorem okM_J11_highSurrogate_5068e : mm_okM mJ11_highSurrogate_5068e 1 := ⟨mm_in 3 48 rfl rfl, mm_in 1 19 rfl rfl, ⟨by decide +kernel, by decide +kernel, by decide +kernel⟩, by decide⟩
theorem okS_J11_highSurrogate_5068e : Cond.static mJ11_highSurrogate_5068e.1 ∈ mm_gw := mm_in 3 47 rfl rfl
theorem okM_J11_lowSurrogate_5068e : mm_okM mJ11_lowSurrogate_5068e 1 := ⟨mm_in 3 52 rfl rfl, mm_in 1 19 rfl rfl, ⟨by decide +kernel, by decide +kernel, by decide +kernel⟩, by decide⟩
theorem okS_J11_lowSurrogate_5068e : Cond.static mJ11_lowSurrogate_5068e.1 ∈ mm_gw := mm_in 3 51 rfl rfl
theorem okM_J6_bitCount_0f7a4 : mm_okM mJ6_bitCount_0f7a4 1 := ⟨mm_in 5 95 rfl rfl, mm_in 1 26 rfl rfl, ⟨by decide +kernel, by decide +kernel, by decide +kernel⟩, by decide⟩
theorem okS_J6_bitCount_0f7a4 : Cond.static mJ6_bitCount_0f7a4.1 ∈ mm_gw := mm_in 5 94 rfl rfl
theorem okM_J9_floorMod_7cf53 : mm_okM mJ9_floorMod_7cf53 2 := ⟨mm_in 4 58 rfl rfl, mm_in 1 16 rfl rfl, ⟨by decide +kernel, by decide +kernel, by decide +kernel⟩, by decide⟩
theorem okS_J9_floorMod_7cf53 : Cond.static mJ9_floorMod_7cf53.1 ∈ mm_gw := mm_in 4 57 rfl rfl
theorem okM_J0_length_8abf5 : mm_okM mJ0_length_8abf5 0 := ⟨mm_in 2 210 rfl rfl, mm_in 1 14 rfl rfl, ⟨by decide +kernel, by decide +kernel, by decide +kernel⟩, by decide⟩
theorem okX_J0_length_8abf5 : Cond.instanceMethod mJ0_length_8abf5.1 ∈ mm_gw ∧ Cond.selects mJ0_length_8abf5.1.cls mJ0_length_8abf5.1 mJ0_length_8abf5.1 ∈ mm_gw ∧ mJ0_length_8abf5.1.cls = "java/lang/String" := ⟨mm_in 2 208 rfl rfl, mm_in 2 209 rfl rfl, rfl⟩
theorem okM_J0_indexOf_0f7a4 : mm_okM mJ0_indexOf_0f7a4 1 := ⟨mm_in 2 220 rfl rfl, mm_in 1 14 rfl rfl, ⟨by decide +kernel, by decide +kernel, by decide +kernel⟩, by decide⟩
theorem okX_J0_indexOf_0f7a4 : Cond.instanceMethod mJ0_indexOf_0f7a4.1 ∈ mm_gw ∧ Cond.selects mJ0_indexOf_0f7a4.1.cls mJ0_indexOf_0f7a4.1 mJ0_indexOf_0f7a4.1 ∈ mm_gw ∧ mJ0_indexOf_0f7a4.1.cls = "java/lang/String" := ⟨mm_in 2 218 rfl rfl, mm_in 2 219 rfl rfl, rfl⟩
theorem okM_J0_indexOf_7cf53 : mm_okM mJ0_indexOf_7cf53 2 := ⟨mm_in 2 224 rfl rfl, mm_in 1 14 rfl rfl, ⟨by decide +kernel, by decide +kernel, by decide +kernel⟩, by decide⟩
theorem okX_J0_indexOf_7cf53 : Cond.instanceMethod mJ0_indexOf_7cf53.1 ∈ mm_gw ∧ Cond.selects mJ0_indexOf_7cf53.1.cls mJ0_indexOf_7cf53.1 mJ0_indexOf_7cf53.1 ∈ mm_gw ∧ mJ0_indexOf_7cf53.1.cls = "java/lang/String" := ⟨mm_in 2 222 rfl rfl, mm_in 2 223 rfl rfl, rfl⟩
theorem okM_J0_coder_7d493 : mm_okM mJ0_coder_7d493 0 := ⟨mm_in 2 214 rfl rfl, mm_in 1 14 rfl rfl, ⟨by decide +kernel, by decide +kernel, by decide +kernel⟩, by decide⟩
theorem okX_J0_coder_7d493 : Cond.instanceMethod mJ0_coder_7d493.1 ∈ mm_gw ∧ Cond.selects mJ0_coder_7d493.1.cls mJ0_coder_7d493.1 mJ0_coder_7d493.1 ∈ mm_gw ∧ mJ0_coder_7d493.1.cls = "java/lang/String" := ⟨mm_in 2 212 rfl rfl, mm_in 2 213 rfl rfl, rfl⟩
theorem okM_J0_isLatin1_aae02 : mm_okM mJ0_isLatin1_aae02 0 := ⟨mm_in 2 228 rfl rfl, mm_in 1 14 rfl rfl, ⟨by decide +kernel, by decide +kernel, by decide +kernel⟩, by decide⟩
theorem okX_J0_isLatin1_aae02 : Cond.instanceMethod mJ0_isLatin1_aae02.1 ∈ mm_gw ∧ Cond.selects mJ0_isLatin1_aae02.1.cls mJ0_isLatin1_aae02.1 mJ0_isLatin1_aae02.1 ∈ mm_gw ∧ mJ0_isLatin1_aae02.1.cls = "java/lang/String" := ⟨mm_in 2 226 rfl rfl, mm_in 2 227 rfl rfl, rfl⟩
theorem okM_J0_checkBoundsBeginEnd_23922 : mm_okM mJ0_checkBoundsBeginEnd_23922 3 := ⟨mm_in 3 22 rfl rfl, mm_in 1 14 rfl rfl, ⟨by decide +kernel, by decide +kernel, by decide +kernel⟩, by decide⟩
theorem okS_J0_checkBoundsBeginEnd_23922 : Cond.static mJ0_checkBoundsBeginEnd_23922.1 ∈ mm_gw := mm_in 3 21 rfl rfl
theorem okM_J1_canEncode_9a6ad : mm_okM mJ1_canEncode_9a6ad 1 := ⟨mm_in 2 235 rfl rfl, mm_in 1 15 rfl rfl, ⟨by decide +kernel, by decide +kernel, by decide +kernel⟩, by decide⟩
theorem okS_J1_canEncode_9a6ad : Cond.static mJ1_canEncode_9a6ad.1 ∈ mm_gw := mm_in 2 234 rfl rfl
theorem okM_J1_indexOf_4cfef : mm_okM mJ1_indexOf_4cfef 4 := ⟨mm_in 2 232 rfl rfl, mm_in 1 15 rfl rfl, ⟨by decide +kernel, by decide +kernel, by decide +kernel⟩, by decide⟩
theorem okS_J1_indexOf_4cfef : Cond.static mJ1_indexOf_4cfef.1 ∈ mm_gw := mm_in 2 231 rfl rfl
theorem okM_J1_indexOfChar_4cfef : mm_okM mJ1_indexOfChar_4cfef 4 := ⟨mm_in 3 4 rfl rfl, mm_in 1 15 rfl rfl, ⟨by decide +kernel, by decide +kernel, by decide +kernel⟩, by decide⟩
theorem okS_J1_indexOfChar_4cfef : Cond.static mJ1_indexOfChar_4cfef.1 ∈ mm_gw := mm_in 3 3 rfl rfl
theorem okM_J2_getChar_3b067 : mm_okM mJ2_getChar_3b067 2 := ⟨mm_in 3 33 rfl rfl, mm_in 1 17 rfl rfl, ⟨by decide +kernel, by decide +kernel, by decide +kernel⟩, by decide⟩
theorem okS_J2_getChar_3b067 : Cond.static mJ2_getChar_3b067.1 ∈ mm_gw := mm_in 3 32 rfl rfl
theorem okM_J2_length_9d52b : mm_okM mJ2_length_9d52b 1 := ⟨mm_in 3 19 rfl rfl, mm_in 1 17 rfl rfl, ⟨by decide +kernel, by decide +kernel, by decide +kernel⟩, by decide⟩
theorem okS_J2_length_9d52b : Cond.static mJ2_length_9d52b.1 ∈ mm_gw := mm_in 3 18 rfl rfl
theorem okM_J2_indexOf_4cfef : mm_okM mJ2_indexOf_4cfef 4 := ⟨mm_in 3 7 rfl rfl, mm_in 1 17 rfl rfl, ⟨by decide +kernel, by decide +kernel, by decide +kernel⟩, by decide⟩
theorem okS_J2_indexOf_4cfef : Cond.static mJ2_indexOf_4cfef.1 ∈ mm_gw := mm_in 3 6 rfl rfl
theorem okM_J2_indexOfChar_4cfef : mm_okM mJ2_indexOfChar_4cfef 4 := ⟨mm_in 3 13 rfl rfl, mm_in 1 17 rfl rfl, ⟨by decide +kernel, by decide +kernel, by decide +kernel⟩, by decide⟩
theorem okS_J2_indexOfChar_4cfef : Cond.static mJ2_indexOfChar_4cfef.1 ∈ mm_gw := mm_in 3 12 rfl rfl
theorem okM_J2_indexOfCharUnsafe_4cfef : mm_okM mJ2_indexOfCharUnsafe_4cfef 4 := ⟨mm_in 3 30 rfl rfl, mm_in 1 17 rfl rfl, ⟨by decide +kernel, by decide +kernel, by decide +kernel⟩, by decide⟩
theorem okS_J2_indexOfCharUnsafe_4cfef : Cond.static mJ2_indexOfCharUnsafe_4cfef.1 ∈ mm_gw := mm_in 3 29 rfl rfl
theorem okM_J2_indexOfSupplementary_4cfef : mm_okM mJ2_indexOfSupplementary_4cfef 4 := ⟨mm_in 3 42 rfl rfl, mm_in 1 17 rfl rfl, ⟨by decide +kernel, by decide +kernel, by decide +kernel⟩, by decide⟩
theorem okS_J2_indexOfSupplementary_4cfef : Cond.static mJ2_indexOfSupplementary_4cfef.1 ∈ mm_gw := mm_in 3 41 rfl rfl
theorem okM_J2_checkBoundsBeginEnd_d044e : mm_okM mJ2_checkBoundsBeginEnd_d044e 3 := ⟨mm_in 3 16 rfl rfl, mm_in 1 17 rfl rfl, ⟨by decide +kernel, by decide +kernel, by decide +kernel⟩, by decide⟩
theorem okS_J2_checkBoundsBeginEnd_d044e : Cond.static mJ2_checkBoundsBeginEnd_d044e.1 ∈ mm_gw := mm_in 3 15 rfl rfl
theorem okM_J7_fill_53178 : mm_okM mJ7_fill_53178 2 := ⟨mm_in 3 227 rfl rfl, mm_in 1 21 rfl rfl, ⟨by decide +kernel, by decide +kernel, by decide +kernel⟩, by decide⟩
theorem okS_J7_fill_53178 : Cond.static mJ7_fill_53178.1 ∈ mm_gw := mm_in 3 226 rfl rfl
theorem okM_J7_copyOf_59c91 : mm_okM mJ7_copyOf_59c91 2 := ⟨mm_in 3 172 rfl rfl, mm_in 1 21 rfl rfl, ⟨by decide +kernel, by decide +kernel, by decide +kernel⟩, by decide⟩
theorem okS_J7_copyOf_59c91 : Cond.static mJ7_copyOf_59c91.1 ∈ mm_gw := mm_in 3 171 rfl rfl
theorem okM_J3_checkFromToIndex_8c36e : mm_okM mJ3_checkFromToIndex_8c36e 4 := ⟨mm_in 3 27 rfl rfl, mm_in 1 18 rfl rfl, ⟨by decide +kernel, by decide +kernel, by decide +kernel⟩, by decide⟩
theorem okS_J3_checkFromToIndex_8c36e : Cond.static mJ3_checkFromToIndex_8c36e.1 ∈ mm_gw := mm_in 3 26 rfl rfl
theorem okM_M_max : mm_okM mM_max 2 := ⟨mm_in 2 238 rfl rfl, mm_in 1 16 rfl rfl, ⟨by decide +kernel, by decide +kernel, by decide +kernel⟩, by decide⟩
theorem okS_M_max : Cond.static mM_max.1 ∈ mm_gw := mm_in 2 237 rfl rfl
theorem okM_M_min : mm_okM mM_min 2 := ⟨mm_in 3 1 rfl rfl, mm_in 1 16 rfl rfl, ⟨by decide +kernel, by decide +kernel, by decide +kernel⟩, by decide⟩
theorem okS_M_min : Cond.static mM_min.1 ∈ mm_gw := mm_in 3 0 rfl rfl
theorem okM_M_abs : mm_okM mM_abs 1 := ⟨mm_in 4 9 rfl rfl, mm_in 1 16 rfl rfl, ⟨by decide +kernel, by decide +kernel, by decide +kernel⟩, by decide⟩
theorem okS_M_abs : Cond.static mM_abs.1 ∈ mm_gw := mm_in 4 8 rfl rfl
theorem okM_M_maxL : mm_okM mM_maxL 2 := ⟨mm_in 7 104 rfl rfl, mm_in 1 16 rfl rfl, ⟨by decide +kernel, by decide +kernel, by decide +kernel⟩, by decide⟩
theorem okS_M_maxL : Cond.static mM_maxL.1 ∈ mm_gw := mm_in 7 103 rfl rfl
theorem okM_M_minL : mm_okM mM_minL 2 := ⟨mm_in 7 101 rfl rfl, mm_in 1 16 rfl rfl, ⟨by decide +kernel, by decide +kernel, by decide +kernel⟩, by decide⟩
theorem okS_M_minL : Cond.static mM_minL.1 ∈ mm_gw := mm_in 7 100 rfl rfl
theorem mm_okX_is : mm_okX := ⟨mm_cs (⟨_, rfl, mm_in 2 198 rfl rfl⟩) <| mm_cs (⟨_, rfl, mm_in 2 179 rfl rfl⟩) <| mm_cs (⟨_, rfl, mm_in 3 68 rfl rfl⟩) <| mm_cs (⟨_, rfl, mm_in 3 70 rfl rfl⟩) <| mm_cs (⟨_, rfl, mm_in 3 77 rfl rfl⟩) <| mm_cs (⟨_, rfl, mm_in 3 79 rfl rfl⟩) <| mm_nl, mm_in 8 108 rfl rfl, mm_in 8 109 rfl rfl, mm_in 2 215 rfl rfl, mm_cs (⟨mm_in 3 150 rfl rfl, mm_in 2 206 rfl rfl, mm_in 2 205 rfl rfl, mm_in 1 13 rfl rfl⟩) <| mm_cs (⟨mm_in 2 204 rfl rfl, mm_in 2 206 rfl rfl, mm_in 2 205 rfl rfl, mm_in 1 13 rfl rfl⟩) <| mm_cs (⟨mm_in 5 111 rfl rfl, mm_in 2 206 rfl rfl, mm_in 2 205 rfl rfl, mm_in 1 13 rfl rfl⟩) <| mm_cs (⟨mm_in 3 155 rfl rfl, mm_in 2 206 rfl rfl, mm_in 2 205 rfl rfl, mm_in 1 13 rfl rfl⟩) <| mm_cs (⟨mm_in 3 181 rfl rfl, mm_in 2 206 rfl rfl, mm_in 2 205 rfl rfl, mm_in 1 13 rfl rfl⟩) <| mm_nl⟩
theorem okFX0 : ∀ q ∈ tbX0.2.1, mm_okF tbX0.1 q := mm_cs (⟨_, rfl, okcX0, by decide, by decide, rfl, mm_in 2 89 rfl rfl⟩) <| mm_cs (⟨_, rfl, okcX0, by decide, by decide, rfl, mm_in 2 90 rfl rfl⟩) <| mm_cs (⟨_, rfl, okcX0, by decide, by decide, rfl, mm_in 2 91 rfl rfl⟩) <| mm_cs (⟨_, rfl, okcX4, by decide, by decide, rfl, mm_in 1 211 rfl rfl⟩) <| mm_cs (⟨_, rfl, okcX4, by decide, by decide, rfl, mm_in 1 208 rfl rfl⟩) <| mm_cs (⟨_, rfl, okcX2, by decide, by decide, rfl, mm_in 1 70 rfl rfl⟩) <| mm_cs (⟨_, rfl, okcX8, by decide, by decide, rfl, mm_in 1 120 rfl rfl⟩) <| mm_cs (⟨_, rfl, okcX4, by decide, by decide, rfl, mm_in 1 232 rfl rfl⟩) <| mm_cs (⟨_, rfl, okcX2, by decide, by decide, rfl, mm_in 1 75 rfl rfl⟩) <| mm_nl
theorem okCX0 : ∀ q ∈ tbX0.2.2.1, mm_okC tbX0.1 q := mm_cs (mm_okC_V tab_22 okM_X4_run (Or.inl (mm_in 4 212 rfl rfl)) okV_X4_run) <| mm_cs (mm_okC_V tab_10 okM_X2_over (Or.inl (mm_in 4 213 rfl rfl)) okV_X2_over) <| mm_cs (mm_okC_S tab_111 okM_X11_isColumn (Or.inr ⟨"BeatenAfternoon", List.mem_of_getElem? (i := 13) rfl⟩) okS_X11_isColumn) <| mm_cs (mm_okC_V tab_25 okM_X4_reach (Or.inl (mm_in 4 215 rfl rfl)) okV_X4_reach) <| mm_cs (mm_okC_S tab_259 okM_J7_fill_53178 (Or.inl (mm_in 4 220 rfl rfl)) okS_J7_fill_53178) <| mm_cs (mm_okC_V tab_2 okM_X0_mostBy (Or.inl (mm_in 4 221 rfl rfl)) okV_X0_mostBy) <| mm_cs (mm_okC_max tab_262 okM_M_max (mm_in 4 225 rfl rfl) okS_M_max) <| mm_cs (mm_okC_V tab_5 okM_X0_firstBest (Or.inl (mm_in 4 230 rfl rfl)) okV_X0_firstBest) <| mm_nl
theorem okTX0 : mm_okT mm_tab tbX0 := ⟨okFX0, okCX0, mm_nl, mm_nl, mm_okX_is⟩
theorem okFX1 : ∀ q ∈ tbX1.2.1, mm_okF tbX1.1 q := mm_cs (⟨_, rfl, okcX1, by decide, by decide, rfl, mm_in 2 105 rfl rfl⟩) <| mm_cs (⟨_, rfl, okcX1, by decide, by decide, rfl, mm_in 2 106 rfl rfl⟩) <| mm_cs (⟨_, rfl, okcX4, by decide, by decide, rfl, mm_in 1 214 rfl rfl⟩) <| mm_cs (⟨_, rfl, okcX4, by decide, by decide, rfl, mm_in 1 225 rfl rfl⟩) <| mm_nl
theorem okCX1 : ∀ q ∈ tbX1.2.2.1, mm_okC tbX1.1 q := mm_cs (mm_okC_V tab_31 okM_X4_stepAside (Or.inl (mm_in 5 22 rfl rfl)) okV_X4_stepAside) <| mm_cs (mm_okC_V tab_22 okM_X4_run (Or.inl (mm_in 5 23 rfl rfl)) okV_X4_run) <| mm_nl
theorem okTX1 : mm_okT mm_tab tbX1 := ⟨okFX1, okCX1, mm_nl, mm_nl, mm_okX_is⟩
theorem okFX2 : ∀ q ∈ tbX2.2.1, mm_okF tbX2.1 q := mm_cs (⟨_, rfl, okcX2, by decide, by decide, rfl, mm_in 1 68 rfl rfl⟩) <| mm_cs (⟨_, rfl, okcX2, by decide, by decide, rfl, mm_in 1 73 rfl rfl⟩) <| mm_cs (⟨_, rfl, okcX2, by decide, by decide, rfl, mm_in 1 78 rfl rfl⟩) <| mm_cs (⟨_, rfl, okcX2, by decide, by decide, rfl, mm_in 1 82 rfl rfl⟩) <| mm_cs (⟨_, rfl, okcX2, by decide, by decide, rfl, mm_in 1 86 rfl rfl⟩) <| mm_cs (⟨_, rfl, okcX2, by decide, by decide, rfl, mm_in 1 89 rfl rfl⟩) <| mm_cs (⟨_, rfl, okcX2, by decide, by decide, rfl, mm_in 1 93 rfl rfl⟩) <| mm_nl
theorem okCX2 : ∀ q ∈ tbX2.2.2.1, mm_okC tbX2.1 q := mm_cs (mm_okC_V tab_11 okM_X2_overFrom (Or.inl (mm_in 3 232 rfl rfl)) okV_X2_overFrom) <| mm_nl
theorem okTX2 : mm_okT mm_tab tbX2 := ⟨okFX2, okCX2, mm_nl, mm_nl, mm_okX_is⟩
theorem okFX3 : ∀ q ∈ tbX3.2.1, mm_okF tbX3.1 q := mm_cs (⟨_, rfl, okcX3, by decide, by decide, rfl, mm_in 1 169 rfl rfl⟩) <| mm_cs (⟨_, rfl, okcX3, by decide, by decide, rfl, mm_in 1 171 rfl rfl⟩) <| mm_cs (⟨_, rfl, okcX3, by decide, by decide, rfl, mm_in 1 173 rfl rfl⟩) <| mm_cs (⟨_, rfl, okcX3, by decide, by decide, rfl, mm_in 1 174 rfl rfl⟩) <| mm_cs (⟨_, rfl, okcX10, by decide, by decide, rfl, mm_in 1 45 rfl rfl⟩) <| mm_cs (⟨_, rfl, okcX2, by decide, by decide, rfl, mm_in 1 69 rfl rfl⟩) <| mm_cs (⟨_, rfl, okcX2, by decide, by decide, rfl, mm_in 1 74 rfl rfl⟩) <| mm_cs (⟨_, rfl, okcX8, by decide, by decide, rfl, mm_in 1 136 rfl rfl⟩) <| mm_cs (⟨_, rfl, okcX8, by decide, by decide, rfl, mm_in 1 128 rfl rfl⟩) <| mm_cs (⟨_, rfl, okcX8, by decide, by decide, rfl, mm_in 1 132 rfl rfl⟩) <| mm_cs (⟨_, rfl, okcX8, by decide, by decide, rfl, mm_in 1 121 rfl rfl⟩) <| mm_cs (⟨_, rfl, okcX8, by decide, by decide, rfl, mm_in 1 125 rfl rfl⟩) <| mm_cs (⟨_, rfl, okcX2, by decide, by decide, rfl, mm_in 1 80 rfl rfl⟩) <| mm_cs (⟨_, rfl, okcX2, by decide, by decide, rfl, mm_in 1 84 rfl rfl⟩) <| mm_cs (⟨_, rfl, okcX2, by decide, by decide, rfl, mm_in 1 87 rfl rfl⟩) <| mm_cs (⟨_, rfl, okcX2, by decide, by decide, rfl, mm_in 1 91 rfl rfl⟩) <| mm_cs (⟨_, rfl, okcX2, by decide, by decide, rfl, mm_in 1 94 rfl rfl⟩) <| mm_cs (⟨_, rfl, okcX8, by decide, by decide, rfl, mm_in 1 141 rfl rfl⟩) <| mm_cs (⟨_, rfl, okcX8, by decide, by decide, rfl, mm_in 1 145 rfl rfl⟩) <| mm_nl
theorem okCX3 : ∀ q ∈ tbX3.2.2.1, mm_okC tbX3.1 q := mm_cs (mm_okC_V tab_15 okM_X3_setRules (Or.inl (mm_in 2 181 rfl rfl)) okV_X3_setRules) <| mm_cs (mm_okC_V tab_13 okM_X3_readClause (Or.inl (mm_in 2 185 rfl rfl)) okV_X3_readClause) <| mm_cs (mm_okC_V tab_67 okM_X10_look (Or.inl (mm_in 2 189 rfl rfl)) okV_X10_look) <| mm_cs (mm_okC_V tab_68 okM_X10_pass (Or.inl (mm_in 3 81 rfl rfl)) okV_X10_pass) <| mm_cs (mm_okC_V tab_14 okM_X3_readRules (Or.inl (mm_in 2 193 rfl rfl)) okV_X3_readRules) <| mm_cs (mm_okC_V tab_16 okM_X3_readThing (Or.inl (mm_in 3 63 rfl rfl)) okV_X3_readThing) <| mm_cs (mm_okC_V tab_17 okM_X3_readGun (Or.inl (mm_in 3 72 rfl rfl)) okV_X3_readGun) <| mm_cs (mm_okC_V tab_18 okM_X3_readItems (Or.inl (mm_in 2 200 rfl rfl)) okV_X3_readItems) <| mm_cs (mm_okC_X tab_243 okM_J0_length_8abf5 (Or.inl (mm_in 2 207 rfl rfl)) okX_J0_length_8abf5) <| mm_cs (mm_okC_X tab_244 okM_J0_indexOf_0f7a4 (Or.inl (mm_in 2 217 rfl rfl)) okX_J0_indexOf_0f7a4) <| mm_cs (mm_okC_V tab_70 okM_X10_readNumber (Or.inl (mm_in 3 54 rfl rfl)) okV_X10_readNumber) <| mm_nl
theorem okTX3 : mm_okT mm_tab tbX3 := ⟨okFX3, okCX3, mm_nl, mm_nl, mm_okX_is⟩
theorem okFX4 : ∀ q ∈ tbX4.2.1, mm_okF tbX4.1 q := mm_cs (⟨_, rfl, okcX4, by decide, by decide, rfl, mm_in 1 207 rfl rfl⟩) <| mm_cs (⟨_, rfl, okcX4, by decide, by decide, rfl, mm_in 1 210 rfl rfl⟩) <| mm_cs (⟨_, rfl, okcX4, by decide, by decide, rfl, mm_in 1 213 rfl rfl⟩) <| mm_cs (⟨_, rfl, okcX4, by decide, by decide, rfl, mm_in 1 216 rfl rfl⟩) <| mm_cs (⟨_, rfl, okcX4, by decide, by decide, rfl, mm_in 1 218 rfl rfl⟩) <| mm_cs (⟨_, rfl, okcX4, by decide, by decide, rfl, mm_in 1 220 rfl rfl⟩) <| mm_cs (⟨_, rfl, okcX4, by decide, by decide, rfl, mm_in 1 222 rfl rfl⟩) <| mm_cs (⟨_, rfl, okcX4, by decide, by decide, rfl, mm_in 1 224 rfl rfl⟩) <| mm_cs (⟨_, rfl, okcX4, by decide, by decide, rfl, mm_in 1 227 rfl rfl⟩) <| mm_cs (⟨_, rfl, okcX4, by decide, by decide, rfl, mm_in 1 229 rfl rfl⟩) <| mm_cs (⟨_, rfl, okcX4, by decide, by decide, rfl, mm_in 1 231 rfl rfl⟩) <| mm_cs (⟨_, rfl, okcX4, by decide, by decide, rfl, mm_in 1 234 rfl rfl⟩) <| mm_cs (⟨_, rfl, okcX4, by decide, by decide, rfl, mm_in 1 236 rfl rfl⟩) <| mm_cs (⟨_, rfl, okcX4, by decide, by decide, rfl, mm_in 1 238 rfl rfl⟩) <| mm_cs (⟨_, rfl, okcX2, by decide, by decide, rfl, mm_in 1 79 rfl rfl⟩) <| mm_cs (⟨_, rfl, okcX2, by decide, by decide, rfl, mm_in 1 83 rfl rfl⟩) <| mm_cs (⟨_, rfl, okcX8, by decide, by decide, rfl, mm_in 1 129 rfl rfl⟩) <| mm_cs (⟨_, rfl, okcX8, by decide, by decide, rfl, mm_in 1 133 rfl rfl⟩) <| mm_cs (⟨_, rfl, okcX2, by decide, by decide, rfl, mm_in 1 71 rfl rfl⟩) <| mm_cs (⟨_, rfl, okcX8, by decide, by decide, rfl, mm_in 1 122 rfl rfl⟩) <| mm_cs (⟨_, rfl, okcX2, by decide, by decide, rfl, mm_in 1 90 rfl rfl⟩) <| mm_cs (⟨_, rfl, okcX2, by decide, by decide, rfl, mm_in 1 76 rfl rfl⟩) <| mm_cs (⟨_, rfl, okcX8, by decide, by decide, rfl, mm_in 1 142 rfl rfl⟩) <| mm_cs (⟨_, rfl, okcX8, by decide, by decide, rfl, mm_in 1 146 rfl rfl⟩) <| mm_cs (⟨_, rfl, okcX2, by decide, by decide, rfl, mm_in 1 96 rfl rfl⟩) <| mm_nl
theorem okCX4 : ∀ q ∈ tbX4.2.2.1, mm_okC tbX4.1 q := mm_cs (mm_okC_V tab_59 okM_X8_copyFrom (Or.inl (mm_in 4 151 rfl rfl)) okV_X8_copyFrom) <| mm_cs (mm_okC_V tab_57 okM_X8_isOut (Or.inl (mm_in 3 221 rfl rfl)) okV_X8_isOut) <| mm_cs (mm_okC_V tab_20 okM_X4_rises (Or.inl (mm_in 3 217 rfl rfl)) okV_X4_rises) <| mm_cs (mm_okC_V tab_21 okM_X4_rise (Or.inl (mm_in 3 213 rfl rfl)) okV_X4_rise) <| mm_cs (mm_okC_S tab_259 okM_J7_fill_53178 (Or.inl (mm_in 3 225 rfl rfl)) okS_J7_fill_53178) <| mm_cs (mm_okC_V tab_10 okM_X2_over (Or.inl (mm_in 3 228 rfl rfl)) okV_X2_over) <| mm_cs (mm_okC_V tab_24 okM_X4_firstInReach (Or.inl (mm_in 3 236 rfl rfl)) okV_X4_firstInReach) <| mm_cs (mm_okC_V tab_23 okM_X4_take (Or.inl (mm_in 4 23 rfl rfl)) okV_X4_take) <| mm_cs (mm_okC_S tab_111 okM_X11_isColumn (Or.inr ⟨"BeatenAfternoon", List.mem_of_getElem? (i := 12) rfl⟩) okS_X11_isColumn) <| mm_cs (mm_okC_V tab_25 okM_X4_reach (Or.inl (mm_in 4 3 rfl rfl)) okV_X4_reach) <| mm_cs (mm_okC_abs tab_264 okM_M_abs (mm_in 4 7 rfl rfl) okS_M_abs) <| mm_cs (mm_okC_max tab_262 okM_M_max (mm_in 4 10 rfl rfl) okS_M_max) <| mm_cs (mm_okC_V tab_35 okM_X5_worth (Or.inl (mm_in 4 11 rfl rfl)) okV_X5_worth) <| mm_cs (mm_okC_min tab_263 okM_M_min (mm_in 4 22 rfl rfl) okS_M_min) <| mm_cs (mm_okC_V tab_19 okM_X4_freshTrial (Or.inl (mm_in 4 168 rfl rfl)) okV_X4_freshTrial) <| mm_cs (mm_okC_V tab_29 okM_X4_gunLeft (Or.inl (mm_in 4 169 rfl rfl)) okV_X4_gunLeft) <| mm_cs (mm_okC_V tab_33 okM_X4_partsTaking (Or.inl (mm_in 5 37 rfl rfl)) okV_X4_partsTaking) <| mm_cs (mm_okC_V tab_34 okM_X4_partsOver (Or.inl (mm_in 5 42 rfl rfl)) okV_X4_partsOver) <| mm_nl
theorem okTX4 : mm_okT mm_tab tbX4 := ⟨okFX4, okCX4, mm_cs (mm_in 5 36 rfl rfl) <| mm_nl, mm_cs (mm_in 5 41 rfl rfl) <| mm_nl, mm_okX_is⟩
theorem okFX5 : ∀ q ∈ tbX5.2.1, mm_okF tbX5.1 q := mm_cs (⟨_, rfl, okcX5, by decide, by decide, rfl, mm_in 3 187 rfl rfl⟩) <| mm_cs (⟨_, rfl, okcX5, by decide, by decide, rfl, mm_in 3 186 rfl rfl⟩) <| mm_nl
theorem okCX5 : ∀ q ∈ tbX5.2.2.1, mm_okC tbX5.1 q := mm_cs (mm_okC_S tab_36 okM_X5_joined (Or.inl (mm_in 4 15 rfl rfl)) okS_X5_joined) <| mm_nl
theorem okTX5 : mm_okT mm_tab tbX5 := ⟨okFX5, okCX5, mm_cs (mm_in 4 19 rfl rfl) <| mm_cs (mm_in 4 21 rfl rfl) <| mm_nl, mm_cs (mm_in 4 18 rfl rfl) <| mm_cs (mm_in 4 20 rfl rfl) <| mm_nl, mm_okX_is⟩
theorem okFX6 : ∀ q ∈ tbX6.2.1, mm_okF tbX6.1 q := mm_cs (⟨_, rfl, okcX6, by decide, by decide, rfl, mm_in 1 190 rfl rfl⟩) <| mm_cs (⟨_, rfl, okcX6, by decide, by decide, rfl, mm_in 1 191 rfl rfl⟩) <| mm_cs (⟨_, rfl, okcX10, by decide, by decide, rfl, mm_in 1 46 rfl rfl⟩) <| mm_nl
theorem okCX6 : ∀ q ∈ tbX6.2.2.1, mm_okC tbX6.1 q := mm_cs (mm_okC_V tab_68 okM_X10_pass (Or.inl (mm_in 3 89 rfl rfl)) okV_X10_pass) <| mm_cs (mm_okC_V tab_39 okM_X6_readClause (Or.inl (mm_in 3 90 rfl rfl)) okV_X6_readClause) <| mm_cs (mm_okC_V tab_67 okM_X10_look (Or.inl (mm_in 3 94 rfl rfl)) okV_X10_look) <| mm_cs (mm_okC_S tab_260 okM_J7_copyOf_59c91 (Or.inl (mm_in 3 170 rfl rfl)) okS_J7_copyOf_59c91) <| mm_cs (mm_okC_V tab_45 okM_X6_readSum (Or.inl (mm_in 3 95 rfl rfl)) okV_X6_readSum) <| mm_cs (mm_okC_S tab_48 okM_X6_isComparison (Or.inl (mm_in 3 114 rfl rfl)) okS_X6_isComparison) <| mm_cs (mm_okC_V tab_49 okM_X6_write (Or.inl (mm_in 3 109 rfl rfl)) okV_X6_write) <| mm_cs (mm_okC_V tab_41 okM_X6_readCondition (Or.inl (mm_in 3 117 rfl rfl)) okV_X6_readCondition) <| mm_cs (mm_okC_V tab_40 okM_X6_readWorth (Or.inl (mm_in 3 133 rfl rfl)) okV_X6_readWorth) <| mm_cs (mm_okC_V tab_42 okM_X6_readTruth (Or.inl (mm_in 3 121 rfl rfl)) okV_X6_readTruth) <| mm_cs (mm_okC_V tab_43 okM_X6_readUnit (Or.inl (mm_in 3 125 rfl rfl)) okV_X6_readUnit) <| mm_cs (mm_okC_V tab_44 okM_X6_readComparison (Or.inl (mm_in 3 129 rfl rfl)) okV_X6_readComparison) <| mm_cs (mm_okC_V tab_46 okM_X6_readTerm (Or.inl (mm_in 3 99 rfl rfl)) okV_X6_readTerm) <| mm_cs (mm_okC_V tab_47 okM_X6_readAtom (Or.inl (mm_in 3 103 rfl rfl)) okV_X6_readAtom) <| mm_cs (mm_okC_X tab_244 okM_J0_indexOf_0f7a4 (Or.inl (mm_in 3 108 rfl rfl)) okX_J0_indexOf_0f7a4) <| mm_cs (mm_okC_V tab_70 okM_X10_readNumber (Or.inl (mm_in 3 113 rfl rfl)) okV_X10_readNumber) <| mm_nl
theorem okTX6 : mm_okT mm_tab tbX6 := ⟨okFX6, okCX6, mm_nl, mm_nl, mm_okX_is⟩
theorem okFX7 : ∀ q ∈ tbX7.2.1, mm_okF tbX7.1 q := mm_cs (⟨_, rfl, okcX7, by decide, by decide, rfl, mm_in 2 36 rfl rfl⟩) <| mm_cs (⟨_, rfl, okcX7, by decide, by decide, rfl, mm_in 2 38 rfl rfl⟩) <| mm_cs (⟨_, rfl, okcX7, by decide, by decide, rfl, mm_in 2 39 rfl rfl⟩) <| mm_cs (⟨_, rfl, okcX7, by decide, by decide, rfl, mm_in 2 40 rfl rfl⟩) <| mm_cs (⟨_, rfl, okcX7, by decide, by decide, rfl, mm_in 2 41 rfl rfl⟩) <| mm_cs (⟨_, rfl, okcX7, by decide, by decide, rfl, mm_in 2 42 rfl rfl⟩) <| mm_cs (⟨_, rfl, okcX7, by decide, by decide, rfl, mm_in 2 43 rfl rfl⟩) <| mm_nl
theorem okCX7 : ∀ q ∈ tbX7.2.2.1, mm_okC tbX7.1 q := mm_cs (mm_okC_V tab_60 okM_X8_save (Or.inl (mm_in 4 43 rfl rfl)) okV_X8_save) <| mm_cs (mm_okC_min tab_263 okM_M_min (mm_in 4 47 rfl rfl) okS_M_min) <| mm_cs (mm_okC_V tab_61 okM_X8_load (Or.inl (mm_in 4 120 rfl rfl)) okV_X8_load) <| mm_cs (mm_okC_S tab_242 okM_J9_floorMod_7cf53 (Or.inl (mm_in 4 56 rfl rfl)) okS_J9_floorMod_7cf53) <| mm_nl
theorem okTX7 : mm_okT mm_tab tbX7 := ⟨okFX7, okCX7, mm_nl, mm_nl, mm_okX_is⟩
theorem okFX8 : ∀ q ∈ tbX8.2.1, mm_okF tbX8.1 q := mm_cs (⟨_, rfl, okcX8, by decide, by decide, rfl, mm_in 1 119 rfl rfl⟩) <| mm_cs (⟨_, rfl, okcX8, by decide, by decide, rfl, mm_in 1 124 rfl rfl⟩) <| mm_cs (⟨_, rfl, okcX8, by decide, by decide, rfl, mm_in 1 127 rfl rfl⟩) <| mm_cs (⟨_, rfl, okcX8, by decide, by decide, rfl, mm_in 1 131 rfl rfl⟩) <| mm_cs (⟨_, rfl, okcX8, by decide, by decide, rfl, mm_in 1 135 rfl rfl⟩) <| mm_cs (⟨_, rfl, okcX8, by decide, by decide, rfl, mm_in 1 138 rfl rfl⟩) <| mm_cs (⟨_, rfl, okcX8, by decide, by decide, rfl, mm_in 1 140 rfl rfl⟩) <| mm_cs (⟨_, rfl, okcX8, by decide, by decide, rfl, mm_in 1 144 rfl rfl⟩) <| mm_cs (⟨_, rfl, okcX8, by decide, by decide, rfl, mm_in 1 148 rfl rfl⟩) <| mm_nl
theorem okCX8 : ∀ q ∈ tbX8.2.2.1, mm_okC tbX8.1 q := mm_nl
theorem okTX8 : mm_okT mm_tab tbX8 := ⟨okFX8, okCX8, mm_nl, mm_nl, mm_okX_is⟩
theorem okFX9 : ∀ q ∈ tbX9.2.1, mm_okF tbX9.1 q := mm_cs (⟨_, rfl, okcX9, by decide, by decide, rfl, mm_in 2 65 rfl rfl⟩) <| mm_cs (⟨_, rfl, okcX9, by decide, by decide, rfl, mm_in 2 67 rfl rfl⟩) <| mm_cs (⟨_, rfl, okcX9, by decide, by decide, rfl, mm_in 2 68 rfl rfl⟩) <| mm_cs (⟨_, rfl, okcX9, by decide, by decide, rfl, mm_in 2 69 rfl rfl⟩) <| mm_cs (⟨_, rfl, okcX9, by decide, by decide, rfl, mm_in 2 70 rfl rfl⟩) <| mm_nl
theorem okCX9 : ∀ q ∈ tbX9.2.2.1, mm_okC tbX9.1 q := mm_cs (mm_okC_V tab_11 okM_X2_overFrom (Or.inl (mm_in 4 193 rfl rfl)) okV_X2_overFrom) <| mm_cs (mm_okC_V tab_63 okM_X9_fit (Or.inl (mm_in 4 202 rfl rfl)) okV_X9_fit) <| mm_cs (mm_okC_abs tab_264 okM_M_abs (mm_in 4 203 rfl rfl) okS_M_abs) <| mm_nl
theorem okTX9 : mm_okT mm_tab tbX9 := ⟨okFX9, okCX9, mm_nl, mm_nl, mm_okX_is⟩
theorem okFX10 : ∀ q ∈ tbX10.2.1, mm_okF tbX10.1 q := mm_cs (⟨_, rfl, okcX10, by decide, by decide, rfl, mm_in 1 41 rfl rfl⟩) <| mm_cs (⟨_, rfl, okcX10, by decide, by decide, rfl, mm_in 1 42 rfl rfl⟩) <| mm_cs (⟨_, rfl, okcX10, by decide, by decide, rfl, mm_in 1 44 rfl rfl⟩) <| mm_nl
theorem okCX10 : ∀ q ∈ tbX10.2.2.1, mm_okC tbX10.1 q := mm_cs (mm_okC_V tab_66 okM_X10_put (Or.inl (mm_in 2 163 rfl rfl)) okV_X10_put) <| mm_cs (mm_okC_V tab_67 okM_X10_look (Or.inl (mm_in 3 58 rfl rfl)) okV_X10_look) <| mm_cs (mm_okC_V tab_69 okM_X10_isAtDigit (Or.inl (mm_in 3 59 rfl rfl)) okV_X10_isAtDigit) <| mm_nl
theorem okTX10 : mm_okT mm_tab tbX10 := ⟨okFX10, okCX10, mm_nl, mm_nl, mm_okX_is⟩
theorem okFX11 : ∀ q ∈ tbX11.2.1, mm_okF tbX11.1 q := mm_cs (⟨_, rfl, okcX11, by decide, by decide, rfl, mm_in 2 112 rfl rfl⟩) <| mm_cs (⟨_, rfl, okcX11, by decide, by decide, rfl, mm_in 2 113 rfl rfl⟩) <| mm_cs (⟨_, rfl, okcX11, by decide, by decide, rfl, mm_in 2 114 rfl rfl⟩) <| mm_cs (⟨_, rfl, okcX11, by decide, by decide, rfl, mm_in 2 115 rfl rfl⟩) <| mm_cs (⟨_, rfl, okcX11, by decide, by decide, rfl, mm_in 2 116 rfl rfl⟩) <| mm_cs (⟨_, rfl, okcX11, by decide, by decide, rfl, mm_in 2 117 rfl rfl⟩) <| mm_cs (⟨_, rfl, okcX11, by decide, by decide, rfl, mm_in 2 118 rfl rfl⟩) <| mm_cs (⟨_, rfl, okcX11, by decide, by decide, rfl, mm_in 2 119 rfl rfl⟩) <| mm_cs (⟨_, rfl, okcX11, by decide, by decide, rfl, mm_in 2 120 rfl rfl⟩) <| mm_cs (⟨_, rfl, okcX11, by decide, by decide, rfl, mm_in 2 121 rfl rfl⟩) <| mm_cs (⟨_, rfl, okcX11, by decide, by decide, rfl, mm_in 2 122 rfl rfl⟩) <| mm_cs (⟨_, rfl, okcX11, by decide, by decide, rfl, mm_in 2 123 rfl rfl⟩) <| mm_cs (⟨_, rfl, okcX11, by decide, by decide, rfl, mm_in 2 124 rfl rfl⟩) <| mm_cs (⟨_, rfl, okcX11, by decide, by decide, rfl, mm_in 2 125 rfl rfl⟩) <| mm_cs (⟨_, rfl, okcX10, by decide, by decide, rfl, mm_in 1 43 rfl rfl⟩) <| mm_cs (⟨_, rfl, okcX10, by decide, by decide, rfl, mm_in 1 47 rfl rfl⟩) <| mm_cs (⟨_, rfl, okcX4, by decide, by decide, rfl, mm_in 1 212 rfl rfl⟩) <| mm_cs (⟨_, rfl, okcX8, by decide, by decide, rfl, mm_in 1 123 rfl rfl⟩) <| mm_cs (⟨_, rfl, okcX8, by decide, by decide, rfl, mm_in 1 126 rfl rfl⟩) <| mm_cs (⟨_, rfl, okcX8, by decide, by decide, rfl, mm_in 1 130 rfl rfl⟩) <| mm_cs (⟨_, rfl, okcX8, by decide, by decide, rfl, mm_in 1 134 rfl rfl⟩) <| mm_cs (⟨_, rfl, okcX4, by decide, by decide, rfl, mm_in 1 209 rfl rfl⟩) <| mm_cs (⟨_, rfl, okcX2, by decide, by decide, rfl, mm_in 1 81 rfl rfl⟩) <| mm_cs (⟨_, rfl, okcX2, by decide, by decide, rfl, mm_in 1 85 rfl rfl⟩) <| mm_cs (⟨_, rfl, okcX2, by decide, by decide, rfl, mm_in 1 88 rfl rfl⟩) <| mm_cs (⟨_, rfl, okcX2, by decide, by decide, rfl, mm_in 1 92 rfl rfl⟩) <| mm_cs (⟨_, rfl, okcX2, by decide, by decide, rfl, mm_in 1 95 rfl rfl⟩) <| mm_cs (⟨_, rfl, okcX8, by decide, by decide, rfl, mm_in 1 143 rfl rfl⟩) <| mm_cs (⟨_, rfl, okcX8, by decide, by decide, rfl, mm_in 1 147 rfl rfl⟩) <| mm_cs (⟨_, rfl, okcX8, by decide, by decide, rfl, mm_in 1 149 rfl rfl⟩) <| mm_cs (⟨_, rfl, okcX4, by decide, by decide, rfl, mm_in 1 226 rfl rfl⟩) <| mm_cs (⟨_, rfl, okcX4, by decide, by decide, rfl, mm_in 1 228 rfl rfl⟩) <| mm_cs (⟨_, rfl, okcX4, by decide, by decide, rfl, mm_in 1 217 rfl rfl⟩) <| mm_cs (⟨_, rfl, okcX8, by decide, by decide, rfl, mm_in 1 139 rfl rfl⟩) <| mm_cs (⟨_, rfl, okcX8, by decide, by decide, rfl, mm_in 1 137 rfl rfl⟩) <| mm_cs (⟨_, rfl, okcX7, by decide, by decide, rfl, mm_in 2 37 rfl rfl⟩) <| mm_cs (⟨_, rfl, okcX4, by decide, by decide, rfl, mm_in 1 223 rfl rfl⟩) <| mm_cs (⟨_, rfl, okcX4, by decide, by decide, rfl, mm_in 1 235 rfl rfl⟩) <| mm_cs (⟨_, rfl, okcX2, by decide, by decide, rfl, mm_in 1 77 rfl rfl⟩) <| mm_cs (⟨_, rfl, okcX4, by decide, by decide, rfl, mm_in 1 215 rfl rfl⟩) <| mm_cs (⟨_, rfl, okcX9, by decide, by decide, rfl, mm_in 2 66 rfl rfl⟩) <| mm_cs (⟨_, rfl, okcX2, by decide, by decide, rfl, mm_in 1 72 rfl rfl⟩) <| mm_cs (⟨_, rfl, okcX4, by decide, by decide, rfl, mm_in 1 233 rfl rfl⟩) <| mm_cs (⟨_, rfl, okcX3, by decide, by decide, rfl, mm_in 1 170 rfl rfl⟩) <| mm_cs (⟨_, rfl, okcX3, by decide, by decide, rfl, mm_in 1 172 rfl rfl⟩) <| mm_cs (⟨_, rfl, okcX4, by decide, by decide, rfl, mm_in 1 230 rfl rfl⟩) <| mm_cs (⟨_, rfl, okcX4, by decide, by decide, rfl, mm_in 1 219 rfl rfl⟩) <| mm_cs (⟨_, rfl, okcX4, by decide, by decide, rfl, mm_in 1 221 rfl rfl⟩) <| mm_cs (⟨_, rfl, okcX4, by decide, by decide, rfl, mm_in 1 237 rfl rfl⟩) <| mm_nl
theorem okCX11 : ∀ q ∈ tbX11.2.2.1, mm_okC tbX11.1 q := mm_cs (mm_okC_V tab_65 okM_X10_add (Or.inl (mm_in 2 159 rfl rfl)) okV_X10_add) <| mm_cs (mm_okC_V tab_12 okM_X3_read (Or.inl (mm_in 2 175 rfl rfl)) okV_X3_read) <| mm_cs (mm_okC_V tab_37 okM_X6_read (Or.inl (mm_in 3 85 rfl rfl)) okV_X6_read) <| mm_cs (mm_okC_V tab_115 okM_X11_settle (Or.inl (mm_in 3 142 rfl rfl)) okV_X11_settle) <| mm_cs (mm_okC_V tab_116 okM_X11_enact (Or.inl (mm_in 3 160 rfl rfl)) okV_X11_enact) <| mm_cs (mm_okC_V tab_107 okM_X11_hasEstate (Or.inl (mm_in 3 197 rfl rfl)) okV_X11_hasEstate) <| mm_cs (mm_okC_V tab_108 okM_X11_isThing (Or.inl (mm_in 4 85 rfl rfl)) okV_X11_isThing) <| mm_cs (mm_okC_V tab_57 okM_X8_isOut (Or.inl (mm_in 4 89 rfl rfl)) okV_X8_isOut) <| mm_cs (mm_okC_V tab_117 okM_X11_overOrLost (Or.inl (mm_in 5 197 rfl rfl)) okV_X11_overOrLost) <| mm_cs (mm_okC_V tab_109 okM_X11_isGun (Or.inl (mm_in 3 205 rfl rfl)) okV_X11_isGun) <| mm_cs (mm_okC_V tab_22 okM_X4_run (Or.inl (mm_in 3 209 rfl rfl)) okV_X4_run) <| mm_cs (mm_okC_V tab_114 okM_X11_refuse (Or.inl (mm_in 4 35 rfl rfl)) okV_X11_refuse) <| mm_cs (mm_okC_V tab_50 okM_X7_keep (Or.inl (mm_in 4 39 rfl rfl)) okV_X7_keep) <| mm_cs (mm_okC_V tab_119 okM_X11_driveOnce (Or.inl (mm_in 4 48 rfl rfl)) okV_X11_driveOnce) <| mm_cs (mm_okC_S tab_111 okM_X11_isColumn (Or.inl (mm_in 4 64 rfl rfl)) okS_X11_isColumn) <| mm_cs (mm_okC_abs tab_264 okM_M_abs (mm_in 4 69 rfl rfl) okS_M_abs) <| mm_cs (mm_okC_S tab_112 okM_X11_isWind (Or.inl (mm_in 4 78 rfl rfl)) okS_X11_isWind) <| mm_cs (mm_okC_V tab_120 okM_X11_drawAhead (Or.inl (mm_in 4 98 rfl rfl)) okV_X11_drawAhead) <| mm_cs (mm_okC_V tab_51 okM_X7_takeBack (Or.inl (mm_in 4 116 rfl rfl)) okV_X7_takeBack) <| mm_cs (mm_okC_V tab_118 okM_X11_logLength (Or.inl (mm_in 4 128 rfl rfl)) okV_X11_logLength) <| mm_cs (mm_okC_V tab_53 okM_X7_readLog (Or.inl (mm_in 4 132 rfl rfl)) okV_X7_readLog) <| mm_cs (mm_okC_S tab_113 okM_X11_isPair (Or.inl (mm_in 4 144 rfl rfl)) okS_X11_isPair) <| mm_cs (mm_okC_V tab_19 okM_X4_freshTrial (Or.inl (mm_in 4 147 rfl rfl)) okV_X4_freshTrial) <| mm_cs (mm_okC_V tab_27 okM_X4_sortPegs (Or.inl (mm_in 4 160 rfl rfl)) okV_X4_sortPegs) <| mm_cs (mm_okC_V tab_28 okM_X4_dealPegs (Or.inl (mm_in 4 164 rfl rfl)) okV_X4_dealPegs) <| mm_cs (mm_okC_V tab_30 okM_X4_spread (Or.inl (mm_in 4 173 rfl rfl)) okV_X4_spread) <| mm_cs (mm_okC_V tab_62 okM_X9_add (Or.inl (mm_in 4 181 rfl rfl)) okV_X9_add) <| mm_cs (mm_okC_V tab_63 okM_X9_fit (Or.inl (mm_in 4 189 rfl rfl)) okV_X9_fit) <| mm_cs (mm_okC_V tab_64 okM_X9_apart (Or.inl (mm_in 4 198 rfl rfl)) okV_X9_apart) <| mm_cs (mm_okC_V tab_0 okM_X0_gather (Or.inl (mm_in 4 208 rfl rfl)) okV_X0_gather) <| mm_cs (mm_okC_V tab_1 okM_X0_weigh (Or.inl (mm_in 4 216 rfl rfl)) okV_X0_weigh) <| mm_cs (mm_okC_V tab_4 okM_X0_row (Or.inl (mm_in 4 226 rfl rfl)) okV_X0_row) <| mm_cs (mm_okC_V tab_3 okM_X0_total (Or.inl (mm_in 4 234 rfl rfl)) okV_X0_total) <| mm_cs (mm_okC_V tab_110 okM_X11_areTwoGuns (Or.inl (mm_in 5 2 rfl rfl)) okV_X11_areTwoGuns) <| mm_cs (mm_okC_S tab_6 okM_X1_isStep (Or.inl (mm_in 5 6 rfl rfl)) okS_X1_isStep) <| mm_cs (mm_okC_V tab_31 okM_X4_stepAside (Or.inl (mm_in 5 10 rfl rfl)) okV_X4_stepAside) <| mm_cs (mm_okC_V tab_7 okM_X1_play (Or.inl (mm_in 5 18 rfl rfl)) okV_X1_play) <| mm_cs (mm_okC_V tab_8 okM_X1_isRest (Or.inl (mm_in 5 24 rfl rfl)) okV_X1_isRest) <| mm_cs (mm_okC_V tab_32 okM_X4_oddsOfTaking (Or.inl (mm_in 5 32 rfl rfl)) okV_X4_oddsOfTaking) <| mm_cs (mm_okC_V tab_58 okM_X8_bagsOfAll (Or.inl (mm_in 5 50 rfl rfl)) okV_X8_bagsOfAll) <| mm_cs (mm_okC_V tab_20 okM_X4_rises (Or.inl (mm_in 5 58 rfl rfl)) okV_X4_rises) <| mm_cs (mm_okC_V tab_122 okM_X11_lastToRise (Or.inl (mm_in 5 63 rfl rfl)) okV_X11_lastToRise) <| mm_cs (mm_okC_V tab_123 okM_X11_finest (Or.inl (mm_in 5 68 rfl rfl)) okV_X11_finest) <| mm_cs (mm_okC_V tab_124 okM_X11_busiest (Or.inl (mm_in 5 72 rfl rfl)) okV_X11_busiest) <| mm_cs (mm_okC_V tab_125 okM_X11_firstGreatest (Or.inl (mm_in 5 80 rfl rfl)) okV_X11_firstGreatest) <| mm_cs (mm_okC_V tab_126 okM_X11_widestGap (Or.inl (mm_in 5 84 rfl rfl)) okV_X11_widestGap) <| mm_cs (mm_okC_V tab_127 okM_X11_valueOut (Or.inl (mm_in 5 89 rfl rfl)) okV_X11_valueOut) <| mm_cs (mm_okC_S tab_241 okM_J6_bitCount_0f7a4 (Or.inl (mm_in 5 93 rfl rfl)) okS_J6_bitCount_0f7a4) <| mm_cs (mm_okC_V tab_54 okM_X7_keepImage (Or.inl (mm_in 5 107 rfl rfl)) okV_X7_keepImage) <| mm_cs (mm_okC_V tab_55 okM_X7_bringImageBack (Or.inl (mm_in 5 116 rfl rfl)) okV_X7_bringImageBack) <| mm_cs (mm_okC_V tab_9 okM_X2_copyFrom (Or.inl (mm_in 3 146 rfl rfl)) okV_X2_copyFrom) <| mm_cs (mm_okC_V tab_59 okM_X8_copyFrom (Or.inl (mm_in 3 151 rfl rfl)) okV_X8_copyFrom) <| mm_cs (mm_okC_V tab_56 okM_X7_forget (Or.inl (mm_in 3 156 rfl rfl)) okV_X7_forget) <| mm_cs (mm_okC_V tab_38 okM_X6_made (Or.inl (mm_in 3 164 rfl rfl)) okV_X6_made) <| mm_cs (mm_okC_V tab_10 okM_X2_over (Or.inl (mm_in 5 201 rfl rfl)) okV_X2_over) <| mm_cs (mm_okC_min tab_263 okM_M_min (mm_in 4 59 rfl rfl) okS_M_min) <| mm_cs (mm_okC_V tab_52 okM_X7_writeLog (Or.inl (mm_in 4 52 rfl rfl)) okV_X7_writeLog) <| mm_cs (mm_okC_V tab_121 okM_X11_draw (Or.inl (mm_in 4 102 rfl rfl)) okV_X11_draw) <| mm_cs (mm_okC_V tab_21 okM_X4_rise (Or.inl (mm_in 5 67 rfl rfl)) okV_X4_rise) <| mm_cs (mm_okC_V tab_26 okM_X4_comingOver (Or.inl (mm_in 5 76 rfl rfl)) okV_X4_comingOver) <| mm_cs (mm_okC_max tab_262 okM_M_max (mm_in 5 88 rfl rfl) okS_M_max) <| mm_nl
theorem okTX11 : mm_okT mm_tab tbX11 := ⟨okFX11, okCX11, mm_cs (mm_in 5 9 rfl rfl) <| mm_nl, mm_cs (mm_in 4 106 rfl rfl) <| mm_cs (mm_in 4 107 rfl rfl) <| mm_nl, mm_okX_is⟩
theorem okFX12 : ∀ q ∈ tbX12.2.1, mm_okF tbX12.1 q := mm_cs (⟨_, rfl, okcX12, by decide, by decide, rfl, mm_in 5 209 rfl rfl⟩) <| mm_cs (⟨_, rfl, okcX12, by decide, by decide, rfl, mm_in 5 214 rfl rfl⟩) <| mm_cs (⟨_, rfl, okcX12, by decide, by decide, rfl, mm_in 5 215 rfl rfl⟩) <| mm_cs (⟨_, rfl, okcX12, by decide, by decide, rfl, mm_in 5 216 rfl rfl⟩) <| mm_cs (⟨_, rfl, okcX12, by decide, by decide, rfl, mm_in 5 217 rfl rfl⟩) <| mm_cs (⟨_, rfl, okcX12, by decide, by decide, rfl, mm_in 5 218 rfl rfl⟩) <| mm_cs (⟨_, rfl, okcX12, by decide, by decide, rfl, mm_in 5 219 rfl rfl⟩) <| mm_cs (⟨_, rfl, okcX12, by decide, by decide, rfl, mm_in 5 220 rfl rfl⟩) <| mm_cs (⟨_, rfl, okcX12, by decide, by decide, rfl, mm_in 5 223 rfl rfl⟩) <| mm_cs (⟨_, rfl, okcX12, by decide, by decide, rfl, mm_in 5 224 rfl rfl⟩) <| mm_cs (⟨_, rfl, okcX12, by decide, by decide, rfl, mm_in 5 225 rfl rfl⟩) <| mm_cs (⟨_, rfl, okcX12, by decide, by decide, rfl, mm_in 5 226 rfl rfl⟩) <| mm_cs (⟨_, rfl, okcX12, by decide, by decide, rfl, mm_in 5 227 rfl rfl⟩) <| mm_cs (⟨_, rfl, okcX12, by decide, by decide, rfl, mm_in 5 230 rfl rfl⟩) <| mm_cs (⟨_, rfl, okcX12, by decide, by decide, rfl, mm_in 5 231 rfl rfl⟩) <| mm_cs (⟨_, rfl, okcX12, by decide, by decide, rfl, mm_in 5 234 rfl rfl⟩) <| mm_cs (⟨_, rfl, okcX12, by decide, by decide, rfl, mm_in 5 235 rfl rfl⟩) <| mm_cs (⟨_, rfl, okcX12, by decide, by decide, rfl, mm_in 5 236 rfl rfl⟩) <| mm_cs (⟨_, rfl, okcX12, by decide, by decide, rfl, mm_in 5 237 rfl rfl⟩) <| mm_cs (⟨_, rfl, okcX12, by decide, by decide, rfl, mm_in 5 238 rfl rfl⟩) <| mm_cs (⟨_, rfl, okcX12, by decide, by decide, rfl, mm_in 5 239 rfl rfl⟩) <| mm_cs (⟨_, rfl, okcX12, by decide, by decide, rfl, mm_in 6 0 rfl rfl⟩) <| mm_cs (⟨_, rfl, okcX12, by decide, by decide, rfl, mm_in 6 1 rfl rfl⟩) <| mm_cs (⟨_, rfl, okcX12, by decide, by decide, rfl, mm_in 6 6 rfl rfl⟩) <| mm_cs (⟨_, rfl, okcX12, by decide, by decide, rfl, mm_in 6 11 rfl rfl⟩) <| mm_cs (⟨_, rfl, okcX12, by decide, by decide, rfl, mm_in 6 12 rfl rfl⟩) <| mm_cs (⟨_, rfl, okcX12, by decide, by decide, rfl, mm_in 6 13 rfl rfl⟩) <| mm_cs (⟨_, rfl, okcX12, by decide, by decide, rfl, mm_in 6 14 rfl rfl⟩) <| mm_cs (⟨_, rfl, okcX12, by decide, by decide, rfl, mm_in 6 15 rfl rfl⟩) <| mm_cs (⟨_, rfl, okcX12, by decide, by decide, rfl, mm_in 6 16 rfl rfl⟩) <| mm_cs (⟨_, rfl, okcX12, by decide, by decide, rfl, mm_in 6 18 rfl rfl⟩) <| mm_cs (⟨_, rfl, okcX12, by decide, by decide, rfl, mm_in 5 208 rfl rfl⟩) <| mm_cs (⟨_, rfl, okcX12, by decide, by decide, rfl, mm_in 5 210 rfl rfl⟩) <| mm_cs (⟨_, rfl, okcX12, by decide, by decide, rfl, mm_in 5 211 rfl rfl⟩) <| mm_cs (⟨_, rfl, okcX12, by decide, by decide, rfl, mm_in 5 212 rfl rfl⟩) <| mm_cs (⟨_, rfl, okcX12, by decide, by decide, rfl, mm_in 5 222 rfl rfl⟩) <| mm_cs (⟨_, rfl, okcX12, by decide, by decide, rfl, mm_in 5 213 rfl rfl⟩) <| mm_cs (⟨_, rfl, okcX12, by decide, by decide, rfl, mm_in 5 228 rfl rfl⟩) <| mm_cs (⟨_, rfl, okcX12, by decide, by decide, rfl, mm_in 5 229 rfl rfl⟩) <| mm_cs (⟨_, rfl, okcX12, by decide, by decide, rfl, mm_in 5 232 rfl rfl⟩) <| mm_cs (⟨_, rfl, okcX12, by decide, by decide, rfl, mm_in 5 233 rfl rfl⟩) <| mm_cs (⟨_, rfl, okcX12, by decide, by decide, rfl, mm_in 6 17 rfl rfl⟩) <| mm_cs (⟨_, rfl, okcX12, by decide, by decide, rfl, mm_in 6 7 rfl rfl⟩) <| mm_cs (⟨_, rfl, okcX12, by decide, by decide, rfl, mm_in 6 19 rfl rfl⟩) <| mm_cs (⟨_, rfl, okcX12, by decide, by decide, rfl, mm_in 5 221 rfl rfl⟩) <| mm_cs (⟨_, rfl, okcX12, by decide, by decide, rfl, mm_in 6 2 rfl rfl⟩) <| mm_cs (⟨_, rfl, okcX12, by decide, by decide, rfl, mm_in 6 3 rfl rfl⟩) <| mm_cs (⟨_, rfl, okcX12, by decide, by decide, rfl, mm_in 6 4 rfl rfl⟩) <| mm_cs (⟨_, rfl, okcX12, by decide, by decide, rfl, mm_in 6 5 rfl rfl⟩) <| mm_cs (⟨_, rfl, okcX12, by decide, by decide, rfl, mm_in 6 8 rfl rfl⟩) <| mm_cs (⟨_, rfl, okcX12, by decide, by decide, rfl, mm_in 6 9 rfl rfl⟩) <| mm_cs (⟨_, rfl, okcX12, by decide, by decide, rfl, mm_in 6 10 rfl rfl⟩) <| mm_nl
theorem okCX12 : ∀ q ∈ tbX12.2.2.1, mm_okC tbX12.1 q := mm_cs (mm_okC_S tab_131 okM_X12_byteOf (Or.inl (mm_in 6 133 rfl rfl)) okS_X12_byteOf) <| mm_cs (mm_okC_V tab_134 okM_X12_here (Or.inl (mm_in 6 155 rfl rfl)) okV_X12_here) <| mm_cs (mm_okC_V tab_136 okM_X12_bad (Or.inl (mm_in 6 179 rfl rfl)) okV_X12_bad) <| mm_cs (mm_okC_V tab_135 okM_X12_look (Or.inl (mm_in 6 151 rfl rfl)) okV_X12_look) <| mm_cs (mm_okC_S tab_137 okM_X12_isDigit (Or.inl (mm_in 6 176 rfl rfl)) okS_X12_isDigit) <| mm_cs (mm_okC_V tab_142 okM_X12_plainNumber (Or.inl (mm_in 6 230 rfl rfl)) okV_X12_plainNumber) <| mm_cs (mm_okC_V tab_138 okM_X12_put (Or.inl (mm_in 6 210 rfl rfl)) okV_X12_put) <| mm_cs (mm_okC_S tab_139 okM_X12_letterOf (Or.inl (mm_in 6 234 rfl rfl)) okS_X12_letterOf) <| mm_cs (mm_okC_V tab_140 okM_X12_opens (Or.inl (mm_in 6 206 rfl rfl)) okV_X12_opens) <| mm_cs (mm_okC_V tab_145 okM_X12_sum (Or.inl (mm_in 6 218 rfl rfl)) okV_X12_sum) <| mm_cs (mm_okC_V tab_141 okM_X12_closes (Or.inl (mm_in 6 214 rfl rfl)) okV_X12_closes) <| mm_cs (mm_okC_V tab_143 okM_X12_atom (Or.inl (mm_in 6 226 rfl rfl)) okV_X12_atom) <| mm_cs (mm_okC_V tab_144 okM_X12_term (Or.inl (mm_in 6 222 rfl rfl)) okV_X12_term) <| mm_cs (mm_okC_S tab_146 okM_X12_isSign (Or.inl (mm_in 7 1 rfl rfl)) okS_X12_isSign) <| mm_cs (mm_okC_V tab_148 okM_X12_unit (Or.inl (mm_in 6 202 rfl rfl)) okV_X12_unit) <| mm_cs (mm_okC_V tab_151 okM_X12_condition (Or.inl (mm_in 6 198 rfl rfl)) okV_X12_condition) <| mm_cs (mm_okC_V tab_147 okM_X12_compare (Or.inl (mm_in 6 237 rfl rfl)) okV_X12_compare) <| mm_cs (mm_okC_V tab_149 okM_X12_goOnAnd (Or.inl (mm_in 7 4 rfl rfl)) okV_X12_goOnAnd) <| mm_cs (mm_okC_V tab_150 okM_X12_goOnOr (Or.inl (mm_in 7 8 rfl rfl)) okV_X12_goOnOr) <| mm_cs (mm_okC_V tab_153 okM_X12_open (Or.inl (mm_in 6 190 rfl rfl)) okV_X12_open) <| mm_cs (mm_okC_V tab_152 okM_X12_clause (Or.inl (mm_in 6 194 rfl rfl)) okV_X12_clause) <| mm_cs (mm_okC_V tab_154 okM_X12_atEnd (Or.inl (mm_in 7 12 rfl rfl)) okV_X12_atEnd) <| mm_cs (mm_okC_S tab_266 okM_M_minL (Or.inl (mm_in 7 99 rfl rfl)) okS_M_minL) <| mm_cs (mm_okC_S tab_265 okM_M_maxL (Or.inl (mm_in 7 102 rfl rfl)) okS_M_maxL) <| mm_cs (mm_okC_S tab_156 okM_X12_bounded (Or.inl (mm_in 7 94 rfl rfl)) okS_X12_bounded) <| mm_cs (mm_okC_S tab_157 okM_X12_worked (Or.inl (mm_in 7 91 rfl rfl)) okS_X12_worked) <| mm_cs (mm_okC_V tab_158 okM_X12_workOut (Or.inl (mm_in 7 87 rfl rfl)) okV_X12_workOut) <| mm_cs (mm_okC_S tab_128 okM_X12_in (Or.inl (mm_in 6 183 rfl rfl)) okS_X12_in) <| mm_cs (mm_okC_S tab_163 okM_X12_usual (Or.inl (mm_in 6 148 rfl rfl)) okS_X12_usual) <| mm_cs (mm_okC_S tab_161 okM_X12_itemOf (Or.inl (mm_in 6 163 rfl rfl)) okS_X12_itemOf) <| mm_cs (mm_okC_S tab_129 okM_X12_has (Or.inl (mm_in 6 166 rfl rfl)) okS_X12_has) <| mm_cs (mm_okC_S tab_162 okM_X12_highest (Or.inl (mm_in 6 169 rfl rfl)) okS_X12_highest) <| mm_cs (mm_okC_V tab_160 okM_X12_number (Or.inl (mm_in 6 172 rfl rfl)) okV_X12_number) <| mm_cs (mm_okC_V tab_164 okM_X12_items (Or.inl (mm_in 6 159 rfl rfl)) okV_X12_items) <| mm_cs (mm_okC_V tab_165 okM_X12_readEstate (Or.inl (mm_in 6 144 rfl rfl)) okV_X12_readEstate) <| mm_cs (mm_okC_V tab_155 okM_X12_readLaw (Or.inl (mm_in 6 186 rfl rfl)) okV_X12_readLaw) <| mm_cs (mm_okC_V tab_167 okM_X12_takeEstate (Or.inl (mm_in 7 20 rfl rfl)) okV_X12_takeEstate) <| mm_cs (mm_okC_V tab_169 okM_X12_of (Or.inl (mm_in 7 40 rfl rfl)) okV_X12_of) <| mm_cs (mm_okC_S tab_172 okM_X12_isColumn (Or.inl (mm_in 7 51 rfl rfl)) okS_X12_isColumn) <| mm_cs (mm_okC_V tab_175 okM_X12_flies (Or.inl (mm_in 7 44 rfl rfl)) okV_X12_flies) <| mm_cs (mm_okC_S tab_176 okM_X12_columnOf (Or.inl (mm_in 7 48 rfl rfl)) okS_X12_columnOf) <| mm_cs (mm_okC_V tab_174 okM_X12_isOut (Or.inl (mm_in 7 70 rfl rfl)) okV_X12_isOut) <| mm_cs (mm_okC_abs tab_264 okM_M_abs (mm_in 7 82 rfl rfl) okS_M_abs) <| mm_cs (mm_okC_V tab_159 okM_X12_worthOf (Or.inl (mm_in 7 83 rfl rfl)) okV_X12_worthOf) <| mm_cs (mm_okC_min tab_263 okM_M_min (mm_in 7 105 rfl rfl) okS_M_min) <| mm_cs (mm_okC_max tab_262 okM_M_max (mm_in 7 106 rfl rfl) okS_M_max) <| mm_cs (mm_okC_V tab_179 okM_X12_reachOf (Or.inl (mm_in 7 78 rfl rfl)) okV_X12_reachOf) <| mm_cs (mm_okC_V tab_178 okM_X12_risesAt (Or.inl (mm_in 7 66 rfl rfl)) okV_X12_risesAt) <| mm_cs (mm_okC_V tab_177 okM_X12_overNow (Or.inl (mm_in 7 36 rfl rfl)) okV_X12_overNow) <| mm_cs (mm_okC_V tab_180 okM_X12_takes (Or.inl (mm_in 7 74 rfl rfl)) okV_X12_takes) <| mm_cs (mm_okC_V tab_170 okM_X12_isThing (Or.inl (mm_in 7 32 rfl rfl)) okV_X12_isThing) <| mm_cs (mm_okC_V tab_171 okM_X12_isGun (Or.inl (mm_in 7 58 rfl rfl)) okV_X12_isGun) <| mm_cs (mm_okC_V tab_181 okM_X12_layDrive (Or.inl (mm_in 7 62 rfl rfl)) okV_X12_layDrive) <| mm_cs (mm_okC_V tab_189 okM_X12_areDrives (Or.inl (mm_in 7 115 rfl rfl)) okV_X12_areDrives) <| mm_cs (mm_okC_V tab_187 okM_X12_isRefused (Or.inl (mm_in 7 119 rfl rfl)) okV_X12_isRefused) <| mm_cs (mm_okC_V tab_186 okM_X12_keep (Or.inl (mm_in 7 123 rfl rfl)) okV_X12_keep) <| mm_cs (mm_okC_V tab_188 okM_X12_passDrive (Or.inl (mm_in 7 127 rfl rfl)) okV_X12_passDrive) <| mm_cs (mm_okC_S tab_173 okM_X12_isWind (Or.inl (mm_in 7 147 rfl rfl)) okS_X12_isWind) <| mm_cs (mm_okC_V tab_197 okM_X12_draw (Or.inl (mm_in 7 166 rfl rfl)) okV_X12_draw) <| mm_cs (mm_okC_V tab_198 okM_X12_drawDrive (Or.inl (mm_in 7 162 rfl rfl)) okV_X12_drawDrive) <| mm_cs (mm_okC_V tab_204 okM_X12_tryRow (Or.inl (mm_in 7 192 rfl rfl)) okV_X12_tryRow) <| mm_cs (mm_okC_V tab_208 okM_X12_unlike (Or.inl (mm_in 7 212 rfl rfl)) okV_X12_unlike) <| mm_cs (mm_okC_V tab_209 okM_X12_tryDeals (Or.inl (mm_in 7 208 rfl rfl)) okV_X12_tryDeals) <| mm_cs (mm_okC_V tab_207 okM_X12_layPegs (Or.inl (mm_in 7 204 rfl rfl)) okV_X12_layPegs) <| mm_cs (mm_okC_V tab_212 okM_X12_isLay (Or.inl (mm_in 7 224 rfl rfl)) okV_X12_isLay) <| mm_cs (mm_okC_V tab_213 okM_X12_lay (Or.inl (mm_in 7 232 rfl rfl)) okV_X12_lay) <| mm_cs (mm_okC_V tab_215 okM_X12_tryClaims (Or.inl (mm_in 8 1 rfl rfl)) okV_X12_tryClaims) <| mm_cs (mm_okC_V tab_216 okM_X12_claimable (Or.inl (mm_in 7 237 rfl rfl)) okV_X12_claimable) <| mm_cs (mm_okC_V tab_219 okM_X12_areTwo (Or.inl (mm_in 8 9 rfl rfl)) okV_X12_areTwo) <| mm_cs (mm_okC_V tab_218 okM_X12_gameOf (Or.inl (mm_in 8 14 rfl rfl)) okV_X12_gameOf) <| mm_cs (mm_okC_V tab_221 okM_X12_isRest (Or.inl (mm_in 8 22 rfl rfl)) okV_X12_isRest) <| mm_cs (mm_okC_V tab_223 okM_X12_oddsFrom (Or.inl (mm_in 8 31 rfl rfl)) okV_X12_oddsFrom) <| mm_cs (mm_okC_V tab_225 okM_X12_bagsOfAll (Or.inl (mm_in 8 40 rfl rfl)) okV_X12_bagsOfAll) <| mm_cs (mm_okC_V tab_228 okM_X12_finest (Or.inl (mm_in 8 52 rfl rfl)) okV_X12_finest) <| mm_cs (mm_okC_V tab_229 okM_X12_busiest (Or.inl (mm_in 8 56 rfl rfl)) okV_X12_busiest) <| mm_cs (mm_okC_V tab_230 okM_X12_topGun (Or.inl (mm_in 8 60 rfl rfl)) okV_X12_topGun) <| mm_cs (mm_okC_V tab_231 okM_X12_gap (Or.inl (mm_in 8 64 rfl rfl)) okV_X12_gap) <| mm_cs (mm_okC_V tab_232 okM_X12_whole (Or.inl (mm_in 8 68 rfl rfl)) okV_X12_whole) <| mm_cs (mm_okC_S tab_241 okM_J6_bitCount_0f7a4 (Or.inl (mm_in 8 72 rfl rfl)) okS_J6_bitCount_0f7a4) <| mm_nl
theorem okTX12 : mm_okT mm_tab tbX12 := ⟨okFX12, okCX12, mm_cs (mm_in 8 13 rfl rfl) <| mm_cs (mm_in 8 30 rfl rfl) <| mm_nl, mm_cs (mm_in 7 97 rfl rfl) <| mm_cs (mm_in 7 98 rfl rfl) <| mm_cs (mm_in 7 170 rfl rfl) <| mm_cs (mm_in 7 171 rfl rfl) <| mm_cs (mm_in 8 35 rfl rfl) <| mm_nl, mm_okX_is⟩
theorem okFJ11 : ∀ q ∈ tbJ11.2.1, mm_okF tbJ11.1 q := mm_nl
theorem okCJ11 : ∀ q ∈ tbJ11.2.2.1, mm_okC tbJ11.1 q := mm_nl
theorem okTJ11 : mm_okT mm_tab tbJ11 := ⟨okFJ11, okCJ11, mm_cs (mm_in 3 53 rfl rfl) <| mm_cs (mm_in 3 49 rfl rfl) <| mm_nl, mm_nl, mm_okX_is⟩
theorem okFJ6 : ∀ q ∈ tbJ6.2.1, mm_okF tbJ6.1 q := mm_nl
theorem okCJ6 : ∀ q ∈ tbJ6.2.2.1, mm_okC tbJ6.1 q := mm_nl
theorem okTJ6 : mm_okT mm_tab tbJ6 := ⟨okFJ6, okCJ6, mm_cs (mm_in 5 96 rfl rfl) <| mm_cs (mm_in 5 97 rfl rfl) <| mm_cs (mm_in 5 98 rfl rfl) <| mm_nl, mm_nl, mm_okX_is⟩
theorem okFJ9 : ∀ q ∈ tbJ9.2.1, mm_okF tbJ9.1 q := mm_nl
theorem okCJ9 : ∀ q ∈ tbJ9.2.2.1, mm_okC tbJ9.1 q := mm_nl
theorem okTJ9 : mm_okT mm_tab tbJ9 := ⟨okFJ9, okCJ9, mm_nl, mm_nl, mm_okX_is⟩
theorem okFJ0 : ∀ q ∈ tbJ0.2.1, mm_okF tbJ0.1 q := mm_nl
theorem okCJ0 : ∀ q ∈ tbJ0.2.2.1, mm_okC tbJ0.1 q := mm_cs (mm_okC_X tab_246 okM_J0_coder_7d493 (Or.inl (mm_in 2 211 rfl rfl)) okX_J0_coder_7d493) <| mm_cs (mm_okC_X tab_247 okM_J0_isLatin1_aae02 (Or.inl (mm_in 2 225 rfl rfl)) okX_J0_isLatin1_aae02) <| mm_cs (mm_okC_X tab_243 okM_J0_length_8abf5 (Or.inl (mm_in 2 229 rfl rfl)) okX_J0_length_8abf5) <| mm_cs (mm_okC_X tab_245 okM_J0_indexOf_7cf53 (Or.inl (mm_in 2 221 rfl rfl)) okX_J0_indexOf_7cf53) <| mm_cs (mm_okC_S tab_250 okM_J1_indexOf_4cfef (Or.inl (mm_in 2 230 rfl rfl)) okS_J1_indexOf_4cfef) <| mm_cs (mm_okC_S tab_254 okM_J2_indexOf_4cfef (Or.inl (mm_in 3 5 rfl rfl)) okS_J2_indexOf_4cfef) <| mm_cs (mm_okC_S tab_261 okM_J3_checkFromToIndex_8c36e (Or.inl (mm_in 3 25 rfl rfl)) okS_J3_checkFromToIndex_8c36e) <| mm_nl
theorem okTJ0 : mm_okT mm_tab tbJ0 := ⟨okFJ0, okCJ0, mm_nl, mm_nl, mm_okX_is⟩
theorem okFJ1 : ∀ q ∈ tbJ1.2.1, mm_okF tbJ1.1 q := mm_nl
theorem okCJ1 : ∀ q ∈ tbJ1.2.2.1, mm_okC tbJ1.1 q := mm_cs (mm_okC_min tab_263 okM_M_min (mm_in 2 239 rfl rfl) okS_M_min) <| mm_cs (mm_okC_S tab_249 okM_J1_canEncode_9a6ad (Or.inl (mm_in 2 233 rfl rfl)) okS_J1_canEncode_9a6ad) <| mm_cs (mm_okC_max tab_262 okM_M_max (mm_in 2 236 rfl rfl) okS_M_max) <| mm_cs (mm_okC_S tab_251 okM_J1_indexOfChar_4cfef (Or.inl (mm_in 3 2 rfl rfl)) okS_J1_indexOfChar_4cfef) <| mm_nl
theorem okTJ1 : mm_okT mm_tab tbJ1 := ⟨okFJ1, okCJ1, mm_nl, mm_nl, mm_okX_is⟩
theorem okFJ2 : ∀ q ∈ tbJ2.2.1, mm_okF tbJ2.1 q := mm_nl
theorem okCJ2 : ∀ q ∈ tbJ2.2.2.1, mm_okC tbJ2.1 q := mm_cs (mm_okC_S tab_253 okM_J2_length_9d52b (Or.inl (mm_in 3 17 rfl rfl)) okS_J2_length_9d52b) <| mm_cs (mm_okC_S tab_252 okM_J2_getChar_3b067 (Or.inl (mm_in 3 31 rfl rfl)) okS_J2_getChar_3b067) <| mm_cs (mm_okC_S tab_258 okM_J2_checkBoundsBeginEnd_d044e (Or.inl (mm_in 3 14 rfl rfl)) okS_J2_checkBoundsBeginEnd_d044e) <| mm_cs (mm_okC_S tab_239 okM_J11_highSurrogate_5068e (Or.inl (mm_in 3 46 rfl rfl)) okS_J11_highSurrogate_5068e) <| mm_cs (mm_okC_S tab_240 okM_J11_lowSurrogate_5068e (Or.inl (mm_in 3 50 rfl rfl)) okS_J11_lowSurrogate_5068e) <| mm_cs (mm_okC_S tab_238 okM_J11_isValidCodePoint_9a6ad (Or.inl (mm_in 3 43 rfl rfl)) okS_J11_isValidCodePoint_9a6ad) <| mm_cs (mm_okC_min tab_263 okM_M_min (mm_in 3 9 rfl rfl) okS_M_min) <| mm_cs (mm_okC_max tab_262 okM_M_max (mm_in 3 8 rfl rfl) okS_M_max) <| mm_cs (mm_okC_S tab_255 okM_J2_indexOfChar_4cfef (Or.inl (mm_in 3 11 rfl rfl)) okS_J2_indexOfChar_4cfef) <| mm_cs (mm_okC_S tab_257 okM_J2_indexOfSupplementary_4cfef (Or.inl (mm_in 3 40 rfl rfl)) okS_J2_indexOfSupplementary_4cfef) <| mm_cs (mm_okC_S tab_248 okM_J0_checkBoundsBeginEnd_23922 (Or.inl (mm_in 3 20 rfl rfl)) okS_J0_checkBoundsBeginEnd_23922) <| mm_cs (mm_okC_S tab_256 okM_J2_indexOfCharUnsafe_4cfef (Or.inl (mm_in 3 28 rfl rfl)) okS_J2_indexOfCharUnsafe_4cfef) <| mm_nl
theorem okTJ2 : mm_okT mm_tab tbJ2 := ⟨okFJ2, okCJ2, mm_cs (mm_in 3 10 rfl rfl) <| mm_nl, mm_nl, mm_okX_is⟩
theorem okFJ10 : ∀ q ∈ tbJ10.2.1, mm_okF tbJ10.1 q := mm_nl
theorem okCJ10 : ∀ q ∈ tbJ10.2.2.1, mm_okC tbJ10.1 q := mm_nl
theorem okTJ10 : mm_okT mm_tab tbJ10 := ⟨okFJ10, okCJ10, mm_nl, mm_nl, mm_okX_is⟩
theorem okFJ7 : ∀ q ∈ tbJ7.2.1, mm_okF tbJ7.1 q := mm_nl
theorem okCJ7 : ∀ q ∈ tbJ7.2.2.1, mm_okC tbJ7.1 q := mm_cs (mm_okC_min tab_263 okM_M_min (mm_in 3 180 rfl rfl) okS_M_min) <| mm_nl
theorem okTJ7 : mm_okT mm_tab tbJ7 := ⟨okFJ7, okCJ7, mm_nl, mm_nl, mm_okX_is⟩
theorem okFJ3 : ∀ q ∈ tbJ3.2.1, mm_okF tbJ3.1 q := mm_nl
theorem okCJ3 : ∀ q ∈ tbJ3.2.2.1, mm_okC tbJ3.1 q := mm_nl
theorem okTJ3 : mm_okT mm_tab tbJ3 := ⟨okFJ3, okCJ3, mm_nl, mm_nl, mm_okX_is⟩
