/-! the methods, by their numbers -/
abbrev mX0_isOf : ab_M := (yX0_isOf, cX0_isOf, 3, (some .boolean))
abbrev mX0_dark : ab_M := (yX0_dark, cX0_dark, 4, (some .int))
abbrev mX0_heavy : ab_M := (yX0_heavy, cX0_heavy, 4, (some .int))
abbrev mX0_worth : ab_M := (yX0_worth, cX0_worth, 4, (some .int))
abbrev mX1_init : ab_M := (yX1_init, cX1_init, 2, none)
abbrev mX1_readText : ab_M := (yX1_readText, cX1_readText, 2, (some (.object "DominoKing$Text")))
abbrev mX1_begin : ab_M := (yX1_begin, cX1_begin, 1, none)
abbrev mX1_keyAtHand : ab_M := (yX1_keyAtHand, cX1_keyAtHand, 1, (some .int))
abbrev mX1_wordIs : ab_M := (yX1_wordIs, cX1_wordIs, 3, (some .boolean))
abbrev mX1_step : ab_M := (yX1_step, cX1_step, 3, none)
abbrev mX1_sortAt : ab_M := (yX1_sortAt, cX1_sortAt, 3, (some .int))
abbrev mX1_signAtHand : ab_M := (yX1_signAtHand, cX1_signAtHand, 1, (some .int))
abbrev mX1_readLevel : ab_M := (yX1_readLevel, cX1_readLevel, 7, none)
abbrev mX1_levelOf : ab_M := (yX1_levelOf, cX1_levelOf, 1, (some .int))
abbrev mX1_readPiece : ab_M := (yX1_readPiece, cX1_readPiece, 4, none)
abbrev mX1_close : ab_M := (yX1_close, cX1_close, 1, none)
abbrev mX1_readOperand : ab_M := (yX1_readOperand, cX1_readOperand, 1, none)
abbrev mX1_numberAtHand : ab_M := (yX1_numberAtHand, cX1_numberAtHand, 3, (some .int))
abbrev mX1_nameAtHand : ab_M := (yX1_nameAtHand, cX1_nameAtHand, 1, (some .int))
abbrev mX1_emit : ab_M := (yX1_emit, cX1_emit, 3, none)
abbrev mX2_init : ab_M := (yX2_init, cX2_init, 1, none)
abbrev mX2_isMissing : ab_M := (yX2_isMissing, cX2_isMissing, 1, (some .boolean))
abbrev mX2_become : ab_M := (yX2_become, cX2_become, 3, none)
abbrev mX2_becomeLike : ab_M := (yX2_becomeLike, cX2_becomeLike, 2, none)
abbrev mX2_write : ab_M := (yX2_write, cX2_write, 3, (some .int))
abbrev mX2_isNumber : ab_M := (yX2_isNumber, cX2_isNumber, 2, (some .boolean))
abbrev mX2_hasPlaces : ab_M := (yX2_hasPlaces, cX2_hasPlaces, 3, (some .boolean))
abbrev mX3_init : ab_M := (yX3_init, cX3_init, 1, none)
abbrev mX3_takeStone : ab_M := (yX3_takeStone, cX3_takeStone, 4, none)
abbrev mX4_init : ab_M := (yX4_init, cX4_init, 1, none)
abbrev mX4_become : ab_M := (yX4_become, cX4_become, 3, none)
abbrev mX4_addStone : ab_M := (yX4_addStone, cX4_addStone, 5, (some .int))
abbrev mX4_drawStone : ab_M := (yX4_drawStone, cX4_drawStone, 4, none)
abbrev mX4_draw : ab_M := (yX4_draw, cX4_draw, 1, (some .int))
abbrev mX4_textAt : ab_M := (yX4_textAt, cX4_textAt, 2, (some (.object "DominoKing$Text")))
abbrev mX4_law : ab_M := (yX4_law, cX4_law, 2, (some (.object "DominoKing$Text")))
abbrev mX4_addText : ab_M := (yX4_addText, cX4_addText, 4, (some .int))
abbrev mX4_darken : ab_M := (yX4_darken, cX4_darken, 5, none)
abbrev mX4_darkOf : ab_M := (yX4_darkOf, cX4_darkOf, 6, (some .int))
abbrev mX4_darkAt : ab_M := (yX4_darkAt, cX4_darkAt, 3, (some .int))
abbrev mX4_heavy : ab_M := (yX4_heavy, cX4_heavy, 2, (some .int))
abbrev mX4_spots : ab_M := (yX4_spots, cX4_spots, 3, (some .int))
abbrev mX4_offAt : ab_M := (yX4_offAt, cX4_offAt, 7, (some .int))
abbrev mX4_leastOff : ab_M := (yX4_leastOff, cX4_leastOff, 3, (some .int))
abbrev mX4_isLaid : ab_M := (yX4_isLaid, cX4_isLaid, 2, (some .boolean))
abbrev mX4_moveTo : ab_M := (yX4_moveTo, cX4_moveTo, 3, none)
abbrev mX4_picture : ab_M := (yX4_picture, cX4_picture, 4, (some .int))
abbrev mX4_matches : ab_M := (yX4_matches, cX4_matches, 4, (some .int))
abbrev mX4_meet : ab_M := (yX4_meet, cX4_meet, 3, (some .boolean))
abbrev mX4_laidStones : ab_M := (yX4_laidStones, cX4_laidStones, 1, (some .int))
abbrev mX4_placesHeld : ab_M := (yX4_placesHeld, cX4_placesHeld, 3, (some .int))
abbrev mX4_passDays : ab_M := (yX4_passDays, cX4_passDays, 3, none)
abbrev mX4_passDay : ab_M := (yX4_passDay, cX4_passDay, 2, none)
abbrev mX4_firstEmptyIn : ab_M := (yX4_firstEmptyIn, cX4_firstEmptyIn, 4, (some .int))
abbrev mX4_layBestAt : ab_M := (yX4_layBestAt, cX4_layBestAt, 8, none)
abbrev mX4_turnAt : ab_M := (yX4_turnAt, cX4_turnAt, 3, none)
abbrev mX4_gainOfChange : ab_M := (yX4_gainOfChange, cX4_gainOfChange, 5, (some .int))
abbrev mX4_fallFrom : ab_M := (yX4_fallFrom, cX4_fallFrom, 6, (some .int))
abbrev mX4_unlike : ab_M := (yX4_unlike, cX4_unlike, 5, (some .int))
abbrev mX4_darkOfCell : ab_M := (yX4_darkOfCell, cX4_darkOfCell, 5, (some .int))
abbrev mX5_init : ab_M := (yX5_init, cX5_init, 1, none)
abbrev mX5_add : ab_M := (yX5_add, cX5_add, 3, none)
abbrev mX6_init : ab_M := (yX6_init, cX6_init, 5, none)
abbrev mX6_gives : ab_M := (yX6_gives, cX6_gives, 6, (some .int))
abbrev mX6_named : ab_M := (yX6_named, cX6_named, 4, (some .int))
abbrev mX6_joined : ab_M := (yX6_joined, cX6_joined, 3, (some .int))
abbrev mX6_truth : ab_M := (yX6_truth, cX6_truth, 1, (some .int))
abbrev mX7_init : ab_M := (yX7_init, cX7_init, 1, none)
abbrev mX7_behindDays : ab_M := (yX7_behindDays, cX7_behindDays, 3, (some (.object "DominoKing$Table")))
abbrev mX7_daysTillLaid : ab_M := (yX7_daysTillLaid, cX7_daysTillLaid, 4, (some .int))
abbrev mX7_pictureWithout : ab_M := (yX7_pictureWithout, cX7_pictureWithout, 4, (some .int))
abbrev mX7_rightAhead : ab_M := (yX7_rightAhead, cX7_rightAhead, 7, (some .int))
abbrev mX7_bestLaying : ab_M := (yX7_bestLaying, cX7_bestLaying, 5, (some .int))
abbrev mX7_offerStone : ab_M := (yX7_offerStone, cX7_offerStone, 6, none)
abbrev mX8_init : ab_M := (yX8_init, cX8_init, 2, none)
abbrev mX8_stone : ab_M := (yX8_stone, cX8_stone, 4, (some .int))
abbrev mX8_told : ab_M := (yX8_told, cX8_told, 3, (some .int))
abbrev mX8_off : ab_M := (yX8_off, cX8_off, 4, (some .int))
abbrev mX8_as : ab_M := (yX8_as, cX8_as, 3, (some .int))
abbrev mX8_turns : ab_M := (yX8_turns, cX8_turns, 4, (some .int))
abbrev mX8_put : ab_M := (yX8_put, cX8_put, 5, (some .int))
abbrev mX8_box : ab_M := (yX8_box, cX8_box, 3, (some .int))
abbrev mX8_want : ab_M := (yX8_want, cX8_want, 4, (some .int))
abbrev mX8_wind : ab_M := (yX8_wind, cX8_wind, 3, (some .int))
abbrev mX8_deal : ab_M := (yX8_deal, cX8_deal, 4, (some .int))
abbrev mX8_seed : ab_M := (yX8_seed, cX8_seed, 3, (some .int))
abbrev mX8_days : ab_M := (yX8_days, cX8_days, 3, (some .int))
abbrev mX8_king : ab_M := (yX8_king, cX8_king, 2, (some .int))
abbrev mX8_at : ab_M := (yX8_at, cX8_at, 2, (some .int))
abbrev mX8_best : ab_M := (yX8_best, cX8_best, 3, (some .int))
abbrev mX8_bestFor : ab_M := (yX8_bestFor, cX8_bestFor, 7, (some .int))
abbrev mX8_swap : ab_M := (yX8_swap, cX8_swap, 6, (some .int))
abbrev mX8_knocked : ab_M := (yX8_knocked, cX8_knocked, 2, (some .int))
abbrev mX8_push : ab_M := (yX8_push, cX8_push, 6, (some .int))
abbrev mX8_behind : ab_M := (yX8_behind, cX8_behind, 4, (some .int))
abbrev mX8_laid : ab_M := (yX8_laid, cX8_laid, 1, (some .int))
abbrev mX8_lost : ab_M := (yX8_lost, cX8_lost, 7, (some .int))
abbrev mX8_seen : ab_M := (yX8_seen, cX8_seen, 7, (some .int))
abbrev mX8_fee : ab_M := (yX8_fee, cX8_fee, 3, (some .int))
abbrev mX8_fine : ab_M := (yX8_fine, cX8_fine, 3, (some .int))
abbrev mX8_feed : ab_M := (yX8_feed, cX8_feed, 4, (some .int))
abbrev mX8_trim : ab_M := (yX8_trim, cX8_trim, 2, (some .int))
abbrev mX8_text : ab_M := (yX8_text, cX8_text, 2, (some .int))
abbrev mX8_textTold : ab_M := (yX8_textTold, cX8_textTold, 4, (some .int))
abbrev mX8_why : ab_M := (yX8_why, cX8_why, 2, (some .int))
abbrev mX8_sheet : ab_M := (yX8_sheet, cX8_sheet, 4, (some .int))
abbrev mX8_mark : ab_M := (yX8_mark, cX8_mark, 5, (some .int))
abbrev mX8_pour : ab_M := (yX8_pour, cX8_pour, 6, (some .int))
abbrev mX8_reads : ab_M := (yX8_reads, cX8_reads, 4, (some .int))
abbrev mX8_copy : ab_M := (yX8_copy, cX8_copy, 8, (some .int))
abbrev mX8_lay : ab_M := (yX8_lay, cX8_lay, 6, (some .int))
abbrev mX8_ask : ab_M := (yX8_ask, cX8_ask, 5, (some .int))
abbrev mX8_item : ab_M := (yX8_item, cX8_item, 5, (some .int))
abbrev mX8_rest : ab_M := (yX8_rest, cX8_rest, 4, (some .int))
abbrev mX8_tell : ab_M := (yX8_tell, cX8_tell, 2, (some .int))
abbrev mX8_check : ab_M := (yX8_check, cX8_check, 4, (some .int))
abbrev mX8_keep : ab_M := (yX8_keep, cX8_keep, 1, (some .int))
abbrev mX8_back : ab_M := (yX8_back, cX8_back, 1, (some .int))
abbrev mX8_count : ab_M := (yX8_count, cX8_count, 2, (some .int))
abbrev mX8_isStone : ab_M := (yX8_isStone, cX8_isStone, 2, (some .boolean))
abbrev mX8_isPlace : ab_M := (yX8_isPlace, cX8_isPlace, 1, (some .boolean))
abbrev mX8_isSheet : ab_M := (yX8_isSheet, cX8_isSheet, 1, (some .boolean))
abbrev mX8_isSlot : ab_M := (yX8_isSlot, cX8_isSlot, 1, (some .boolean))
abbrev mX8_within : ab_M := (yX8_within, cX8_within, 3, (some .boolean))
abbrev mX8_clamp : ab_M := (yX8_clamp, cX8_clamp, 3, (some .int))
abbrev mX8_stoneOrNone : ab_M := (yX8_stoneOrNone, cX8_stoneOrNone, 1, (some .int))
abbrev mX8_lookFor : ab_M := (yX8_lookFor, cX8_lookFor, 3, (some .int))
abbrev mX9_init : ab_M := (yX9_init, cX9_init, 2, none)
abbrev mX9_in : ab_M := (yX9_in, cX9_in, 3, (some .boolean))
abbrev mX9_within : ab_M := (yX9_within, cX9_within, 3, (some .int))
abbrev mX9_apart : ab_M := (yX9_apart, cX9_apart, 2, (some .int))
abbrev mX9_copyAll : ab_M := (yX9_copyAll, cX9_copyAll, 3, none)
abbrev mX9_told0 : ab_M := (yX9_told0, cX9_told0, 1, (some .int))
abbrev mX9_isStone : ab_M := (yX9_isStone, cX9_isStone, 2, (some .boolean))
abbrev mX9_isPlace : ab_M := (yX9_isPlace, cX9_isPlace, 1, (some .boolean))
abbrev mX9_of : ab_M := (yX9_of, cX9_of, 3, (some .int))
abbrev mX9_becomes : ab_M := (yX9_becomes, cX9_becomes, 4, (some .int))
abbrev mX9_comes : ab_M := (yX9_comes, cX9_comes, 6, (some .int))
abbrev mX9_stone : ab_M := (yX9_stone, cX9_stone, 4, (some .int))
abbrev mX9_heavyOf : ab_M := (yX9_heavyOf, cX9_heavyOf, 3, (some .int))
abbrev mX9_worthOf : ab_M := (yX9_worthOf, cX9_worthOf, 3, (some .int))
abbrev mX9_told : ab_M := (yX9_told, cX9_told, 3, (some .int))
abbrev mX9_spotsOf : ab_M := (yX9_spotsOf, cX9_spotsOf, 4, (some .int))
abbrev mX9_darkOf : ab_M := (yX9_darkOf, cX9_darkOf, 6, (some .int))
abbrev mX9_offOf : ab_M := (yX9_offOf, cX9_offOf, 6, (some .int))
abbrev mX9_off : ab_M := (yX9_off, cX9_off, 4, (some .int))
abbrev mX9_isUnder : ab_M := (yX9_isUnder, cX9_isUnder, 2, (some .boolean))
abbrev mX9_as : ab_M := (yX9_as, cX9_as, 3, (some .int))
abbrev mX9_turns : ab_M := (yX9_turns, cX9_turns, 3, (some .int))
abbrev mX9_holder : ab_M := (yX9_holder, cX9_holder, 4, (some .int))
abbrev mX9_put : ab_M := (yX9_put, cX9_put, 5, (some .int))
abbrev mX9_box : ab_M := (yX9_box, cX9_box, 2, (some .int))
abbrev mX9_want : ab_M := (yX9_want, cX9_want, 3, (some .int))
abbrev mX9_wind : ab_M := (yX9_wind, cX9_wind, 2, (some .int))
abbrev mX9_draw : ab_M := (yX9_draw, cX9_draw, 1, (some .int))
abbrev mX9_deal : ab_M := (yX9_deal, cX9_deal, 6, (some .int))
abbrev mX9_seed : ab_M := (yX9_seed, cX9_seed, 2, (some .int))
abbrev mX9_manyLaid : ab_M := (yX9_manyLaid, cX9_manyLaid, 3, (some .int))
abbrev mX9_laysIn : ab_M := (yX9_laysIn, cX9_laysIn, 9, none)
abbrev mX9_day : ab_M := (yX9_day, cX9_day, 2, none)
abbrev mX9_goesOn : ab_M := (yX9_goesOn, cX9_goesOn, 3, none)
abbrev mX9_days : ab_M := (yX9_days, cX9_days, 3, (some .int))
abbrev mX9_picture : ab_M := (yX9_picture, cX9_picture, 4, (some .int))
abbrev mX9_matches : ab_M := (yX9_matches, cX9_matches, 5, (some .int))
abbrev mX9_king : ab_M := (yX9_king, cX9_king, 4, (some .int))
abbrev mX9_at : ab_M := (yX9_at, cX9_at, 2, (some .int))
abbrev mX9_leastAt : ab_M := (yX9_leastAt, cX9_leastAt, 5, (some .int))
abbrev mX9_bits : ab_M := (yX9_bits, cX9_bits, 3, (some .int))
abbrev mX9_layable : ab_M := (yX9_layable, cX9_layable, 4, (some .int))
abbrev mX9_best : ab_M := (yX9_best, cX9_best, 13, (some .int))
abbrev mX9_bestFor : ab_M := (yX9_bestFor, cX9_bestFor, 7, (some .int))
abbrev mX9_change : ab_M := (yX9_change, cX9_change, 4, none)
abbrev mX9_swap : ab_M := (yX9_swap, cX9_swap, 6, (some .int))
abbrev mX9_falls : ab_M := (yX9_falls, cX9_falls, 6, (some .int))
abbrev mX9_knocked : ab_M := (yX9_knocked, cX9_knocked, 2, (some .int))
abbrev mX9_push : ab_M := (yX9_push, cX9_push, 6, (some .int))
abbrev mX9_thinks : ab_M := (yX9_thinks, cX9_thinks, 2, none)
abbrev mX9_putsBack : ab_M := (yX9_putsBack, cX9_putsBack, 2, none)
abbrev mX9_behind : ab_M := (yX9_behind, cX9_behind, 4, (some .int))
abbrev mX9_isLaid : ab_M := (yX9_isLaid, cX9_isLaid, 2, (some .boolean))
abbrev mX9_laid : ab_M := (yX9_laid, cX9_laid, 2, (some .int))
abbrev mX9_lost : ab_M := (yX9_lost, cX9_lost, 7, (some .int))
abbrev mX9_darkAt : ab_M := (yX9_darkAt, cX9_darkAt, 4, (some .int))
abbrev mX9_offBy : ab_M := (yX9_offBy, cX9_offBy, 9, (some .long))
abbrev mX9_seen : ab_M := (yX9_seen, cX9_seen, 9, (some .int))
abbrev mX9_fee : ab_M := (yX9_fee, cX9_fee, 3, (some .int))
abbrev mX9_fine : ab_M := (yX9_fine, cX9_fine, 3, (some .int))
abbrev mX9_feed : ab_M := (yX9_feed, cX9_feed, 6, (some .int))
abbrev mX9_trim : ab_M := (yX9_trim, cX9_trim, 2, (some .int))
abbrev mX9_isLetter : ab_M := (yX9_isLetter, cX9_isLetter, 2, (some .boolean))
abbrev mX9_isFigure : ab_M := (yX9_isFigure, cX9_isFigure, 2, (some .boolean))
abbrev mX9_go : ab_M := (yX9_go, cX9_go, 2, none)
abbrev mX9_takesKey : ab_M := (yX9_takesKey, cX9_takesKey, 5, (some .boolean))
abbrev mX9_nameOf : ab_M := (yX9_nameOf, cX9_nameOf, 2, (some .int))
abbrev mX9_rank : ab_M := (yX9_rank, cX9_rank, 1, (some .int))
abbrev mX9_settle : ab_M := (yX9_settle, cX9_settle, 2, none)
abbrev mX9_signHere : ab_M := (yX9_signHere, cX9_signHere, 1, (some .int))
abbrev mX9_takesPart : ab_M := (yX9_takesPart, cX9_takesPart, 2, (some .boolean))
abbrev mX9_takesE : ab_M := (yX9_takesE, cX9_takesE, 5, (some .boolean))
abbrev mX9_notsOpen : ab_M := (yX9_notsOpen, cX9_notsOpen, 3, (some .int))
abbrev mX9_text : ab_M := (yX9_text, cX9_text, 4, (some .int))
abbrev mX9_textTold : ab_M := (yX9_textTold, cX9_textTold, 3, (some .int))
abbrev mX9_counts : ab_M := (yX9_counts, cX9_counts, 3, (some .int))
abbrev mX9_why : ab_M := (yX9_why, cX9_why, 3, (some .int))
abbrev mX9_two : ab_M := (yX9_two, cX9_two, 3, (some .int))
abbrev mX9_worksOut : ab_M := (yX9_worksOut, cX9_worksOut, 6, (some .int))
abbrev mX9_isSheet : ab_M := (yX9_isSheet, cX9_isSheet, 1, (some .boolean))
abbrev mX9_isSlot : ab_M := (yX9_isSlot, cX9_isSlot, 1, (some .boolean))
abbrev mX9_sheet : ab_M := (yX9_sheet, cX9_sheet, 5, (some .int))
abbrev mX9_mark : ab_M := (yX9_mark, cX9_mark, 4, (some .int))
abbrev mX9_pour : ab_M := (yX9_pour, cX9_pour, 6, (some .int))
abbrev mX9_reads : ab_M := (yX9_reads, cX9_reads, 4, (some .int))
abbrev mX9_copy : ab_M := (yX9_copy, cX9_copy, 7, (some .int))
abbrev mX9_lay : ab_M := (yX9_lay, cX9_lay, 6, (some .int))
abbrev mX9_ask : ab_M := (yX9_ask, cX9_ask, 3, (some .int))
abbrev mX9_item : ab_M := (yX9_item, cX9_item, 4, (some .int))
abbrev mX9_rest : ab_M := (yX9_rest, cX9_rest, 3, (some .int))
abbrev mX9_tell : ab_M := (yX9_tell, cX9_tell, 2, (some .int))
abbrev mX9_check : ab_M := (yX9_check, cX9_check, 6, (some .int))
abbrev mX9_keep : ab_M := (yX9_keep, cX9_keep, 1, (some .int))
abbrev mX9_back : ab_M := (yX9_back, cX9_back, 1, (some .int))
abbrev mX9_count : ab_M := (yX9_count, cX9_count, 2, (some .int))
abbrev mJ11_isValidCodePoint_9a6ad : ab_M := (yJ11_isValidCodePoint_9a6ad, cJ11_isValidCodePoint_9a6ad, 2, (some .boolean))
abbrev mJ11_highSurrogate_5068e : ab_M := (yJ11_highSurrogate_5068e, cJ11_highSurrogate_5068e, 1, (some .char))
abbrev mJ11_lowSurrogate_5068e : ab_M := (yJ11_lowSurrogate_5068e, cJ11_lowSurrogate_5068e, 1, (some .char))
abbrev mJ6_bitCount_0f7a4 : ab_M := (yJ6_bitCount_0f7a4, cJ6_bitCount_0f7a4, 1, (some .int))
abbrev mJ9_abs_0f7a4 : ab_M := (yJ9_abs_0f7a4, cJ9_abs_0f7a4, 1, (some .int))
abbrev mJ9_max_7cf53 : ab_M := (yJ9_max_7cf53, cJ9_max_7cf53, 2, (some .int))
abbrev mJ9_min_7cf53 : ab_M := (yJ9_min_7cf53, cJ9_min_7cf53, 2, (some .int))
abbrev mJ0_length_8abf5 : ab_M := (yJ0_length_8abf5, cJ0_length_8abf5, 1, (some .int))
abbrev mJ0_charAt_5068e : ab_M := (yJ0_charAt_5068e, cJ0_charAt_5068e, 2, (some .char))
abbrev mJ0_indexOf_0f7a4 : ab_M := (yJ0_indexOf_0f7a4, cJ0_indexOf_0f7a4, 2, (some .int))
abbrev mJ0_indexOf_7cf53 : ab_M := (yJ0_indexOf_7cf53, cJ0_indexOf_7cf53, 3, (some .int))
abbrev mJ0_coder_7d493 : ab_M := (yJ0_coder_7d493, cJ0_coder_7d493, 1, (some .byte))
abbrev mJ0_isLatin1_aae02 : ab_M := (yJ0_isLatin1_aae02, cJ0_isLatin1_aae02, 1, (some .boolean))
abbrev mJ0_checkIndex_df160 : ab_M := (yJ0_checkIndex_df160, cJ0_checkIndex_df160, 2, none)
abbrev mJ0_checkBoundsBeginEnd_23922 : ab_M := (yJ0_checkBoundsBeginEnd_23922, cJ0_checkBoundsBeginEnd_23922, 3, none)
abbrev mJ1_charAt_3b067 : ab_M := (yJ1_charAt_3b067, cJ1_charAt_3b067, 2, (some .char))
abbrev mJ1_canEncode_9a6ad : ab_M := (yJ1_canEncode_9a6ad, cJ1_canEncode_9a6ad, 1, (some .boolean))
abbrev mJ1_indexOf_4cfef : ab_M := (yJ1_indexOf_4cfef, cJ1_indexOf_4cfef, 4, (some .int))
abbrev mJ1_indexOfChar_4cfef : ab_M := (yJ1_indexOfChar_4cfef, cJ1_indexOfChar_4cfef, 6, (some .int))
abbrev mJ2_getChar_3b067 : ab_M := (yJ2_getChar_3b067, cJ2_getChar_3b067, 2, (some .char))
abbrev mJ2_length_9d52b : ab_M := (yJ2_length_9d52b, cJ2_length_9d52b, 1, (some .int))
abbrev mJ2_indexOf_4cfef : ab_M := (yJ2_indexOf_4cfef, cJ2_indexOf_4cfef, 4, (some .int))
abbrev mJ2_indexOfChar_4cfef : ab_M := (yJ2_indexOfChar_4cfef, cJ2_indexOfChar_4cfef, 4, (some .int))
abbrev mJ2_indexOfCharUnsafe_4cfef : ab_M := (yJ2_indexOfCharUnsafe_4cfef, cJ2_indexOfCharUnsafe_4cfef, 5, (some .int))
abbrev mJ2_indexOfSupplementary_4cfef : ab_M := (yJ2_indexOfSupplementary_4cfef, cJ2_indexOfSupplementary_4cfef, 7, (some .int))
abbrev mJ2_charAt_3b067 : ab_M := (yJ2_charAt_3b067, cJ2_charAt_3b067, 2, (some .char))
abbrev mJ2_checkIndex_2214a : ab_M := (yJ2_checkIndex_2214a, cJ2_checkIndex_2214a, 2, none)
abbrev mJ2_checkBoundsBeginEnd_d044e : ab_M := (yJ2_checkBoundsBeginEnd_d044e, cJ2_checkBoundsBeginEnd_d044e, 3, none)
abbrev mJ7_fill_53178 : ab_M := (yJ7_fill_53178, cJ7_fill_53178, 4, none)
abbrev mJ7_copyOf_59c91 : ab_M := (yJ7_copyOf_59c91, cJ7_copyOf_59c91, 3, (some (.array .int)))
abbrev mJ3_checkIndex_8e157 : ab_M := (yJ3_checkIndex_8e157, cJ3_checkIndex_8e157, 3, (some .int))
abbrev mJ3_checkFromToIndex_8c36e : ab_M := (yJ3_checkFromToIndex_8c36e, cJ3_checkFromToIndex_8c36e, 4, (some .int))
def ab_MT : List ab_M := [mX0_isOf, mX0_dark, mX0_heavy, mX0_worth, mX1_init, mX1_readText, mX1_begin, mX1_keyAtHand, mX1_wordIs, mX1_step, mX1_sortAt, mX1_signAtHand, mX1_readLevel, mX1_levelOf, mX1_readPiece, mX1_close, mX1_readOperand, mX1_numberAtHand, mX1_nameAtHand, mX1_emit, mX2_init, mX2_isMissing, mX2_become, mX2_becomeLike, mX2_write, mX2_isNumber, mX2_hasPlaces, mX3_init, mX3_takeStone, mX4_init, mX4_become, mX4_addStone, mX4_drawStone, mX4_draw, mX4_textAt, mX4_law, mX4_addText, mX4_darken, mX4_darkOf, mX4_darkAt, mX4_heavy, mX4_spots, mX4_offAt, mX4_leastOff, mX4_isLaid, mX4_moveTo, mX4_picture, mX4_matches, mX4_meet, mX4_laidStones, mX4_placesHeld, mX4_passDays, mX4_passDay, mX4_firstEmptyIn, mX4_layBestAt, mX4_turnAt, mX4_gainOfChange, mX4_fallFrom, mX4_unlike, mX4_darkOfCell, mX5_init, mX5_add, mX6_init, mX6_gives, mX6_named, mX6_joined, mX6_truth, mX7_init, mX7_behindDays, mX7_daysTillLaid, mX7_pictureWithout, mX7_rightAhead, mX7_bestLaying, mX7_offerStone, mX8_init, mX8_stone, mX8_told, mX8_off, mX8_as, mX8_turns, mX8_put, mX8_box, mX8_want, mX8_wind, mX8_deal, mX8_seed, mX8_days, mX8_king, mX8_at, mX8_best, mX8_bestFor, mX8_swap, mX8_knocked, mX8_push, mX8_behind, mX8_laid, mX8_lost, mX8_seen, mX8_fee, mX8_fine, mX8_feed, mX8_trim, mX8_text, mX8_textTold, mX8_why, mX8_sheet, mX8_mark, mX8_pour, mX8_reads, mX8_copy, mX8_lay, mX8_ask, mX8_item, mX8_rest, mX8_tell, mX8_check, mX8_keep, mX8_back, mX8_count, mX8_isStone, mX8_isPlace, mX8_isSheet, mX8_isSlot, mX8_within, mX8_clamp, mX8_stoneOrNone, mX8_lookFor, mX9_init, mX9_in, mX9_within, mX9_apart, mX9_copyAll, mX9_told0, mX9_isStone, mX9_isPlace, mX9_of, mX9_becomes, mX9_comes, mX9_stone, mX9_heavyOf, mX9_worthOf, mX9_told, mX9_spotsOf, mX9_darkOf, mX9_offOf, mX9_off, mX9_isUnder, mX9_as, mX9_turns, mX9_holder, mX9_put, mX9_box, mX9_want, mX9_wind, mX9_draw, mX9_deal, mX9_seed, mX9_manyLaid, mX9_laysIn, mX9_day, mX9_goesOn, mX9_days, mX9_picture, mX9_matches, mX9_king, mX9_at, mX9_leastAt, mX9_bits, mX9_layable, mX9_best, mX9_bestFor, mX9_change, mX9_swap, mX9_falls, mX9_knocked, mX9_push, mX9_thinks, mX9_putsBack, mX9_behind, mX9_isLaid, mX9_laid, mX9_lost, mX9_darkAt, mX9_offBy, mX9_seen, mX9_fee, mX9_fine, mX9_feed, mX9_trim, mX9_isLetter, mX9_isFigure, mX9_go, mX9_takesKey, mX9_nameOf, mX9_rank, mX9_settle, mX9_signHere, mX9_takesPart, mX9_takesE, mX9_notsOpen, mX9_text, mX9_textTold, mX9_counts, mX9_why, mX9_two, mX9_worksOut, mX9_isSheet, mX9_isSlot, mX9_sheet, mX9_mark, mX9_pour, mX9_reads, mX9_copy, mX9_lay, mX9_ask, mX9_item, mX9_rest, mX9_tell, mX9_check, mX9_keep, mX9_back, mX9_count, mJ11_isValidCodePoint_9a6ad, mJ11_highSurrogate_5068e, mJ11_lowSurrogate_5068e, mJ6_bitCount_0f7a4, mJ9_abs_0f7a4, mJ9_max_7cf53, mJ9_min_7cf53, mJ0_length_8abf5, mJ0_charAt_5068e, mJ0_indexOf_0f7a4, mJ0_indexOf_7cf53, mJ0_coder_7d493, mJ0_isLatin1_aae02, mJ0_checkIndex_df160, mJ0_checkBoundsBeginEnd_23922, mJ1_charAt_3b067, mJ1_canEncode_9a6ad, mJ1_indexOf_4cfef, mJ1_indexOfChar_4cfef, mJ2_getChar_3b067, mJ2_length_9d52b, mJ2_indexOf_4cfef, mJ2_indexOfChar_4cfef, mJ2_indexOfCharUnsafe_4cfef, mJ2_indexOfSupplementary_4cfef, mJ2_charAt_3b067, mJ2_checkIndex_2214a, mJ2_checkBoundsBeginEnd_d044e, mJ7_fill_53178, mJ7_copyOf_59c91, mJ3_checkIndex_8e157, mJ3_checkFromToIndex_8c36e]
def ab_Mf (i : Nat) : ab_M := ab_MT.getD i mX0_isOf
theorem mt_0 : ab_Mf 0 = mX0_isOf := rfl
theorem mt_1 : ab_Mf 1 = mX0_dark := rfl
theorem mt_2 : ab_Mf 2 = mX0_heavy := rfl
theorem mt_3 : ab_Mf 3 = mX0_worth := rfl
theorem mt_4 : ab_Mf 4 = mX1_init := rfl
theorem mt_5 : ab_Mf 5 = mX1_readText := rfl
theorem mt_6 : ab_Mf 6 = mX1_begin := rfl
theorem mt_7 : ab_Mf 7 = mX1_keyAtHand := rfl
theorem mt_8 : ab_Mf 8 = mX1_wordIs := rfl
theorem mt_9 : ab_Mf 9 = mX1_step := rfl
theorem mt_10 : ab_Mf 10 = mX1_sortAt := rfl
theorem mt_11 : ab_Mf 11 = mX1_signAtHand := rfl
theorem mt_12 : ab_Mf 12 = mX1_readLevel := rfl
theorem mt_13 : ab_Mf 13 = mX1_levelOf := rfl
theorem mt_14 : ab_Mf 14 = mX1_readPiece := rfl
theorem mt_15 : ab_Mf 15 = mX1_close := rfl
theorem mt_16 : ab_Mf 16 = mX1_readOperand := rfl
theorem mt_17 : ab_Mf 17 = mX1_numberAtHand := rfl
theorem mt_18 : ab_Mf 18 = mX1_nameAtHand := rfl
theorem mt_19 : ab_Mf 19 = mX1_emit := rfl
theorem mt_20 : ab_Mf 20 = mX2_init := rfl
theorem mt_21 : ab_Mf 21 = mX2_isMissing := rfl
theorem mt_22 : ab_Mf 22 = mX2_become := rfl
theorem mt_23 : ab_Mf 23 = mX2_becomeLike := rfl
theorem mt_24 : ab_Mf 24 = mX2_write := rfl
theorem mt_25 : ab_Mf 25 = mX2_isNumber := rfl
theorem mt_26 : ab_Mf 26 = mX2_hasPlaces := rfl
theorem mt_27 : ab_Mf 27 = mX3_init := rfl
theorem mt_28 : ab_Mf 28 = mX3_takeStone := rfl
theorem mt_29 : ab_Mf 29 = mX4_init := rfl
theorem mt_30 : ab_Mf 30 = mX4_become := rfl
theorem mt_31 : ab_Mf 31 = mX4_addStone := rfl
theorem mt_32 : ab_Mf 32 = mX4_drawStone := rfl
theorem mt_33 : ab_Mf 33 = mX4_draw := rfl
theorem mt_34 : ab_Mf 34 = mX4_textAt := rfl
theorem mt_35 : ab_Mf 35 = mX4_law := rfl
theorem mt_36 : ab_Mf 36 = mX4_addText := rfl
theorem mt_37 : ab_Mf 37 = mX4_darken := rfl
theorem mt_38 : ab_Mf 38 = mX4_darkOf := rfl
theorem mt_39 : ab_Mf 39 = mX4_darkAt := rfl
theorem mt_40 : ab_Mf 40 = mX4_heavy := rfl
theorem mt_41 : ab_Mf 41 = mX4_spots := rfl
theorem mt_42 : ab_Mf 42 = mX4_offAt := rfl
theorem mt_43 : ab_Mf 43 = mX4_leastOff := rfl
theorem mt_44 : ab_Mf 44 = mX4_isLaid := rfl
theorem mt_45 : ab_Mf 45 = mX4_moveTo := rfl
theorem mt_46 : ab_Mf 46 = mX4_picture := rfl
theorem mt_47 : ab_Mf 47 = mX4_matches := rfl
theorem mt_48 : ab_Mf 48 = mX4_meet := rfl
theorem mt_49 : ab_Mf 49 = mX4_laidStones := rfl
theorem mt_50 : ab_Mf 50 = mX4_placesHeld := rfl
theorem mt_51 : ab_Mf 51 = mX4_passDays := rfl
theorem mt_52 : ab_Mf 52 = mX4_passDay := rfl
theorem mt_53 : ab_Mf 53 = mX4_firstEmptyIn := rfl
theorem mt_54 : ab_Mf 54 = mX4_layBestAt := rfl
theorem mt_55 : ab_Mf 55 = mX4_turnAt := rfl
theorem mt_56 : ab_Mf 56 = mX4_gainOfChange := rfl
theorem mt_57 : ab_Mf 57 = mX4_fallFrom := rfl
theorem mt_58 : ab_Mf 58 = mX4_unlike := rfl
theorem mt_59 : ab_Mf 59 = mX4_darkOfCell := rfl
theorem mt_60 : ab_Mf 60 = mX5_init := rfl
theorem mt_61 : ab_Mf 61 = mX5_add := rfl
theorem mt_62 : ab_Mf 62 = mX6_init := rfl
theorem mt_63 : ab_Mf 63 = mX6_gives := rfl
theorem mt_64 : ab_Mf 64 = mX6_named := rfl
theorem mt_65 : ab_Mf 65 = mX6_joined := rfl
theorem mt_66 : ab_Mf 66 = mX6_truth := rfl
theorem mt_67 : ab_Mf 67 = mX7_init := rfl
theorem mt_68 : ab_Mf 68 = mX7_behindDays := rfl
theorem mt_69 : ab_Mf 69 = mX7_daysTillLaid := rfl
theorem mt_70 : ab_Mf 70 = mX7_pictureWithout := rfl
theorem mt_71 : ab_Mf 71 = mX7_rightAhead := rfl
theorem mt_72 : ab_Mf 72 = mX7_bestLaying := rfl
theorem mt_73 : ab_Mf 73 = mX7_offerStone := rfl
theorem mt_74 : ab_Mf 74 = mX8_init := rfl
theorem mt_75 : ab_Mf 75 = mX8_stone := rfl
theorem mt_76 : ab_Mf 76 = mX8_told := rfl
theorem mt_77 : ab_Mf 77 = mX8_off := rfl
theorem mt_78 : ab_Mf 78 = mX8_as := rfl
theorem mt_79 : ab_Mf 79 = mX8_turns := rfl
theorem mt_80 : ab_Mf 80 = mX8_put := rfl
theorem mt_81 : ab_Mf 81 = mX8_box := rfl
theorem mt_82 : ab_Mf 82 = mX8_want := rfl
theorem mt_83 : ab_Mf 83 = mX8_wind := rfl
theorem mt_84 : ab_Mf 84 = mX8_deal := rfl
theorem mt_85 : ab_Mf 85 = mX8_seed := rfl
theorem mt_86 : ab_Mf 86 = mX8_days := rfl
theorem mt_87 : ab_Mf 87 = mX8_king := rfl
theorem mt_88 : ab_Mf 88 = mX8_at := rfl
theorem mt_89 : ab_Mf 89 = mX8_best := rfl
theorem mt_90 : ab_Mf 90 = mX8_bestFor := rfl
theorem mt_91 : ab_Mf 91 = mX8_swap := rfl
theorem mt_92 : ab_Mf 92 = mX8_knocked := rfl
theorem mt_93 : ab_Mf 93 = mX8_push := rfl
theorem mt_94 : ab_Mf 94 = mX8_behind := rfl
theorem mt_95 : ab_Mf 95 = mX8_laid := rfl
theorem mt_96 : ab_Mf 96 = mX8_lost := rfl
theorem mt_97 : ab_Mf 97 = mX8_seen := rfl
theorem mt_98 : ab_Mf 98 = mX8_fee := rfl
theorem mt_99 : ab_Mf 99 = mX8_fine := rfl
theorem mt_100 : ab_Mf 100 = mX8_feed := rfl
theorem mt_101 : ab_Mf 101 = mX8_trim := rfl
theorem mt_102 : ab_Mf 102 = mX8_text := rfl
theorem mt_103 : ab_Mf 103 = mX8_textTold := rfl
theorem mt_104 : ab_Mf 104 = mX8_why := rfl
theorem mt_105 : ab_Mf 105 = mX8_sheet := rfl
theorem mt_106 : ab_Mf 106 = mX8_mark := rfl
theorem mt_107 : ab_Mf 107 = mX8_pour := rfl
theorem mt_108 : ab_Mf 108 = mX8_reads := rfl
theorem mt_109 : ab_Mf 109 = mX8_copy := rfl
theorem mt_110 : ab_Mf 110 = mX8_lay := rfl
theorem mt_111 : ab_Mf 111 = mX8_ask := rfl
theorem mt_112 : ab_Mf 112 = mX8_item := rfl
theorem mt_113 : ab_Mf 113 = mX8_rest := rfl
theorem mt_114 : ab_Mf 114 = mX8_tell := rfl
theorem mt_115 : ab_Mf 115 = mX8_check := rfl
theorem mt_116 : ab_Mf 116 = mX8_keep := rfl
theorem mt_117 : ab_Mf 117 = mX8_back := rfl
theorem mt_118 : ab_Mf 118 = mX8_count := rfl
theorem mt_119 : ab_Mf 119 = mX8_isStone := rfl
theorem mt_120 : ab_Mf 120 = mX8_isPlace := rfl
theorem mt_121 : ab_Mf 121 = mX8_isSheet := rfl
theorem mt_122 : ab_Mf 122 = mX8_isSlot := rfl
theorem mt_123 : ab_Mf 123 = mX8_within := rfl
theorem mt_124 : ab_Mf 124 = mX8_clamp := rfl
theorem mt_125 : ab_Mf 125 = mX8_stoneOrNone := rfl
theorem mt_126 : ab_Mf 126 = mX8_lookFor := rfl
theorem mt_127 : ab_Mf 127 = mX9_init := rfl
theorem mt_128 : ab_Mf 128 = mX9_in := rfl
theorem mt_129 : ab_Mf 129 = mX9_within := rfl
theorem mt_130 : ab_Mf 130 = mX9_apart := rfl
theorem mt_131 : ab_Mf 131 = mX9_copyAll := rfl
theorem mt_132 : ab_Mf 132 = mX9_told0 := rfl
theorem mt_133 : ab_Mf 133 = mX9_isStone := rfl
theorem mt_134 : ab_Mf 134 = mX9_isPlace := rfl
theorem mt_135 : ab_Mf 135 = mX9_of := rfl
theorem mt_136 : ab_Mf 136 = mX9_becomes := rfl
theorem mt_137 : ab_Mf 137 = mX9_comes := rfl
theorem mt_138 : ab_Mf 138 = mX9_stone := rfl
theorem mt_139 : ab_Mf 139 = mX9_heavyOf := rfl
theorem mt_140 : ab_Mf 140 = mX9_worthOf := rfl
theorem mt_141 : ab_Mf 141 = mX9_told := rfl
theorem mt_142 : ab_Mf 142 = mX9_spotsOf := rfl
theorem mt_143 : ab_Mf 143 = mX9_darkOf := rfl
theorem mt_144 : ab_Mf 144 = mX9_offOf := rfl
theorem mt_145 : ab_Mf 145 = mX9_off := rfl
theorem mt_146 : ab_Mf 146 = mX9_isUnder := rfl
theorem mt_147 : ab_Mf 147 = mX9_as := rfl
theorem mt_148 : ab_Mf 148 = mX9_turns := rfl
theorem mt_149 : ab_Mf 149 = mX9_holder := rfl
theorem mt_150 : ab_Mf 150 = mX9_put := rfl
theorem mt_151 : ab_Mf 151 = mX9_box := rfl
theorem mt_152 : ab_Mf 152 = mX9_want := rfl
theorem mt_153 : ab_Mf 153 = mX9_wind := rfl
theorem mt_154 : ab_Mf 154 = mX9_draw := rfl
theorem mt_155 : ab_Mf 155 = mX9_deal := rfl
theorem mt_156 : ab_Mf 156 = mX9_seed := rfl
theorem mt_157 : ab_Mf 157 = mX9_manyLaid := rfl
theorem mt_158 : ab_Mf 158 = mX9_laysIn := rfl
theorem mt_159 : ab_Mf 159 = mX9_day := rfl
theorem mt_160 : ab_Mf 160 = mX9_goesOn := rfl
theorem mt_161 : ab_Mf 161 = mX9_days := rfl
theorem mt_162 : ab_Mf 162 = mX9_picture := rfl
theorem mt_163 : ab_Mf 163 = mX9_matches := rfl
theorem mt_164 : ab_Mf 164 = mX9_king := rfl
theorem mt_165 : ab_Mf 165 = mX9_at := rfl
theorem mt_166 : ab_Mf 166 = mX9_leastAt := rfl
theorem mt_167 : ab_Mf 167 = mX9_bits := rfl
theorem mt_168 : ab_Mf 168 = mX9_layable := rfl
theorem mt_169 : ab_Mf 169 = mX9_best := rfl
theorem mt_170 : ab_Mf 170 = mX9_bestFor := rfl
theorem mt_171 : ab_Mf 171 = mX9_change := rfl
theorem mt_172 : ab_Mf 172 = mX9_swap := rfl
theorem mt_173 : ab_Mf 173 = mX9_falls := rfl
theorem mt_174 : ab_Mf 174 = mX9_knocked := rfl
theorem mt_175 : ab_Mf 175 = mX9_push := rfl
theorem mt_176 : ab_Mf 176 = mX9_thinks := rfl
theorem mt_177 : ab_Mf 177 = mX9_putsBack := rfl
theorem mt_178 : ab_Mf 178 = mX9_behind := rfl
theorem mt_179 : ab_Mf 179 = mX9_isLaid := rfl
theorem mt_180 : ab_Mf 180 = mX9_laid := rfl
theorem mt_181 : ab_Mf 181 = mX9_lost := rfl
theorem mt_182 : ab_Mf 182 = mX9_darkAt := rfl
theorem mt_183 : ab_Mf 183 = mX9_offBy := rfl
theorem mt_184 : ab_Mf 184 = mX9_seen := rfl
theorem mt_185 : ab_Mf 185 = mX9_fee := rfl
theorem mt_186 : ab_Mf 186 = mX9_fine := rfl
theorem mt_187 : ab_Mf 187 = mX9_feed := rfl
theorem mt_188 : ab_Mf 188 = mX9_trim := rfl
theorem mt_189 : ab_Mf 189 = mX9_isLetter := rfl
theorem mt_190 : ab_Mf 190 = mX9_isFigure := rfl
theorem mt_191 : ab_Mf 191 = mX9_go := rfl
theorem mt_192 : ab_Mf 192 = mX9_takesKey := rfl
theorem mt_193 : ab_Mf 193 = mX9_nameOf := rfl
theorem mt_194 : ab_Mf 194 = mX9_rank := rfl
theorem mt_195 : ab_Mf 195 = mX9_settle := rfl
theorem mt_196 : ab_Mf 196 = mX9_signHere := rfl
theorem mt_197 : ab_Mf 197 = mX9_takesPart := rfl
theorem mt_198 : ab_Mf 198 = mX9_takesE := rfl
theorem mt_199 : ab_Mf 199 = mX9_notsOpen := rfl
theorem mt_200 : ab_Mf 200 = mX9_text := rfl
theorem mt_201 : ab_Mf 201 = mX9_textTold := rfl
theorem mt_202 : ab_Mf 202 = mX9_counts := rfl
theorem mt_203 : ab_Mf 203 = mX9_why := rfl
theorem mt_204 : ab_Mf 204 = mX9_two := rfl
theorem mt_205 : ab_Mf 205 = mX9_worksOut := rfl
theorem mt_206 : ab_Mf 206 = mX9_isSheet := rfl
theorem mt_207 : ab_Mf 207 = mX9_isSlot := rfl
theorem mt_208 : ab_Mf 208 = mX9_sheet := rfl
theorem mt_209 : ab_Mf 209 = mX9_mark := rfl
theorem mt_210 : ab_Mf 210 = mX9_pour := rfl
theorem mt_211 : ab_Mf 211 = mX9_reads := rfl
theorem mt_212 : ab_Mf 212 = mX9_copy := rfl
theorem mt_213 : ab_Mf 213 = mX9_lay := rfl
theorem mt_214 : ab_Mf 214 = mX9_ask := rfl
theorem mt_215 : ab_Mf 215 = mX9_item := rfl
theorem mt_216 : ab_Mf 216 = mX9_rest := rfl
theorem mt_217 : ab_Mf 217 = mX9_tell := rfl
theorem mt_218 : ab_Mf 218 = mX9_check := rfl
theorem mt_219 : ab_Mf 219 = mX9_keep := rfl
theorem mt_220 : ab_Mf 220 = mX9_back := rfl
theorem mt_221 : ab_Mf 221 = mX9_count := rfl
theorem mt_222 : ab_Mf 222 = mJ11_isValidCodePoint_9a6ad := rfl
theorem mt_223 : ab_Mf 223 = mJ11_highSurrogate_5068e := rfl
theorem mt_224 : ab_Mf 224 = mJ11_lowSurrogate_5068e := rfl
theorem mt_225 : ab_Mf 225 = mJ6_bitCount_0f7a4 := rfl
theorem mt_229 : ab_Mf 229 = mJ0_length_8abf5 := rfl
theorem mt_230 : ab_Mf 230 = mJ0_charAt_5068e := rfl
theorem mt_231 : ab_Mf 231 = mJ0_indexOf_0f7a4 := rfl
theorem mt_232 : ab_Mf 232 = mJ0_indexOf_7cf53 := rfl
theorem mt_233 : ab_Mf 233 = mJ0_coder_7d493 := rfl
theorem mt_234 : ab_Mf 234 = mJ0_isLatin1_aae02 := rfl
theorem mt_235 : ab_Mf 235 = mJ0_checkIndex_df160 := rfl
theorem mt_237 : ab_Mf 237 = mJ1_charAt_3b067 := rfl
theorem mt_238 : ab_Mf 238 = mJ1_canEncode_9a6ad := rfl
theorem mt_239 : ab_Mf 239 = mJ1_indexOf_4cfef := rfl
theorem mt_240 : ab_Mf 240 = mJ1_indexOfChar_4cfef := rfl
theorem mt_250 : ab_Mf 250 = mJ7_fill_53178 := rfl
theorem mt_251 : ab_Mf 251 = mJ7_copyOf_59c91 := rfl
theorem mt_252 : ab_Mf 252 = mJ3_checkIndex_8e157 := rfl
theorem mt_253 : ab_Mf 253 = mJ3_checkFromToIndex_8c36e := rfl
theorem hy_0 : mX0_isOf.1.cls ≠ "java/lang/invoke/MethodHandle" ∧ mX0_isOf.1.cls ≠ "java/lang/invoke/VarHandle" ∧ (parseMethodDescriptor mX0_isOf.1.desc).map (fun d => d.parameters.length) = some 2 := ⟨by decide +kernel, by decide +kernel, by decide +kernel⟩
theorem hm_0 : mX0_isOf.2.2.1 ≤ 45 := by decide +kernel
theorem hy_1 : mX0_dark.1.cls ≠ "java/lang/invoke/MethodHandle" ∧ mX0_dark.1.cls ≠ "java/lang/invoke/VarHandle" ∧ (parseMethodDescriptor mX0_dark.1.desc).map (fun d => d.parameters.length) = some 2 := ⟨by decide +kernel, by decide +kernel, by decide +kernel⟩
theorem hm_1 : mX0_dark.2.2.1 ≤ 45 := by decide +kernel
theorem hy_2 : mX0_heavy.1.cls ≠ "java/lang/invoke/MethodHandle" ∧ mX0_heavy.1.cls ≠ "java/lang/invoke/VarHandle" ∧ (parseMethodDescriptor mX0_heavy.1.desc).map (fun d => d.parameters.length) = some 3 := ⟨by decide +kernel, by decide +kernel, by decide +kernel⟩
theorem hm_2 : mX0_heavy.2.2.1 ≤ 45 := by decide +kernel
theorem hy_3 : mX0_worth.1.cls ≠ "java/lang/invoke/MethodHandle" ∧ mX0_worth.1.cls ≠ "java/lang/invoke/VarHandle" ∧ (parseMethodDescriptor mX0_worth.1.desc).map (fun d => d.parameters.length) = some 3 := ⟨by decide +kernel, by decide +kernel, by decide +kernel⟩
theorem hm_3 : mX0_worth.2.2.1 ≤ 45 := by decide +kernel
theorem hy_4 : mX1_init.1.cls ≠ "java/lang/invoke/MethodHandle" ∧ mX1_init.1.cls ≠ "java/lang/invoke/VarHandle" ∧ (parseMethodDescriptor mX1_init.1.desc).map (fun d => d.parameters.length) = some 1 := ⟨by decide +kernel, by decide +kernel, by decide +kernel⟩
theorem hm_4 : mX1_init.2.2.1 ≤ 45 := by decide +kernel
theorem hy_5 : mX1_readText.1.cls ≠ "java/lang/invoke/MethodHandle" ∧ mX1_readText.1.cls ≠ "java/lang/invoke/VarHandle" ∧ (parseMethodDescriptor mX1_readText.1.desc).map (fun d => d.parameters.length) = some 0 := ⟨by decide +kernel, by decide +kernel, by decide +kernel⟩
theorem hm_5 : mX1_readText.2.2.1 ≤ 45 := by decide +kernel
theorem hy_6 : mX1_begin.1.cls ≠ "java/lang/invoke/MethodHandle" ∧ mX1_begin.1.cls ≠ "java/lang/invoke/VarHandle" ∧ (parseMethodDescriptor mX1_begin.1.desc).map (fun d => d.parameters.length) = some 0 := ⟨by decide +kernel, by decide +kernel, by decide +kernel⟩
theorem hm_6 : mX1_begin.2.2.1 ≤ 45 := by decide +kernel
theorem hy_7 : mX1_keyAtHand.1.cls ≠ "java/lang/invoke/MethodHandle" ∧ mX1_keyAtHand.1.cls ≠ "java/lang/invoke/VarHandle" ∧ (parseMethodDescriptor mX1_keyAtHand.1.desc).map (fun d => d.parameters.length) = some 0 := ⟨by decide +kernel, by decide +kernel, by decide +kernel⟩
theorem hm_7 : mX1_keyAtHand.2.2.1 ≤ 45 := by decide +kernel
theorem hy_8 : mX1_wordIs.1.cls ≠ "java/lang/invoke/MethodHandle" ∧ mX1_wordIs.1.cls ≠ "java/lang/invoke/VarHandle" ∧ (parseMethodDescriptor mX1_wordIs.1.desc).map (fun d => d.parameters.length) = some 1 := ⟨by decide +kernel, by decide +kernel, by decide +kernel⟩
theorem hm_8 : mX1_wordIs.2.2.1 ≤ 45 := by decide +kernel
theorem hy_9 : mX1_step.1.cls ≠ "java/lang/invoke/MethodHandle" ∧ mX1_step.1.cls ≠ "java/lang/invoke/VarHandle" ∧ (parseMethodDescriptor mX1_step.1.desc).map (fun d => d.parameters.length) = some 0 := ⟨by decide +kernel, by decide +kernel, by decide +kernel⟩
theorem hm_9 : mX1_step.2.2.1 ≤ 45 := by decide +kernel
theorem hy_10 : mX1_sortAt.1.cls ≠ "java/lang/invoke/MethodHandle" ∧ mX1_sortAt.1.cls ≠ "java/lang/invoke/VarHandle" ∧ (parseMethodDescriptor mX1_sortAt.1.desc).map (fun d => d.parameters.length) = some 1 := ⟨by decide +kernel, by decide +kernel, by decide +kernel⟩
theorem hm_10 : mX1_sortAt.2.2.1 ≤ 45 := by decide +kernel
theorem hy_11 : mX1_signAtHand.1.cls ≠ "java/lang/invoke/MethodHandle" ∧ mX1_signAtHand.1.cls ≠ "java/lang/invoke/VarHandle" ∧ (parseMethodDescriptor mX1_signAtHand.1.desc).map (fun d => d.parameters.length) = some 0 := ⟨by decide +kernel, by decide +kernel, by decide +kernel⟩
theorem hm_11 : mX1_signAtHand.2.2.1 ≤ 45 := by decide +kernel
theorem hy_12 : mX1_readLevel.1.cls ≠ "java/lang/invoke/MethodHandle" ∧ mX1_readLevel.1.cls ≠ "java/lang/invoke/VarHandle" ∧ (parseMethodDescriptor mX1_readLevel.1.desc).map (fun d => d.parameters.length) = some 3 := ⟨by decide +kernel, by decide +kernel, by decide +kernel⟩
theorem hm_12 : mX1_readLevel.2.2.1 ≤ 45 := by decide +kernel
theorem hy_13 : mX1_levelOf.1.cls ≠ "java/lang/invoke/MethodHandle" ∧ mX1_levelOf.1.cls ≠ "java/lang/invoke/VarHandle" ∧ (parseMethodDescriptor mX1_levelOf.1.desc).map (fun d => d.parameters.length) = some 1 := ⟨by decide +kernel, by decide +kernel, by decide +kernel⟩
theorem hm_13 : mX1_levelOf.2.2.1 ≤ 45 := by decide +kernel
theorem hy_14 : mX1_readPiece.1.cls ≠ "java/lang/invoke/MethodHandle" ∧ mX1_readPiece.1.cls ≠ "java/lang/invoke/VarHandle" ∧ (parseMethodDescriptor mX1_readPiece.1.desc).map (fun d => d.parameters.length) = some 2 := ⟨by decide +kernel, by decide +kernel, by decide +kernel⟩
theorem hm_14 : mX1_readPiece.2.2.1 ≤ 45 := by decide +kernel
theorem hy_15 : mX1_close.1.cls ≠ "java/lang/invoke/MethodHandle" ∧ mX1_close.1.cls ≠ "java/lang/invoke/VarHandle" ∧ (parseMethodDescriptor mX1_close.1.desc).map (fun d => d.parameters.length) = some 0 := ⟨by decide +kernel, by decide +kernel, by decide +kernel⟩
theorem hm_15 : mX1_close.2.2.1 ≤ 45 := by decide +kernel
theorem hy_16 : mX1_readOperand.1.cls ≠ "java/lang/invoke/MethodHandle" ∧ mX1_readOperand.1.cls ≠ "java/lang/invoke/VarHandle" ∧ (parseMethodDescriptor mX1_readOperand.1.desc).map (fun d => d.parameters.length) = some 0 := ⟨by decide +kernel, by decide +kernel, by decide +kernel⟩
theorem hm_16 : mX1_readOperand.2.2.1 ≤ 45 := by decide +kernel
theorem hy_17 : mX1_numberAtHand.1.cls ≠ "java/lang/invoke/MethodHandle" ∧ mX1_numberAtHand.1.cls ≠ "java/lang/invoke/VarHandle" ∧ (parseMethodDescriptor mX1_numberAtHand.1.desc).map (fun d => d.parameters.length) = some 0 := ⟨by decide +kernel, by decide +kernel, by decide +kernel⟩
theorem hm_17 : mX1_numberAtHand.2.2.1 ≤ 45 := by decide +kernel
theorem hy_18 : mX1_nameAtHand.1.cls ≠ "java/lang/invoke/MethodHandle" ∧ mX1_nameAtHand.1.cls ≠ "java/lang/invoke/VarHandle" ∧ (parseMethodDescriptor mX1_nameAtHand.1.desc).map (fun d => d.parameters.length) = some 0 := ⟨by decide +kernel, by decide +kernel, by decide +kernel⟩
theorem hm_18 : mX1_nameAtHand.2.2.1 ≤ 45 := by decide +kernel
theorem hy_19 : mX1_emit.1.cls ≠ "java/lang/invoke/MethodHandle" ∧ mX1_emit.1.cls ≠ "java/lang/invoke/VarHandle" ∧ (parseMethodDescriptor mX1_emit.1.desc).map (fun d => d.parameters.length) = some 2 := ⟨by decide +kernel, by decide +kernel, by decide +kernel⟩
theorem hm_19 : mX1_emit.2.2.1 ≤ 45 := by decide +kernel
theorem hy_20 : mX2_init.1.cls ≠ "java/lang/invoke/MethodHandle" ∧ mX2_init.1.cls ≠ "java/lang/invoke/VarHandle" ∧ (parseMethodDescriptor mX2_init.1.desc).map (fun d => d.parameters.length) = some 0 := ⟨by decide +kernel, by decide +kernel, by decide +kernel⟩
theorem hm_20 : mX2_init.2.2.1 ≤ 45 := by decide +kernel
theorem hy_21 : mX2_isMissing.1.cls ≠ "java/lang/invoke/MethodHandle" ∧ mX2_isMissing.1.cls ≠ "java/lang/invoke/VarHandle" ∧ (parseMethodDescriptor mX2_isMissing.1.desc).map (fun d => d.parameters.length) = some 0 := ⟨by decide +kernel, by decide +kernel, by decide +kernel⟩
theorem hm_21 : mX2_isMissing.2.2.1 ≤ 45 := by decide +kernel
theorem hy_22 : mX2_become.1.cls ≠ "java/lang/invoke/MethodHandle" ∧ mX2_become.1.cls ≠ "java/lang/invoke/VarHandle" ∧ (parseMethodDescriptor mX2_become.1.desc).map (fun d => d.parameters.length) = some 2 := ⟨by decide +kernel, by decide +kernel, by decide +kernel⟩
theorem hm_22 : mX2_become.2.2.1 ≤ 45 := by decide +kernel
theorem hy_23 : mX2_becomeLike.1.cls ≠ "java/lang/invoke/MethodHandle" ∧ mX2_becomeLike.1.cls ≠ "java/lang/invoke/VarHandle" ∧ (parseMethodDescriptor mX2_becomeLike.1.desc).map (fun d => d.parameters.length) = some 1 := ⟨by decide +kernel, by decide +kernel, by decide +kernel⟩
theorem hm_23 : mX2_becomeLike.2.2.1 ≤ 45 := by decide +kernel
theorem hy_24 : mX2_write.1.cls ≠ "java/lang/invoke/MethodHandle" ∧ mX2_write.1.cls ≠ "java/lang/invoke/VarHandle" ∧ (parseMethodDescriptor mX2_write.1.desc).map (fun d => d.parameters.length) = some 2 := ⟨by decide +kernel, by decide +kernel, by decide +kernel⟩
theorem hm_24 : mX2_write.2.2.1 ≤ 45 := by decide +kernel
theorem hy_25 : mX2_isNumber.1.cls ≠ "java/lang/invoke/MethodHandle" ∧ mX2_isNumber.1.cls ≠ "java/lang/invoke/VarHandle" ∧ (parseMethodDescriptor mX2_isNumber.1.desc).map (fun d => d.parameters.length) = some 1 := ⟨by decide +kernel, by decide +kernel, by decide +kernel⟩
theorem hm_25 : mX2_isNumber.2.2.1 ≤ 45 := by decide +kernel
theorem hy_26 : mX2_hasPlaces.1.cls ≠ "java/lang/invoke/MethodHandle" ∧ mX2_hasPlaces.1.cls ≠ "java/lang/invoke/VarHandle" ∧ (parseMethodDescriptor mX2_hasPlaces.1.desc).map (fun d => d.parameters.length) = some 2 := ⟨by decide +kernel, by decide +kernel, by decide +kernel⟩
theorem hm_26 : mX2_hasPlaces.2.2.1 ≤ 45 := by decide +kernel
theorem hy_27 : mX3_init.1.cls ≠ "java/lang/invoke/MethodHandle" ∧ mX3_init.1.cls ≠ "java/lang/invoke/VarHandle" ∧ (parseMethodDescriptor mX3_init.1.desc).map (fun d => d.parameters.length) = some 0 := ⟨by decide +kernel, by decide +kernel, by decide +kernel⟩
theorem hm_27 : mX3_init.2.2.1 ≤ 45 := by decide +kernel
theorem hy_28 : mX3_takeStone.1.cls ≠ "java/lang/invoke/MethodHandle" ∧ mX3_takeStone.1.cls ≠ "java/lang/invoke/VarHandle" ∧ (parseMethodDescriptor mX3_takeStone.1.desc).map (fun d => d.parameters.length) = some 3 := ⟨by decide +kernel, by decide +kernel, by decide +kernel⟩
theorem hm_28 : mX3_takeStone.2.2.1 ≤ 45 := by decide +kernel
theorem hy_29 : mX4_init.1.cls ≠ "java/lang/invoke/MethodHandle" ∧ mX4_init.1.cls ≠ "java/lang/invoke/VarHandle" ∧ (parseMethodDescriptor mX4_init.1.desc).map (fun d => d.parameters.length) = some 0 := ⟨by decide +kernel, by decide +kernel, by decide +kernel⟩
theorem hm_29 : mX4_init.2.2.1 ≤ 45 := by decide +kernel
theorem hy_30 : mX4_become.1.cls ≠ "java/lang/invoke/MethodHandle" ∧ mX4_become.1.cls ≠ "java/lang/invoke/VarHandle" ∧ (parseMethodDescriptor mX4_become.1.desc).map (fun d => d.parameters.length) = some 1 := ⟨by decide +kernel, by decide +kernel, by decide +kernel⟩
theorem hm_30 : mX4_become.2.2.1 ≤ 45 := by decide +kernel
theorem hy_31 : mX4_addStone.1.cls ≠ "java/lang/invoke/MethodHandle" ∧ mX4_addStone.1.cls ≠ "java/lang/invoke/VarHandle" ∧ (parseMethodDescriptor mX4_addStone.1.desc).map (fun d => d.parameters.length) = some 3 := ⟨by decide +kernel, by decide +kernel, by decide +kernel⟩
theorem hm_31 : mX4_addStone.2.2.1 ≤ 45 := by decide +kernel
theorem hy_32 : mX4_drawStone.1.cls ≠ "java/lang/invoke/MethodHandle" ∧ mX4_drawStone.1.cls ≠ "java/lang/invoke/VarHandle" ∧ (parseMethodDescriptor mX4_drawStone.1.desc).map (fun d => d.parameters.length) = some 0 := ⟨by decide +kernel, by decide +kernel, by decide +kernel⟩
theorem hm_32 : mX4_drawStone.2.2.1 ≤ 45 := by decide +kernel
theorem hy_33 : mX4_draw.1.cls ≠ "java/lang/invoke/MethodHandle" ∧ mX4_draw.1.cls ≠ "java/lang/invoke/VarHandle" ∧ (parseMethodDescriptor mX4_draw.1.desc).map (fun d => d.parameters.length) = some 0 := ⟨by decide +kernel, by decide +kernel, by decide +kernel⟩
theorem hm_33 : mX4_draw.2.2.1 ≤ 45 := by decide +kernel
theorem hy_34 : mX4_textAt.1.cls ≠ "java/lang/invoke/MethodHandle" ∧ mX4_textAt.1.cls ≠ "java/lang/invoke/VarHandle" ∧ (parseMethodDescriptor mX4_textAt.1.desc).map (fun d => d.parameters.length) = some 1 := ⟨by decide +kernel, by decide +kernel, by decide +kernel⟩
theorem hm_34 : mX4_textAt.2.2.1 ≤ 45 := by decide +kernel
theorem hy_35 : mX4_law.1.cls ≠ "java/lang/invoke/MethodHandle" ∧ mX4_law.1.cls ≠ "java/lang/invoke/VarHandle" ∧ (parseMethodDescriptor mX4_law.1.desc).map (fun d => d.parameters.length) = some 1 := ⟨by decide +kernel, by decide +kernel, by decide +kernel⟩
theorem hm_35 : mX4_law.2.2.1 ≤ 45 := by decide +kernel
theorem hy_36 : mX4_addText.1.cls ≠ "java/lang/invoke/MethodHandle" ∧ mX4_addText.1.cls ≠ "java/lang/invoke/VarHandle" ∧ (parseMethodDescriptor mX4_addText.1.desc).map (fun d => d.parameters.length) = some 1 := ⟨by decide +kernel, by decide +kernel, by decide +kernel⟩
theorem hm_36 : mX4_addText.2.2.1 ≤ 45 := by decide +kernel
theorem hy_37 : mX4_darken.1.cls ≠ "java/lang/invoke/MethodHandle" ∧ mX4_darken.1.cls ≠ "java/lang/invoke/VarHandle" ∧ (parseMethodDescriptor mX4_darken.1.desc).map (fun d => d.parameters.length) = some 1 := ⟨by decide +kernel, by decide +kernel, by decide +kernel⟩
theorem hm_37 : mX4_darken.2.2.1 ≤ 45 := by decide +kernel
theorem hy_38 : mX4_darkOf.1.cls ≠ "java/lang/invoke/MethodHandle" ∧ mX4_darkOf.1.cls ≠ "java/lang/invoke/VarHandle" ∧ (parseMethodDescriptor mX4_darkOf.1.desc).map (fun d => d.parameters.length) = some 5 := ⟨by decide +kernel, by decide +kernel, by decide +kernel⟩
theorem hm_38 : mX4_darkOf.2.2.1 ≤ 45 := by decide +kernel
theorem hy_39 : mX4_darkAt.1.cls ≠ "java/lang/invoke/MethodHandle" ∧ mX4_darkAt.1.cls ≠ "java/lang/invoke/VarHandle" ∧ (parseMethodDescriptor mX4_darkAt.1.desc).map (fun d => d.parameters.length) = some 3 := ⟨by decide +kernel, by decide +kernel, by decide +kernel⟩
theorem hm_39 : mX4_darkAt.2.2.1 ≤ 45 := by decide +kernel
theorem hy_40 : mX4_heavy.1.cls ≠ "java/lang/invoke/MethodHandle" ∧ mX4_heavy.1.cls ≠ "java/lang/invoke/VarHandle" ∧ (parseMethodDescriptor mX4_heavy.1.desc).map (fun d => d.parameters.length) = some 1 := ⟨by decide +kernel, by decide +kernel, by decide +kernel⟩
theorem hm_40 : mX4_heavy.2.2.1 ≤ 45 := by decide +kernel
theorem hy_41 : mX4_spots.1.cls ≠ "java/lang/invoke/MethodHandle" ∧ mX4_spots.1.cls ≠ "java/lang/invoke/VarHandle" ∧ (parseMethodDescriptor mX4_spots.1.desc).map (fun d => d.parameters.length) = some 2 := ⟨by decide +kernel, by decide +kernel, by decide +kernel⟩
theorem hm_41 : mX4_spots.2.2.1 ≤ 45 := by decide +kernel
theorem hy_42 : mX4_offAt.1.cls ≠ "java/lang/invoke/MethodHandle" ∧ mX4_offAt.1.cls ≠ "java/lang/invoke/VarHandle" ∧ (parseMethodDescriptor mX4_offAt.1.desc).map (fun d => d.parameters.length) = some 3 := ⟨by decide +kernel, by decide +kernel, by decide +kernel⟩
theorem hm_42 : mX4_offAt.2.2.1 ≤ 45 := by decide +kernel
theorem hy_43 : mX4_leastOff.1.cls ≠ "java/lang/invoke/MethodHandle" ∧ mX4_leastOff.1.cls ≠ "java/lang/invoke/VarHandle" ∧ (parseMethodDescriptor mX4_leastOff.1.desc).map (fun d => d.parameters.length) = some 2 := ⟨by decide +kernel, by decide +kernel, by decide +kernel⟩
theorem hm_43 : mX4_leastOff.2.2.1 ≤ 45 := by decide +kernel
theorem hy_44 : mX4_isLaid.1.cls ≠ "java/lang/invoke/MethodHandle" ∧ mX4_isLaid.1.cls ≠ "java/lang/invoke/VarHandle" ∧ (parseMethodDescriptor mX4_isLaid.1.desc).map (fun d => d.parameters.length) = some 1 := ⟨by decide +kernel, by decide +kernel, by decide +kernel⟩
theorem hm_44 : mX4_isLaid.2.2.1 ≤ 45 := by decide +kernel
theorem hy_45 : mX4_moveTo.1.cls ≠ "java/lang/invoke/MethodHandle" ∧ mX4_moveTo.1.cls ≠ "java/lang/invoke/VarHandle" ∧ (parseMethodDescriptor mX4_moveTo.1.desc).map (fun d => d.parameters.length) = some 2 := ⟨by decide +kernel, by decide +kernel, by decide +kernel⟩
theorem hm_45 : mX4_moveTo.2.2.1 ≤ 45 := by decide +kernel
theorem hy_46 : mX4_picture.1.cls ≠ "java/lang/invoke/MethodHandle" ∧ mX4_picture.1.cls ≠ "java/lang/invoke/VarHandle" ∧ (parseMethodDescriptor mX4_picture.1.desc).map (fun d => d.parameters.length) = some 0 := ⟨by decide +kernel, by decide +kernel, by decide +kernel⟩
theorem hm_46 : mX4_picture.2.2.1 ≤ 45 := by decide +kernel
theorem hy_47 : mX4_matches.1.cls ≠ "java/lang/invoke/MethodHandle" ∧ mX4_matches.1.cls ≠ "java/lang/invoke/VarHandle" ∧ (parseMethodDescriptor mX4_matches.1.desc).map (fun d => d.parameters.length) = some 0 := ⟨by decide +kernel, by decide +kernel, by decide +kernel⟩
theorem hm_47 : mX4_matches.2.2.1 ≤ 45 := by decide +kernel
theorem hy_48 : mX4_meet.1.cls ≠ "java/lang/invoke/MethodHandle" ∧ mX4_meet.1.cls ≠ "java/lang/invoke/VarHandle" ∧ (parseMethodDescriptor mX4_meet.1.desc).map (fun d => d.parameters.length) = some 2 := ⟨by decide +kernel, by decide +kernel, by decide +kernel⟩
theorem hm_48 : mX4_meet.2.2.1 ≤ 45 := by decide +kernel
theorem hy_49 : mX4_laidStones.1.cls ≠ "java/lang/invoke/MethodHandle" ∧ mX4_laidStones.1.cls ≠ "java/lang/invoke/VarHandle" ∧ (parseMethodDescriptor mX4_laidStones.1.desc).map (fun d => d.parameters.length) = some 0 := ⟨by decide +kernel, by decide +kernel, by decide +kernel⟩
theorem hm_49 : mX4_laidStones.2.2.1 ≤ 45 := by decide +kernel
theorem hy_50 : mX4_placesHeld.1.cls ≠ "java/lang/invoke/MethodHandle" ∧ mX4_placesHeld.1.cls ≠ "java/lang/invoke/VarHandle" ∧ (parseMethodDescriptor mX4_placesHeld.1.desc).map (fun d => d.parameters.length) = some 0 := ⟨by decide +kernel, by decide +kernel, by decide +kernel⟩
theorem hm_50 : mX4_placesHeld.2.2.1 ≤ 45 := by decide +kernel
theorem hy_51 : mX4_passDays.1.cls ≠ "java/lang/invoke/MethodHandle" ∧ mX4_passDays.1.cls ≠ "java/lang/invoke/VarHandle" ∧ (parseMethodDescriptor mX4_passDays.1.desc).map (fun d => d.parameters.length) = some 1 := ⟨by decide +kernel, by decide +kernel, by decide +kernel⟩
theorem hm_51 : mX4_passDays.2.2.1 ≤ 45 := by decide +kernel
theorem hy_52 : mX4_passDay.1.cls ≠ "java/lang/invoke/MethodHandle" ∧ mX4_passDay.1.cls ≠ "java/lang/invoke/VarHandle" ∧ (parseMethodDescriptor mX4_passDay.1.desc).map (fun d => d.parameters.length) = some 0 := ⟨by decide +kernel, by decide +kernel, by decide +kernel⟩
theorem hm_52 : mX4_passDay.2.2.1 ≤ 45 := by decide +kernel
theorem hy_53 : mX4_firstEmptyIn.1.cls ≠ "java/lang/invoke/MethodHandle" ∧ mX4_firstEmptyIn.1.cls ≠ "java/lang/invoke/VarHandle" ∧ (parseMethodDescriptor mX4_firstEmptyIn.1.desc).map (fun d => d.parameters.length) = some 1 := ⟨by decide +kernel, by decide +kernel, by decide +kernel⟩
theorem hm_53 : mX4_firstEmptyIn.2.2.1 ≤ 45 := by decide +kernel
theorem hy_54 : mX4_layBestAt.1.cls ≠ "java/lang/invoke/MethodHandle" ∧ mX4_layBestAt.1.cls ≠ "java/lang/invoke/VarHandle" ∧ (parseMethodDescriptor mX4_layBestAt.1.desc).map (fun d => d.parameters.length) = some 1 := ⟨by decide +kernel, by decide +kernel, by decide +kernel⟩
theorem hm_54 : mX4_layBestAt.2.2.1 ≤ 45 := by decide +kernel
theorem hy_55 : mX4_turnAt.1.cls ≠ "java/lang/invoke/MethodHandle" ∧ mX4_turnAt.1.cls ≠ "java/lang/invoke/VarHandle" ∧ (parseMethodDescriptor mX4_turnAt.1.desc).map (fun d => d.parameters.length) = some 1 := ⟨by decide +kernel, by decide +kernel, by decide +kernel⟩
theorem hm_55 : mX4_turnAt.2.2.1 ≤ 45 := by decide +kernel
theorem hy_56 : mX4_gainOfChange.1.cls ≠ "java/lang/invoke/MethodHandle" ∧ mX4_gainOfChange.1.cls ≠ "java/lang/invoke/VarHandle" ∧ (parseMethodDescriptor mX4_gainOfChange.1.desc).map (fun d => d.parameters.length) = some 2 := ⟨by decide +kernel, by decide +kernel, by decide +kernel⟩
theorem hm_56 : mX4_gainOfChange.2.2.1 ≤ 45 := by decide +kernel
theorem hy_57 : mX4_fallFrom.1.cls ≠ "java/lang/invoke/MethodHandle" ∧ mX4_fallFrom.1.cls ≠ "java/lang/invoke/VarHandle" ∧ (parseMethodDescriptor mX4_fallFrom.1.desc).map (fun d => d.parameters.length) = some 1 := ⟨by decide +kernel, by decide +kernel, by decide +kernel⟩
theorem hm_57 : mX4_fallFrom.2.2.1 ≤ 45 := by decide +kernel
theorem hy_58 : mX4_unlike.1.cls ≠ "java/lang/invoke/MethodHandle" ∧ mX4_unlike.1.cls ≠ "java/lang/invoke/VarHandle" ∧ (parseMethodDescriptor mX4_unlike.1.desc).map (fun d => d.parameters.length) = some 2 := ⟨by decide +kernel, by decide +kernel, by decide +kernel⟩
theorem hm_58 : mX4_unlike.2.2.1 ≤ 45 := by decide +kernel
theorem hy_59 : mX4_darkOfCell.1.cls ≠ "java/lang/invoke/MethodHandle" ∧ mX4_darkOfCell.1.cls ≠ "java/lang/invoke/VarHandle" ∧ (parseMethodDescriptor mX4_darkOfCell.1.desc).map (fun d => d.parameters.length) = some 1 := ⟨by decide +kernel, by decide +kernel, by decide +kernel⟩
theorem hm_59 : mX4_darkOfCell.2.2.1 ≤ 45 := by decide +kernel
theorem hy_60 : mX5_init.1.cls ≠ "java/lang/invoke/MethodHandle" ∧ mX5_init.1.cls ≠ "java/lang/invoke/VarHandle" ∧ (parseMethodDescriptor mX5_init.1.desc).map (fun d => d.parameters.length) = some 0 := ⟨by decide +kernel, by decide +kernel, by decide +kernel⟩
theorem hm_60 : mX5_init.2.2.1 ≤ 45 := by decide +kernel
theorem hy_61 : mX5_add.1.cls ≠ "java/lang/invoke/MethodHandle" ∧ mX5_add.1.cls ≠ "java/lang/invoke/VarHandle" ∧ (parseMethodDescriptor mX5_add.1.desc).map (fun d => d.parameters.length) = some 1 := ⟨by decide +kernel, by decide +kernel, by decide +kernel⟩
theorem hm_61 : mX5_add.2.2.1 ≤ 45 := by decide +kernel
theorem hy_62 : mX6_init.1.cls ≠ "java/lang/invoke/MethodHandle" ∧ mX6_init.1.cls ≠ "java/lang/invoke/VarHandle" ∧ (parseMethodDescriptor mX6_init.1.desc).map (fun d => d.parameters.length) = some 4 := ⟨by decide +kernel, by decide +kernel, by decide +kernel⟩
theorem hm_62 : mX6_init.2.2.1 ≤ 45 := by decide +kernel
theorem hy_63 : mX6_gives.1.cls ≠ "java/lang/invoke/MethodHandle" ∧ mX6_gives.1.cls ≠ "java/lang/invoke/VarHandle" ∧ (parseMethodDescriptor mX6_gives.1.desc).map (fun d => d.parameters.length) = some 3 := ⟨by decide +kernel, by decide +kernel, by decide +kernel⟩
theorem hm_63 : mX6_gives.2.2.1 ≤ 45 := by decide +kernel
theorem hy_64 : mX6_named.1.cls ≠ "java/lang/invoke/MethodHandle" ∧ mX6_named.1.cls ≠ "java/lang/invoke/VarHandle" ∧ (parseMethodDescriptor mX6_named.1.desc).map (fun d => d.parameters.length) = some 4 := ⟨by decide +kernel, by decide +kernel, by decide +kernel⟩
theorem hm_64 : mX6_named.2.2.1 ≤ 45 := by decide +kernel
theorem hy_65 : mX6_joined.1.cls ≠ "java/lang/invoke/MethodHandle" ∧ mX6_joined.1.cls ≠ "java/lang/invoke/VarHandle" ∧ (parseMethodDescriptor mX6_joined.1.desc).map (fun d => d.parameters.length) = some 3 := ⟨by decide +kernel, by decide +kernel, by decide +kernel⟩
theorem hm_65 : mX6_joined.2.2.1 ≤ 45 := by decide +kernel
theorem hy_66 : mX6_truth.1.cls ≠ "java/lang/invoke/MethodHandle" ∧ mX6_truth.1.cls ≠ "java/lang/invoke/VarHandle" ∧ (parseMethodDescriptor mX6_truth.1.desc).map (fun d => d.parameters.length) = some 1 := ⟨by decide +kernel, by decide +kernel, by decide +kernel⟩
theorem hm_66 : mX6_truth.2.2.1 ≤ 45 := by decide +kernel
theorem hy_67 : mX7_init.1.cls ≠ "java/lang/invoke/MethodHandle" ∧ mX7_init.1.cls ≠ "java/lang/invoke/VarHandle" ∧ (parseMethodDescriptor mX7_init.1.desc).map (fun d => d.parameters.length) = some 0 := ⟨by decide +kernel, by decide +kernel, by decide +kernel⟩
theorem hm_67 : mX7_init.2.2.1 ≤ 45 := by decide +kernel
theorem hy_68 : mX7_behindDays.1.cls ≠ "java/lang/invoke/MethodHandle" ∧ mX7_behindDays.1.cls ≠ "java/lang/invoke/VarHandle" ∧ (parseMethodDescriptor mX7_behindDays.1.desc).map (fun d => d.parameters.length) = some 2 := ⟨by decide +kernel, by decide +kernel, by decide +kernel⟩
theorem hm_68 : mX7_behindDays.2.2.1 ≤ 45 := by decide +kernel
theorem hy_69 : mX7_daysTillLaid.1.cls ≠ "java/lang/invoke/MethodHandle" ∧ mX7_daysTillLaid.1.cls ≠ "java/lang/invoke/VarHandle" ∧ (parseMethodDescriptor mX7_daysTillLaid.1.desc).map (fun d => d.parameters.length) = some 1 := ⟨by decide +kernel, by decide +kernel, by decide +kernel⟩
theorem hm_69 : mX7_daysTillLaid.2.2.1 ≤ 45 := by decide +kernel
theorem hy_70 : mX7_pictureWithout.1.cls ≠ "java/lang/invoke/MethodHandle" ∧ mX7_pictureWithout.1.cls ≠ "java/lang/invoke/VarHandle" ∧ (parseMethodDescriptor mX7_pictureWithout.1.desc).map (fun d => d.parameters.length) = some 3 := ⟨by decide +kernel, by decide +kernel, by decide +kernel⟩
theorem hm_70 : mX7_pictureWithout.2.2.1 ≤ 45 := by decide +kernel
theorem hy_71 : mX7_rightAhead.1.cls ≠ "java/lang/invoke/MethodHandle" ∧ mX7_rightAhead.1.cls ≠ "java/lang/invoke/VarHandle" ∧ (parseMethodDescriptor mX7_rightAhead.1.desc).map (fun d => d.parameters.length) = some 4 := ⟨by decide +kernel, by decide +kernel, by decide +kernel⟩
theorem hm_71 : mX7_rightAhead.2.2.1 ≤ 45 := by decide +kernel
theorem hy_72 : mX7_bestLaying.1.cls ≠ "java/lang/invoke/MethodHandle" ∧ mX7_bestLaying.1.cls ≠ "java/lang/invoke/VarHandle" ∧ (parseMethodDescriptor mX7_bestLaying.1.desc).map (fun d => d.parameters.length) = some 3 := ⟨by decide +kernel, by decide +kernel, by decide +kernel⟩
theorem hm_72 : mX7_bestLaying.2.2.1 ≤ 45 := by decide +kernel
theorem hy_73 : mX7_offerStone.1.cls ≠ "java/lang/invoke/MethodHandle" ∧ mX7_offerStone.1.cls ≠ "java/lang/invoke/VarHandle" ∧ (parseMethodDescriptor mX7_offerStone.1.desc).map (fun d => d.parameters.length) = some 3 := ⟨by decide +kernel, by decide +kernel, by decide +kernel⟩
theorem hm_73 : mX7_offerStone.2.2.1 ≤ 45 := by decide +kernel
theorem hy_74 : mX8_init.1.cls ≠ "java/lang/invoke/MethodHandle" ∧ mX8_init.1.cls ≠ "java/lang/invoke/VarHandle" ∧ (parseMethodDescriptor mX8_init.1.desc).map (fun d => d.parameters.length) = some 0 := ⟨by decide +kernel, by decide +kernel, by decide +kernel⟩
theorem hm_74 : mX8_init.2.2.1 ≤ 45 := by decide +kernel
theorem hy_75 : mX8_stone.1.cls ≠ "java/lang/invoke/MethodHandle" ∧ mX8_stone.1.cls ≠ "java/lang/invoke/VarHandle" ∧ (parseMethodDescriptor mX8_stone.1.desc).map (fun d => d.parameters.length) = some 3 := ⟨by decide +kernel, by decide +kernel, by decide +kernel⟩
theorem hm_75 : mX8_stone.2.2.1 ≤ 45 := by decide +kernel
theorem hy_76 : mX8_told.1.cls ≠ "java/lang/invoke/MethodHandle" ∧ mX8_told.1.cls ≠ "java/lang/invoke/VarHandle" ∧ (parseMethodDescriptor mX8_told.1.desc).map (fun d => d.parameters.length) = some 2 := ⟨by decide +kernel, by decide +kernel, by decide +kernel⟩
theorem hm_76 : mX8_told.2.2.1 ≤ 45 := by decide +kernel
theorem hy_77 : mX8_off.1.cls ≠ "java/lang/invoke/MethodHandle" ∧ mX8_off.1.cls ≠ "java/lang/invoke/VarHandle" ∧ (parseMethodDescriptor mX8_off.1.desc).map (fun d => d.parameters.length) = some 3 := ⟨by decide +kernel, by decide +kernel, by decide +kernel⟩
theorem hm_77 : mX8_off.2.2.1 ≤ 45 := by decide +kernel
theorem hy_78 : mX8_as.1.cls ≠ "java/lang/invoke/MethodHandle" ∧ mX8_as.1.cls ≠ "java/lang/invoke/VarHandle" ∧ (parseMethodDescriptor mX8_as.1.desc).map (fun d => d.parameters.length) = some 2 := ⟨by decide +kernel, by decide +kernel, by decide +kernel⟩
theorem hm_78 : mX8_as.2.2.1 ≤ 45 := by decide +kernel
theorem hy_79 : mX8_turns.1.cls ≠ "java/lang/invoke/MethodHandle" ∧ mX8_turns.1.cls ≠ "java/lang/invoke/VarHandle" ∧ (parseMethodDescriptor mX8_turns.1.desc).map (fun d => d.parameters.length) = some 2 := ⟨by decide +kernel, by decide +kernel, by decide +kernel⟩
theorem hm_79 : mX8_turns.2.2.1 ≤ 45 := by decide +kernel
theorem hy_80 : mX8_put.1.cls ≠ "java/lang/invoke/MethodHandle" ∧ mX8_put.1.cls ≠ "java/lang/invoke/VarHandle" ∧ (parseMethodDescriptor mX8_put.1.desc).map (fun d => d.parameters.length) = some 3 := ⟨by decide +kernel, by decide +kernel, by decide +kernel⟩
theorem hm_80 : mX8_put.2.2.1 ≤ 45 := by decide +kernel
theorem hy_81 : mX8_box.1.cls ≠ "java/lang/invoke/MethodHandle" ∧ mX8_box.1.cls ≠ "java/lang/invoke/VarHandle" ∧ (parseMethodDescriptor mX8_box.1.desc).map (fun d => d.parameters.length) = some 1 := ⟨by decide +kernel, by decide +kernel, by decide +kernel⟩
theorem hm_81 : mX8_box.2.2.1 ≤ 45 := by decide +kernel
theorem hy_82 : mX8_want.1.cls ≠ "java/lang/invoke/MethodHandle" ∧ mX8_want.1.cls ≠ "java/lang/invoke/VarHandle" ∧ (parseMethodDescriptor mX8_want.1.desc).map (fun d => d.parameters.length) = some 2 := ⟨by decide +kernel, by decide +kernel, by decide +kernel⟩
theorem hm_82 : mX8_want.2.2.1 ≤ 45 := by decide +kernel
theorem hy_83 : mX8_wind.1.cls ≠ "java/lang/invoke/MethodHandle" ∧ mX8_wind.1.cls ≠ "java/lang/invoke/VarHandle" ∧ (parseMethodDescriptor mX8_wind.1.desc).map (fun d => d.parameters.length) = some 1 := ⟨by decide +kernel, by decide +kernel, by decide +kernel⟩
theorem hm_83 : mX8_wind.2.2.1 ≤ 45 := by decide +kernel
theorem hy_84 : mX8_deal.1.cls ≠ "java/lang/invoke/MethodHandle" ∧ mX8_deal.1.cls ≠ "java/lang/invoke/VarHandle" ∧ (parseMethodDescriptor mX8_deal.1.desc).map (fun d => d.parameters.length) = some 1 := ⟨by decide +kernel, by decide +kernel, by decide +kernel⟩
theorem hm_84 : mX8_deal.2.2.1 ≤ 45 := by decide +kernel
theorem hy_85 : mX8_seed.1.cls ≠ "java/lang/invoke/MethodHandle" ∧ mX8_seed.1.cls ≠ "java/lang/invoke/VarHandle" ∧ (parseMethodDescriptor mX8_seed.1.desc).map (fun d => d.parameters.length) = some 1 := ⟨by decide +kernel, by decide +kernel, by decide +kernel⟩
theorem hm_85 : mX8_seed.2.2.1 ≤ 45 := by decide +kernel
theorem hy_86 : mX8_days.1.cls ≠ "java/lang/invoke/MethodHandle" ∧ mX8_days.1.cls ≠ "java/lang/invoke/VarHandle" ∧ (parseMethodDescriptor mX8_days.1.desc).map (fun d => d.parameters.length) = some 1 := ⟨by decide +kernel, by decide +kernel, by decide +kernel⟩
theorem hm_86 : mX8_days.2.2.1 ≤ 45 := by decide +kernel
theorem hy_87 : mX8_king.1.cls ≠ "java/lang/invoke/MethodHandle" ∧ mX8_king.1.cls ≠ "java/lang/invoke/VarHandle" ∧ (parseMethodDescriptor mX8_king.1.desc).map (fun d => d.parameters.length) = some 1 := ⟨by decide +kernel, by decide +kernel, by decide +kernel⟩
theorem hm_87 : mX8_king.2.2.1 ≤ 45 := by decide +kernel
theorem hy_88 : mX8_at.1.cls ≠ "java/lang/invoke/MethodHandle" ∧ mX8_at.1.cls ≠ "java/lang/invoke/VarHandle" ∧ (parseMethodDescriptor mX8_at.1.desc).map (fun d => d.parameters.length) = some 1 := ⟨by decide +kernel, by decide +kernel, by decide +kernel⟩
theorem hm_88 : mX8_at.2.2.1 ≤ 45 := by decide +kernel
theorem hy_89 : mX8_best.1.cls ≠ "java/lang/invoke/MethodHandle" ∧ mX8_best.1.cls ≠ "java/lang/invoke/VarHandle" ∧ (parseMethodDescriptor mX8_best.1.desc).map (fun d => d.parameters.length) = some 2 := ⟨by decide +kernel, by decide +kernel, by decide +kernel⟩
theorem hm_89 : mX8_best.2.2.1 ≤ 45 := by decide +kernel
theorem hy_90 : mX8_bestFor.1.cls ≠ "java/lang/invoke/MethodHandle" ∧ mX8_bestFor.1.cls ≠ "java/lang/invoke/VarHandle" ∧ (parseMethodDescriptor mX8_bestFor.1.desc).map (fun d => d.parameters.length) = some 2 := ⟨by decide +kernel, by decide +kernel, by decide +kernel⟩
theorem hm_90 : mX8_bestFor.2.2.1 ≤ 45 := by decide +kernel
theorem hy_91 : mX8_swap.1.cls ≠ "java/lang/invoke/MethodHandle" ∧ mX8_swap.1.cls ≠ "java/lang/invoke/VarHandle" ∧ (parseMethodDescriptor mX8_swap.1.desc).map (fun d => d.parameters.length) = some 0 := ⟨by decide +kernel, by decide +kernel, by decide +kernel⟩
theorem hm_91 : mX8_swap.2.2.1 ≤ 45 := by decide +kernel
theorem hy_92 : mX8_knocked.1.cls ≠ "java/lang/invoke/MethodHandle" ∧ mX8_knocked.1.cls ≠ "java/lang/invoke/VarHandle" ∧ (parseMethodDescriptor mX8_knocked.1.desc).map (fun d => d.parameters.length) = some 1 := ⟨by decide +kernel, by decide +kernel, by decide +kernel⟩
theorem hm_92 : mX8_knocked.2.2.1 ≤ 45 := by decide +kernel
theorem hy_93 : mX8_push.1.cls ≠ "java/lang/invoke/MethodHandle" ∧ mX8_push.1.cls ≠ "java/lang/invoke/VarHandle" ∧ (parseMethodDescriptor mX8_push.1.desc).map (fun d => d.parameters.length) = some 1 := ⟨by decide +kernel, by decide +kernel, by decide +kernel⟩
theorem hm_93 : mX8_push.2.2.1 ≤ 45 := by decide +kernel
theorem hy_94 : mX8_behind.1.cls ≠ "java/lang/invoke/MethodHandle" ∧ mX8_behind.1.cls ≠ "java/lang/invoke/VarHandle" ∧ (parseMethodDescriptor mX8_behind.1.desc).map (fun d => d.parameters.length) = some 2 := ⟨by decide +kernel, by decide +kernel, by decide +kernel⟩
theorem hm_94 : mX8_behind.2.2.1 ≤ 45 := by decide +kernel
theorem hy_95 : mX8_laid.1.cls ≠ "java/lang/invoke/MethodHandle" ∧ mX8_laid.1.cls ≠ "java/lang/invoke/VarHandle" ∧ (parseMethodDescriptor mX8_laid.1.desc).map (fun d => d.parameters.length) = some 0 := ⟨by decide +kernel, by decide +kernel, by decide +kernel⟩
theorem hm_95 : mX8_laid.2.2.1 ≤ 45 := by decide +kernel
theorem hy_96 : mX8_lost.1.cls ≠ "java/lang/invoke/MethodHandle" ∧ mX8_lost.1.cls ≠ "java/lang/invoke/VarHandle" ∧ (parseMethodDescriptor mX8_lost.1.desc).map (fun d => d.parameters.length) = some 2 := ⟨by decide +kernel, by decide +kernel, by decide +kernel⟩
theorem hm_96 : mX8_lost.2.2.1 ≤ 45 := by decide +kernel
theorem hy_97 : mX8_seen.1.cls ≠ "java/lang/invoke/MethodHandle" ∧ mX8_seen.1.cls ≠ "java/lang/invoke/VarHandle" ∧ (parseMethodDescriptor mX8_seen.1.desc).map (fun d => d.parameters.length) = some 2 := ⟨by decide +kernel, by decide +kernel, by decide +kernel⟩
theorem hm_97 : mX8_seen.2.2.1 ≤ 45 := by decide +kernel
theorem hy_98 : mX8_fee.1.cls ≠ "java/lang/invoke/MethodHandle" ∧ mX8_fee.1.cls ≠ "java/lang/invoke/VarHandle" ∧ (parseMethodDescriptor mX8_fee.1.desc).map (fun d => d.parameters.length) = some 0 := ⟨by decide +kernel, by decide +kernel, by decide +kernel⟩
theorem hm_98 : mX8_fee.2.2.1 ≤ 45 := by decide +kernel
theorem hy_99 : mX8_fine.1.cls ≠ "java/lang/invoke/MethodHandle" ∧ mX8_fine.1.cls ≠ "java/lang/invoke/VarHandle" ∧ (parseMethodDescriptor mX8_fine.1.desc).map (fun d => d.parameters.length) = some 1 := ⟨by decide +kernel, by decide +kernel, by decide +kernel⟩
theorem hm_99 : mX8_fine.2.2.1 ≤ 45 := by decide +kernel
theorem hy_100 : mX8_feed.1.cls ≠ "java/lang/invoke/MethodHandle" ∧ mX8_feed.1.cls ≠ "java/lang/invoke/VarHandle" ∧ (parseMethodDescriptor mX8_feed.1.desc).map (fun d => d.parameters.length) = some 3 := ⟨by decide +kernel, by decide +kernel, by decide +kernel⟩
theorem hm_100 : mX8_feed.2.2.1 ≤ 45 := by decide +kernel
theorem hy_101 : mX8_trim.1.cls ≠ "java/lang/invoke/MethodHandle" ∧ mX8_trim.1.cls ≠ "java/lang/invoke/VarHandle" ∧ (parseMethodDescriptor mX8_trim.1.desc).map (fun d => d.parameters.length) = some 1 := ⟨by decide +kernel, by decide +kernel, by decide +kernel⟩
theorem hm_101 : mX8_trim.2.2.1 ≤ 45 := by decide +kernel
theorem hy_102 : mX8_text.1.cls ≠ "java/lang/invoke/MethodHandle" ∧ mX8_text.1.cls ≠ "java/lang/invoke/VarHandle" ∧ (parseMethodDescriptor mX8_text.1.desc).map (fun d => d.parameters.length) = some 0 := ⟨by decide +kernel, by decide +kernel, by decide +kernel⟩
theorem hm_102 : mX8_text.2.2.1 ≤ 45 := by decide +kernel
theorem hy_103 : mX8_textTold.1.cls ≠ "java/lang/invoke/MethodHandle" ∧ mX8_textTold.1.cls ≠ "java/lang/invoke/VarHandle" ∧ (parseMethodDescriptor mX8_textTold.1.desc).map (fun d => d.parameters.length) = some 2 := ⟨by decide +kernel, by decide +kernel, by decide +kernel⟩
theorem hm_103 : mX8_textTold.2.2.1 ≤ 45 := by decide +kernel
theorem hy_104 : mX8_why.1.cls ≠ "java/lang/invoke/MethodHandle" ∧ mX8_why.1.cls ≠ "java/lang/invoke/VarHandle" ∧ (parseMethodDescriptor mX8_why.1.desc).map (fun d => d.parameters.length) = some 1 := ⟨by decide +kernel, by decide +kernel, by decide +kernel⟩
theorem hm_104 : mX8_why.2.2.1 ≤ 45 := by decide +kernel
theorem hy_105 : mX8_sheet.1.cls ≠ "java/lang/invoke/MethodHandle" ∧ mX8_sheet.1.cls ≠ "java/lang/invoke/VarHandle" ∧ (parseMethodDescriptor mX8_sheet.1.desc).map (fun d => d.parameters.length) = some 3 := ⟨by decide +kernel, by decide +kernel, by decide +kernel⟩
theorem hm_105 : mX8_sheet.2.2.1 ≤ 45 := by decide +kernel
theorem hy_106 : mX8_mark.1.cls ≠ "java/lang/invoke/MethodHandle" ∧ mX8_mark.1.cls ≠ "java/lang/invoke/VarHandle" ∧ (parseMethodDescriptor mX8_mark.1.desc).map (fun d => d.parameters.length) = some 3 := ⟨by decide +kernel, by decide +kernel, by decide +kernel⟩
theorem hm_106 : mX8_mark.2.2.1 ≤ 45 := by decide +kernel
theorem hy_107 : mX8_pour.1.cls ≠ "java/lang/invoke/MethodHandle" ∧ mX8_pour.1.cls ≠ "java/lang/invoke/VarHandle" ∧ (parseMethodDescriptor mX8_pour.1.desc).map (fun d => d.parameters.length) = some 1 := ⟨by decide +kernel, by decide +kernel, by decide +kernel⟩
theorem hm_107 : mX8_pour.2.2.1 ≤ 45 := by decide +kernel
theorem hy_108 : mX8_reads.1.cls ≠ "java/lang/invoke/MethodHandle" ∧ mX8_reads.1.cls ≠ "java/lang/invoke/VarHandle" ∧ (parseMethodDescriptor mX8_reads.1.desc).map (fun d => d.parameters.length) = some 1 := ⟨by decide +kernel, by decide +kernel, by decide +kernel⟩
theorem hm_108 : mX8_reads.2.2.1 ≤ 45 := by decide +kernel
theorem hy_109 : mX8_copy.1.cls ≠ "java/lang/invoke/MethodHandle" ∧ mX8_copy.1.cls ≠ "java/lang/invoke/VarHandle" ∧ (parseMethodDescriptor mX8_copy.1.desc).map (fun d => d.parameters.length) = some 5 := ⟨by decide +kernel, by decide +kernel, by decide +kernel⟩
theorem hm_109 : mX8_copy.2.2.1 ≤ 45 := by decide +kernel
theorem hy_110 : mX8_lay.1.cls ≠ "java/lang/invoke/MethodHandle" ∧ mX8_lay.1.cls ≠ "java/lang/invoke/VarHandle" ∧ (parseMethodDescriptor mX8_lay.1.desc).map (fun d => d.parameters.length) = some 3 := ⟨by decide +kernel, by decide +kernel, by decide +kernel⟩
theorem hm_110 : mX8_lay.2.2.1 ≤ 45 := by decide +kernel
theorem hy_111 : mX8_ask.1.cls ≠ "java/lang/invoke/MethodHandle" ∧ mX8_ask.1.cls ≠ "java/lang/invoke/VarHandle" ∧ (parseMethodDescriptor mX8_ask.1.desc).map (fun d => d.parameters.length) = some 2 := ⟨by decide +kernel, by decide +kernel, by decide +kernel⟩
theorem hm_111 : mX8_ask.2.2.1 ≤ 45 := by decide +kernel
theorem hy_112 : mX8_item.1.cls ≠ "java/lang/invoke/MethodHandle" ∧ mX8_item.1.cls ≠ "java/lang/invoke/VarHandle" ∧ (parseMethodDescriptor mX8_item.1.desc).map (fun d => d.parameters.length) = some 2 := ⟨by decide +kernel, by decide +kernel, by decide +kernel⟩
theorem hm_112 : mX8_item.2.2.1 ≤ 45 := by decide +kernel
theorem hy_113 : mX8_rest.1.cls ≠ "java/lang/invoke/MethodHandle" ∧ mX8_rest.1.cls ≠ "java/lang/invoke/VarHandle" ∧ (parseMethodDescriptor mX8_rest.1.desc).map (fun d => d.parameters.length) = some 2 := ⟨by decide +kernel, by decide +kernel, by decide +kernel⟩
theorem hm_113 : mX8_rest.2.2.1 ≤ 45 := by decide +kernel
theorem hy_114 : mX8_tell.1.cls ≠ "java/lang/invoke/MethodHandle" ∧ mX8_tell.1.cls ≠ "java/lang/invoke/VarHandle" ∧ (parseMethodDescriptor mX8_tell.1.desc).map (fun d => d.parameters.length) = some 1 := ⟨by decide +kernel, by decide +kernel, by decide +kernel⟩
theorem hm_114 : mX8_tell.2.2.1 ≤ 45 := by decide +kernel
theorem hy_115 : mX8_check.1.cls ≠ "java/lang/invoke/MethodHandle" ∧ mX8_check.1.cls ≠ "java/lang/invoke/VarHandle" ∧ (parseMethodDescriptor mX8_check.1.desc).map (fun d => d.parameters.length) = some 1 := ⟨by decide +kernel, by decide +kernel, by decide +kernel⟩
theorem hm_115 : mX8_check.2.2.1 ≤ 45 := by decide +kernel
theorem hy_116 : mX8_keep.1.cls ≠ "java/lang/invoke/MethodHandle" ∧ mX8_keep.1.cls ≠ "java/lang/invoke/VarHandle" ∧ (parseMethodDescriptor mX8_keep.1.desc).map (fun d => d.parameters.length) = some 0 := ⟨by decide +kernel, by decide +kernel, by decide +kernel⟩
theorem hm_116 : mX8_keep.2.2.1 ≤ 45 := by decide +kernel
theorem hy_117 : mX8_back.1.cls ≠ "java/lang/invoke/MethodHandle" ∧ mX8_back.1.cls ≠ "java/lang/invoke/VarHandle" ∧ (parseMethodDescriptor mX8_back.1.desc).map (fun d => d.parameters.length) = some 0 := ⟨by decide +kernel, by decide +kernel, by decide +kernel⟩
theorem hm_117 : mX8_back.2.2.1 ≤ 45 := by decide +kernel
theorem hy_118 : mX8_count.1.cls ≠ "java/lang/invoke/MethodHandle" ∧ mX8_count.1.cls ≠ "java/lang/invoke/VarHandle" ∧ (parseMethodDescriptor mX8_count.1.desc).map (fun d => d.parameters.length) = some 1 := ⟨by decide +kernel, by decide +kernel, by decide +kernel⟩
theorem hm_118 : mX8_count.2.2.1 ≤ 45 := by decide +kernel
theorem hy_119 : mX8_isStone.1.cls ≠ "java/lang/invoke/MethodHandle" ∧ mX8_isStone.1.cls ≠ "java/lang/invoke/VarHandle" ∧ (parseMethodDescriptor mX8_isStone.1.desc).map (fun d => d.parameters.length) = some 1 := ⟨by decide +kernel, by decide +kernel, by decide +kernel⟩
theorem hm_119 : mX8_isStone.2.2.1 ≤ 45 := by decide +kernel
theorem hy_120 : mX8_isPlace.1.cls ≠ "java/lang/invoke/MethodHandle" ∧ mX8_isPlace.1.cls ≠ "java/lang/invoke/VarHandle" ∧ (parseMethodDescriptor mX8_isPlace.1.desc).map (fun d => d.parameters.length) = some 1 := ⟨by decide +kernel, by decide +kernel, by decide +kernel⟩
theorem hm_120 : mX8_isPlace.2.2.1 ≤ 45 := by decide +kernel
theorem hy_121 : mX8_isSheet.1.cls ≠ "java/lang/invoke/MethodHandle" ∧ mX8_isSheet.1.cls ≠ "java/lang/invoke/VarHandle" ∧ (parseMethodDescriptor mX8_isSheet.1.desc).map (fun d => d.parameters.length) = some 1 := ⟨by decide +kernel, by decide +kernel, by decide +kernel⟩
theorem hm_121 : mX8_isSheet.2.2.1 ≤ 45 := by decide +kernel
theorem hy_122 : mX8_isSlot.1.cls ≠ "java/lang/invoke/MethodHandle" ∧ mX8_isSlot.1.cls ≠ "java/lang/invoke/VarHandle" ∧ (parseMethodDescriptor mX8_isSlot.1.desc).map (fun d => d.parameters.length) = some 1 := ⟨by decide +kernel, by decide +kernel, by decide +kernel⟩
theorem hm_122 : mX8_isSlot.2.2.1 ≤ 45 := by decide +kernel
theorem hy_123 : mX8_within.1.cls ≠ "java/lang/invoke/MethodHandle" ∧ mX8_within.1.cls ≠ "java/lang/invoke/VarHandle" ∧ (parseMethodDescriptor mX8_within.1.desc).map (fun d => d.parameters.length) = some 3 := ⟨by decide +kernel, by decide +kernel, by decide +kernel⟩
theorem hm_123 : mX8_within.2.2.1 ≤ 45 := by decide +kernel
theorem hy_124 : mX8_clamp.1.cls ≠ "java/lang/invoke/MethodHandle" ∧ mX8_clamp.1.cls ≠ "java/lang/invoke/VarHandle" ∧ (parseMethodDescriptor mX8_clamp.1.desc).map (fun d => d.parameters.length) = some 3 := ⟨by decide +kernel, by decide +kernel, by decide +kernel⟩
theorem hm_124 : mX8_clamp.2.2.1 ≤ 45 := by decide +kernel
theorem hy_125 : mX8_stoneOrNone.1.cls ≠ "java/lang/invoke/MethodHandle" ∧ mX8_stoneOrNone.1.cls ≠ "java/lang/invoke/VarHandle" ∧ (parseMethodDescriptor mX8_stoneOrNone.1.desc).map (fun d => d.parameters.length) = some 1 := ⟨by decide +kernel, by decide +kernel, by decide +kernel⟩
theorem hm_125 : mX8_stoneOrNone.2.2.1 ≤ 45 := by decide +kernel
theorem hy_126 : mX8_lookFor.1.cls ≠ "java/lang/invoke/MethodHandle" ∧ mX8_lookFor.1.cls ≠ "java/lang/invoke/VarHandle" ∧ (parseMethodDescriptor mX8_lookFor.1.desc).map (fun d => d.parameters.length) = some 2 := ⟨by decide +kernel, by decide +kernel, by decide +kernel⟩
theorem hm_126 : mX8_lookFor.2.2.1 ≤ 45 := by decide +kernel
theorem hy_127 : mX9_init.1.cls ≠ "java/lang/invoke/MethodHandle" ∧ mX9_init.1.cls ≠ "java/lang/invoke/VarHandle" ∧ (parseMethodDescriptor mX9_init.1.desc).map (fun d => d.parameters.length) = some 0 := ⟨by decide +kernel, by decide +kernel, by decide +kernel⟩
theorem hm_127 : mX9_init.2.2.1 ≤ 45 := by decide +kernel
theorem hy_128 : mX9_in.1.cls ≠ "java/lang/invoke/MethodHandle" ∧ mX9_in.1.cls ≠ "java/lang/invoke/VarHandle" ∧ (parseMethodDescriptor mX9_in.1.desc).map (fun d => d.parameters.length) = some 3 := ⟨by decide +kernel, by decide +kernel, by decide +kernel⟩
theorem hm_128 : mX9_in.2.2.1 ≤ 45 := by decide +kernel
theorem hy_129 : mX9_within.1.cls ≠ "java/lang/invoke/MethodHandle" ∧ mX9_within.1.cls ≠ "java/lang/invoke/VarHandle" ∧ (parseMethodDescriptor mX9_within.1.desc).map (fun d => d.parameters.length) = some 3 := ⟨by decide +kernel, by decide +kernel, by decide +kernel⟩
theorem hm_129 : mX9_within.2.2.1 ≤ 45 := by decide +kernel
theorem hy_130 : mX9_apart.1.cls ≠ "java/lang/invoke/MethodHandle" ∧ mX9_apart.1.cls ≠ "java/lang/invoke/VarHandle" ∧ (parseMethodDescriptor mX9_apart.1.desc).map (fun d => d.parameters.length) = some 2 := ⟨by decide +kernel, by decide +kernel, by decide +kernel⟩
theorem hm_130 : mX9_apart.2.2.1 ≤ 45 := by decide +kernel
theorem hy_131 : mX9_copyAll.1.cls ≠ "java/lang/invoke/MethodHandle" ∧ mX9_copyAll.1.cls ≠ "java/lang/invoke/VarHandle" ∧ (parseMethodDescriptor mX9_copyAll.1.desc).map (fun d => d.parameters.length) = some 2 := ⟨by decide +kernel, by decide +kernel, by decide +kernel⟩
theorem hm_131 : mX9_copyAll.2.2.1 ≤ 45 := by decide +kernel
theorem hy_132 : mX9_told0.1.cls ≠ "java/lang/invoke/MethodHandle" ∧ mX9_told0.1.cls ≠ "java/lang/invoke/VarHandle" ∧ (parseMethodDescriptor mX9_told0.1.desc).map (fun d => d.parameters.length) = some 1 := ⟨by decide +kernel, by decide +kernel, by decide +kernel⟩
theorem hm_132 : mX9_told0.2.2.1 ≤ 45 := by decide +kernel
theorem hy_133 : mX9_isStone.1.cls ≠ "java/lang/invoke/MethodHandle" ∧ mX9_isStone.1.cls ≠ "java/lang/invoke/VarHandle" ∧ (parseMethodDescriptor mX9_isStone.1.desc).map (fun d => d.parameters.length) = some 1 := ⟨by decide +kernel, by decide +kernel, by decide +kernel⟩
theorem hm_133 : mX9_isStone.2.2.1 ≤ 45 := by decide +kernel
theorem hy_134 : mX9_isPlace.1.cls ≠ "java/lang/invoke/MethodHandle" ∧ mX9_isPlace.1.cls ≠ "java/lang/invoke/VarHandle" ∧ (parseMethodDescriptor mX9_isPlace.1.desc).map (fun d => d.parameters.length) = some 1 := ⟨by decide +kernel, by decide +kernel, by decide +kernel⟩
theorem hm_134 : mX9_isPlace.2.2.1 ≤ 45 := by decide +kernel
theorem hy_135 : mX9_of.1.cls ≠ "java/lang/invoke/MethodHandle" ∧ mX9_of.1.cls ≠ "java/lang/invoke/VarHandle" ∧ (parseMethodDescriptor mX9_of.1.desc).map (fun d => d.parameters.length) = some 2 := ⟨by decide +kernel, by decide +kernel, by decide +kernel⟩
theorem hm_135 : mX9_of.2.2.1 ≤ 45 := by decide +kernel
theorem hy_136 : mX9_becomes.1.cls ≠ "java/lang/invoke/MethodHandle" ∧ mX9_becomes.1.cls ≠ "java/lang/invoke/VarHandle" ∧ (parseMethodDescriptor mX9_becomes.1.desc).map (fun d => d.parameters.length) = some 2 := ⟨by decide +kernel, by decide +kernel, by decide +kernel⟩
theorem hm_136 : mX9_becomes.2.2.1 ≤ 45 := by decide +kernel
theorem hy_137 : mX9_comes.1.cls ≠ "java/lang/invoke/MethodHandle" ∧ mX9_comes.1.cls ≠ "java/lang/invoke/VarHandle" ∧ (parseMethodDescriptor mX9_comes.1.desc).map (fun d => d.parameters.length) = some 3 := ⟨by decide +kernel, by decide +kernel, by decide +kernel⟩
theorem hm_137 : mX9_comes.2.2.1 ≤ 45 := by decide +kernel
theorem hy_138 : mX9_stone.1.cls ≠ "java/lang/invoke/MethodHandle" ∧ mX9_stone.1.cls ≠ "java/lang/invoke/VarHandle" ∧ (parseMethodDescriptor mX9_stone.1.desc).map (fun d => d.parameters.length) = some 3 := ⟨by decide +kernel, by decide +kernel, by decide +kernel⟩
theorem hm_138 : mX9_stone.2.2.1 ≤ 45 := by decide +kernel
theorem hy_139 : mX9_heavyOf.1.cls ≠ "java/lang/invoke/MethodHandle" ∧ mX9_heavyOf.1.cls ≠ "java/lang/invoke/VarHandle" ∧ (parseMethodDescriptor mX9_heavyOf.1.desc).map (fun d => d.parameters.length) = some 1 := ⟨by decide +kernel, by decide +kernel, by decide +kernel⟩
theorem hm_139 : mX9_heavyOf.2.2.1 ≤ 45 := by decide +kernel
theorem hy_140 : mX9_worthOf.1.cls ≠ "java/lang/invoke/MethodHandle" ∧ mX9_worthOf.1.cls ≠ "java/lang/invoke/VarHandle" ∧ (parseMethodDescriptor mX9_worthOf.1.desc).map (fun d => d.parameters.length) = some 1 := ⟨by decide +kernel, by decide +kernel, by decide +kernel⟩
theorem hm_140 : mX9_worthOf.2.2.1 ≤ 45 := by decide +kernel
theorem hy_141 : mX9_told.1.cls ≠ "java/lang/invoke/MethodHandle" ∧ mX9_told.1.cls ≠ "java/lang/invoke/VarHandle" ∧ (parseMethodDescriptor mX9_told.1.desc).map (fun d => d.parameters.length) = some 2 := ⟨by decide +kernel, by decide +kernel, by decide +kernel⟩
theorem hm_141 : mX9_told.2.2.1 ≤ 45 := by decide +kernel
theorem hy_142 : mX9_spotsOf.1.cls ≠ "java/lang/invoke/MethodHandle" ∧ mX9_spotsOf.1.cls ≠ "java/lang/invoke/VarHandle" ∧ (parseMethodDescriptor mX9_spotsOf.1.desc).map (fun d => d.parameters.length) = some 3 := ⟨by decide +kernel, by decide +kernel, by decide +kernel⟩
theorem hm_142 : mX9_spotsOf.2.2.1 ≤ 45 := by decide +kernel
theorem hy_143 : mX9_darkOf.1.cls ≠ "java/lang/invoke/MethodHandle" ∧ mX9_darkOf.1.cls ≠ "java/lang/invoke/VarHandle" ∧ (parseMethodDescriptor mX9_darkOf.1.desc).map (fun d => d.parameters.length) = some 3 := ⟨by decide +kernel, by decide +kernel, by decide +kernel⟩
theorem hm_143 : mX9_darkOf.2.2.1 ≤ 45 := by decide +kernel
theorem hy_144 : mX9_offOf.1.cls ≠ "java/lang/invoke/MethodHandle" ∧ mX9_offOf.1.cls ≠ "java/lang/invoke/VarHandle" ∧ (parseMethodDescriptor mX9_offOf.1.desc).map (fun d => d.parameters.length) = some 3 := ⟨by decide +kernel, by decide +kernel, by decide +kernel⟩
theorem hm_144 : mX9_offOf.2.2.1 ≤ 45 := by decide +kernel
theorem hy_145 : mX9_off.1.cls ≠ "java/lang/invoke/MethodHandle" ∧ mX9_off.1.cls ≠ "java/lang/invoke/VarHandle" ∧ (parseMethodDescriptor mX9_off.1.desc).map (fun d => d.parameters.length) = some 3 := ⟨by decide +kernel, by decide +kernel, by decide +kernel⟩
theorem hm_145 : mX9_off.2.2.1 ≤ 45 := by decide +kernel
theorem hy_146 : mX9_isUnder.1.cls ≠ "java/lang/invoke/MethodHandle" ∧ mX9_isUnder.1.cls ≠ "java/lang/invoke/VarHandle" ∧ (parseMethodDescriptor mX9_isUnder.1.desc).map (fun d => d.parameters.length) = some 2 := ⟨by decide +kernel, by decide +kernel, by decide +kernel⟩
theorem hm_146 : mX9_isUnder.2.2.1 ≤ 45 := by decide +kernel
theorem hy_147 : mX9_as.1.cls ≠ "java/lang/invoke/MethodHandle" ∧ mX9_as.1.cls ≠ "java/lang/invoke/VarHandle" ∧ (parseMethodDescriptor mX9_as.1.desc).map (fun d => d.parameters.length) = some 2 := ⟨by decide +kernel, by decide +kernel, by decide +kernel⟩
theorem hm_147 : mX9_as.2.2.1 ≤ 45 := by decide +kernel
theorem hy_148 : mX9_turns.1.cls ≠ "java/lang/invoke/MethodHandle" ∧ mX9_turns.1.cls ≠ "java/lang/invoke/VarHandle" ∧ (parseMethodDescriptor mX9_turns.1.desc).map (fun d => d.parameters.length) = some 2 := ⟨by decide +kernel, by decide +kernel, by decide +kernel⟩
theorem hm_148 : mX9_turns.2.2.1 ≤ 45 := by decide +kernel
theorem hy_149 : mX9_holder.1.cls ≠ "java/lang/invoke/MethodHandle" ∧ mX9_holder.1.cls ≠ "java/lang/invoke/VarHandle" ∧ (parseMethodDescriptor mX9_holder.1.desc).map (fun d => d.parameters.length) = some 1 := ⟨by decide +kernel, by decide +kernel, by decide +kernel⟩
theorem hm_149 : mX9_holder.2.2.1 ≤ 45 := by decide +kernel
theorem hy_150 : mX9_put.1.cls ≠ "java/lang/invoke/MethodHandle" ∧ mX9_put.1.cls ≠ "java/lang/invoke/VarHandle" ∧ (parseMethodDescriptor mX9_put.1.desc).map (fun d => d.parameters.length) = some 3 := ⟨by decide +kernel, by decide +kernel, by decide +kernel⟩
theorem hm_150 : mX9_put.2.2.1 ≤ 45 := by decide +kernel
theorem hy_151 : mX9_box.1.cls ≠ "java/lang/invoke/MethodHandle" ∧ mX9_box.1.cls ≠ "java/lang/invoke/VarHandle" ∧ (parseMethodDescriptor mX9_box.1.desc).map (fun d => d.parameters.length) = some 1 := ⟨by decide +kernel, by decide +kernel, by decide +kernel⟩
theorem hm_151 : mX9_box.2.2.1 ≤ 45 := by decide +kernel
theorem hy_152 : mX9_want.1.cls ≠ "java/lang/invoke/MethodHandle" ∧ mX9_want.1.cls ≠ "java/lang/invoke/VarHandle" ∧ (parseMethodDescriptor mX9_want.1.desc).map (fun d => d.parameters.length) = some 2 := ⟨by decide +kernel, by decide +kernel, by decide +kernel⟩
theorem hm_152 : mX9_want.2.2.1 ≤ 45 := by decide +kernel
theorem hy_153 : mX9_wind.1.cls ≠ "java/lang/invoke/MethodHandle" ∧ mX9_wind.1.cls ≠ "java/lang/invoke/VarHandle" ∧ (parseMethodDescriptor mX9_wind.1.desc).map (fun d => d.parameters.length) = some 1 := ⟨by decide +kernel, by decide +kernel, by decide +kernel⟩
theorem hm_153 : mX9_wind.2.2.1 ≤ 45 := by decide +kernel
theorem hy_154 : mX9_draw.1.cls ≠ "java/lang/invoke/MethodHandle" ∧ mX9_draw.1.cls ≠ "java/lang/invoke/VarHandle" ∧ (parseMethodDescriptor mX9_draw.1.desc).map (fun d => d.parameters.length) = some 0 := ⟨by decide +kernel, by decide +kernel, by decide +kernel⟩
theorem hm_154 : mX9_draw.2.2.1 ≤ 45 := by decide +kernel
theorem hy_155 : mX9_deal.1.cls ≠ "java/lang/invoke/MethodHandle" ∧ mX9_deal.1.cls ≠ "java/lang/invoke/VarHandle" ∧ (parseMethodDescriptor mX9_deal.1.desc).map (fun d => d.parameters.length) = some 1 := ⟨by decide +kernel, by decide +kernel, by decide +kernel⟩
theorem hm_155 : mX9_deal.2.2.1 ≤ 45 := by decide +kernel
theorem hy_156 : mX9_seed.1.cls ≠ "java/lang/invoke/MethodHandle" ∧ mX9_seed.1.cls ≠ "java/lang/invoke/VarHandle" ∧ (parseMethodDescriptor mX9_seed.1.desc).map (fun d => d.parameters.length) = some 1 := ⟨by decide +kernel, by decide +kernel, by decide +kernel⟩
theorem hm_156 : mX9_seed.2.2.1 ≤ 45 := by decide +kernel
theorem hy_157 : mX9_manyLaid.1.cls ≠ "java/lang/invoke/MethodHandle" ∧ mX9_manyLaid.1.cls ≠ "java/lang/invoke/VarHandle" ∧ (parseMethodDescriptor mX9_manyLaid.1.desc).map (fun d => d.parameters.length) = some 0 := ⟨by decide +kernel, by decide +kernel, by decide +kernel⟩
theorem hm_157 : mX9_manyLaid.2.2.1 ≤ 45 := by decide +kernel
theorem hy_158 : mX9_laysIn.1.cls ≠ "java/lang/invoke/MethodHandle" ∧ mX9_laysIn.1.cls ≠ "java/lang/invoke/VarHandle" ∧ (parseMethodDescriptor mX9_laysIn.1.desc).map (fun d => d.parameters.length) = some 1 := ⟨by decide +kernel, by decide +kernel, by decide +kernel⟩
theorem hm_158 : mX9_laysIn.2.2.1 ≤ 45 := by decide +kernel
theorem hy_159 : mX9_day.1.cls ≠ "java/lang/invoke/MethodHandle" ∧ mX9_day.1.cls ≠ "java/lang/invoke/VarHandle" ∧ (parseMethodDescriptor mX9_day.1.desc).map (fun d => d.parameters.length) = some 0 := ⟨by decide +kernel, by decide +kernel, by decide +kernel⟩
theorem hm_159 : mX9_day.2.2.1 ≤ 45 := by decide +kernel
theorem hy_160 : mX9_goesOn.1.cls ≠ "java/lang/invoke/MethodHandle" ∧ mX9_goesOn.1.cls ≠ "java/lang/invoke/VarHandle" ∧ (parseMethodDescriptor mX9_goesOn.1.desc).map (fun d => d.parameters.length) = some 1 := ⟨by decide +kernel, by decide +kernel, by decide +kernel⟩
theorem hm_160 : mX9_goesOn.2.2.1 ≤ 45 := by decide +kernel
theorem hy_161 : mX9_days.1.cls ≠ "java/lang/invoke/MethodHandle" ∧ mX9_days.1.cls ≠ "java/lang/invoke/VarHandle" ∧ (parseMethodDescriptor mX9_days.1.desc).map (fun d => d.parameters.length) = some 1 := ⟨by decide +kernel, by decide +kernel, by decide +kernel⟩
theorem hm_161 : mX9_days.2.2.1 ≤ 45 := by decide +kernel
theorem hy_162 : mX9_picture.1.cls ≠ "java/lang/invoke/MethodHandle" ∧ mX9_picture.1.cls ≠ "java/lang/invoke/VarHandle" ∧ (parseMethodDescriptor mX9_picture.1.desc).map (fun d => d.parameters.length) = some 0 := ⟨by decide +kernel, by decide +kernel, by decide +kernel⟩
theorem hm_162 : mX9_picture.2.2.1 ≤ 45 := by decide +kernel
theorem hy_163 : mX9_matches.1.cls ≠ "java/lang/invoke/MethodHandle" ∧ mX9_matches.1.cls ≠ "java/lang/invoke/VarHandle" ∧ (parseMethodDescriptor mX9_matches.1.desc).map (fun d => d.parameters.length) = some 0 := ⟨by decide +kernel, by decide +kernel, by decide +kernel⟩
theorem hm_163 : mX9_matches.2.2.1 ≤ 45 := by decide +kernel
theorem hy_164 : mX9_king.1.cls ≠ "java/lang/invoke/MethodHandle" ∧ mX9_king.1.cls ≠ "java/lang/invoke/VarHandle" ∧ (parseMethodDescriptor mX9_king.1.desc).map (fun d => d.parameters.length) = some 1 := ⟨by decide +kernel, by decide +kernel, by decide +kernel⟩
theorem hm_164 : mX9_king.2.2.1 ≤ 45 := by decide +kernel
theorem hy_165 : mX9_at.1.cls ≠ "java/lang/invoke/MethodHandle" ∧ mX9_at.1.cls ≠ "java/lang/invoke/VarHandle" ∧ (parseMethodDescriptor mX9_at.1.desc).map (fun d => d.parameters.length) = some 1 := ⟨by decide +kernel, by decide +kernel, by decide +kernel⟩
theorem hm_165 : mX9_at.2.2.1 ≤ 45 := by decide +kernel
theorem hy_166 : mX9_leastAt.1.cls ≠ "java/lang/invoke/MethodHandle" ∧ mX9_leastAt.1.cls ≠ "java/lang/invoke/VarHandle" ∧ (parseMethodDescriptor mX9_leastAt.1.desc).map (fun d => d.parameters.length) = some 2 := ⟨by decide +kernel, by decide +kernel, by decide +kernel⟩
theorem hm_166 : mX9_leastAt.2.2.1 ≤ 45 := by decide +kernel
theorem hy_167 : mX9_bits.1.cls ≠ "java/lang/invoke/MethodHandle" ∧ mX9_bits.1.cls ≠ "java/lang/invoke/VarHandle" ∧ (parseMethodDescriptor mX9_bits.1.desc).map (fun d => d.parameters.length) = some 1 := ⟨by decide +kernel, by decide +kernel, by decide +kernel⟩
theorem hm_167 : mX9_bits.2.2.1 ≤ 45 := by decide +kernel
theorem hy_168 : mX9_layable.1.cls ≠ "java/lang/invoke/MethodHandle" ∧ mX9_layable.1.cls ≠ "java/lang/invoke/VarHandle" ∧ (parseMethodDescriptor mX9_layable.1.desc).map (fun d => d.parameters.length) = some 1 := ⟨by decide +kernel, by decide +kernel, by decide +kernel⟩
theorem hm_168 : mX9_layable.2.2.1 ≤ 45 := by decide +kernel
theorem hy_169 : mX9_best.1.cls ≠ "java/lang/invoke/MethodHandle" ∧ mX9_best.1.cls ≠ "java/lang/invoke/VarHandle" ∧ (parseMethodDescriptor mX9_best.1.desc).map (fun d => d.parameters.length) = some 2 := ⟨by decide +kernel, by decide +kernel, by decide +kernel⟩
theorem hm_169 : mX9_best.2.2.1 ≤ 45 := by decide +kernel
theorem hy_170 : mX9_bestFor.1.cls ≠ "java/lang/invoke/MethodHandle" ∧ mX9_bestFor.1.cls ≠ "java/lang/invoke/VarHandle" ∧ (parseMethodDescriptor mX9_bestFor.1.desc).map (fun d => d.parameters.length) = some 2 := ⟨by decide +kernel, by decide +kernel, by decide +kernel⟩
theorem hm_170 : mX9_bestFor.2.2.1 ≤ 45 := by decide +kernel
theorem hy_171 : mX9_change.1.cls ≠ "java/lang/invoke/MethodHandle" ∧ mX9_change.1.cls ≠ "java/lang/invoke/VarHandle" ∧ (parseMethodDescriptor mX9_change.1.desc).map (fun d => d.parameters.length) = some 2 := ⟨by decide +kernel, by decide +kernel, by decide +kernel⟩
theorem hm_171 : mX9_change.2.2.1 ≤ 45 := by decide +kernel
theorem hy_172 : mX9_swap.1.cls ≠ "java/lang/invoke/MethodHandle" ∧ mX9_swap.1.cls ≠ "java/lang/invoke/VarHandle" ∧ (parseMethodDescriptor mX9_swap.1.desc).map (fun d => d.parameters.length) = some 0 := ⟨by decide +kernel, by decide +kernel, by decide +kernel⟩
theorem hm_172 : mX9_swap.2.2.1 ≤ 45 := by decide +kernel
theorem hy_173 : mX9_falls.1.cls ≠ "java/lang/invoke/MethodHandle" ∧ mX9_falls.1.cls ≠ "java/lang/invoke/VarHandle" ∧ (parseMethodDescriptor mX9_falls.1.desc).map (fun d => d.parameters.length) = some 1 := ⟨by decide +kernel, by decide +kernel, by decide +kernel⟩
theorem hm_173 : mX9_falls.2.2.1 ≤ 45 := by decide +kernel
theorem hy_174 : mX9_knocked.1.cls ≠ "java/lang/invoke/MethodHandle" ∧ mX9_knocked.1.cls ≠ "java/lang/invoke/VarHandle" ∧ (parseMethodDescriptor mX9_knocked.1.desc).map (fun d => d.parameters.length) = some 1 := ⟨by decide +kernel, by decide +kernel, by decide +kernel⟩
theorem hm_174 : mX9_knocked.2.2.1 ≤ 45 := by decide +kernel
theorem hy_175 : mX9_push.1.cls ≠ "java/lang/invoke/MethodHandle" ∧ mX9_push.1.cls ≠ "java/lang/invoke/VarHandle" ∧ (parseMethodDescriptor mX9_push.1.desc).map (fun d => d.parameters.length) = some 1 := ⟨by decide +kernel, by decide +kernel, by decide +kernel⟩
theorem hm_175 : mX9_push.2.2.1 ≤ 45 := by decide +kernel
theorem hy_176 : mX9_thinks.1.cls ≠ "java/lang/invoke/MethodHandle" ∧ mX9_thinks.1.cls ≠ "java/lang/invoke/VarHandle" ∧ (parseMethodDescriptor mX9_thinks.1.desc).map (fun d => d.parameters.length) = some 0 := ⟨by decide +kernel, by decide +kernel, by decide +kernel⟩
theorem hm_176 : mX9_thinks.2.2.1 ≤ 45 := by decide +kernel
theorem hy_177 : mX9_putsBack.1.cls ≠ "java/lang/invoke/MethodHandle" ∧ mX9_putsBack.1.cls ≠ "java/lang/invoke/VarHandle" ∧ (parseMethodDescriptor mX9_putsBack.1.desc).map (fun d => d.parameters.length) = some 0 := ⟨by decide +kernel, by decide +kernel, by decide +kernel⟩
theorem hm_177 : mX9_putsBack.2.2.1 ≤ 45 := by decide +kernel
theorem hy_178 : mX9_behind.1.cls ≠ "java/lang/invoke/MethodHandle" ∧ mX9_behind.1.cls ≠ "java/lang/invoke/VarHandle" ∧ (parseMethodDescriptor mX9_behind.1.desc).map (fun d => d.parameters.length) = some 2 := ⟨by decide +kernel, by decide +kernel, by decide +kernel⟩
theorem hm_178 : mX9_behind.2.2.1 ≤ 45 := by decide +kernel
theorem hy_179 : mX9_isLaid.1.cls ≠ "java/lang/invoke/MethodHandle" ∧ mX9_isLaid.1.cls ≠ "java/lang/invoke/VarHandle" ∧ (parseMethodDescriptor mX9_isLaid.1.desc).map (fun d => d.parameters.length) = some 0 := ⟨by decide +kernel, by decide +kernel, by decide +kernel⟩
theorem hm_179 : mX9_isLaid.2.2.1 ≤ 45 := by decide +kernel
theorem hy_180 : mX9_laid.1.cls ≠ "java/lang/invoke/MethodHandle" ∧ mX9_laid.1.cls ≠ "java/lang/invoke/VarHandle" ∧ (parseMethodDescriptor mX9_laid.1.desc).map (fun d => d.parameters.length) = some 0 := ⟨by decide +kernel, by decide +kernel, by decide +kernel⟩
theorem hm_180 : mX9_laid.2.2.1 ≤ 45 := by decide +kernel
theorem hy_181 : mX9_lost.1.cls ≠ "java/lang/invoke/MethodHandle" ∧ mX9_lost.1.cls ≠ "java/lang/invoke/VarHandle" ∧ (parseMethodDescriptor mX9_lost.1.desc).map (fun d => d.parameters.length) = some 2 := ⟨by decide +kernel, by decide +kernel, by decide +kernel⟩
theorem hm_181 : mX9_lost.2.2.1 ≤ 45 := by decide +kernel
theorem hy_182 : mX9_darkAt.1.cls ≠ "java/lang/invoke/MethodHandle" ∧ mX9_darkAt.1.cls ≠ "java/lang/invoke/VarHandle" ∧ (parseMethodDescriptor mX9_darkAt.1.desc).map (fun d => d.parameters.length) = some 1 := ⟨by decide +kernel, by decide +kernel, by decide +kernel⟩
theorem hm_182 : mX9_darkAt.2.2.1 ≤ 45 := by decide +kernel
theorem hy_183 : mX9_offBy.1.cls ≠ "java/lang/invoke/MethodHandle" ∧ mX9_offBy.1.cls ≠ "java/lang/invoke/VarHandle" ∧ (parseMethodDescriptor mX9_offBy.1.desc).map (fun d => d.parameters.length) = some 2 := ⟨by decide +kernel, by decide +kernel, by decide +kernel⟩
theorem hm_183 : mX9_offBy.2.2.1 ≤ 45 := by decide +kernel
theorem hy_184 : mX9_seen.1.cls ≠ "java/lang/invoke/MethodHandle" ∧ mX9_seen.1.cls ≠ "java/lang/invoke/VarHandle" ∧ (parseMethodDescriptor mX9_seen.1.desc).map (fun d => d.parameters.length) = some 2 := ⟨by decide +kernel, by decide +kernel, by decide +kernel⟩
theorem hm_184 : mX9_seen.2.2.1 ≤ 45 := by decide +kernel
theorem hy_185 : mX9_fee.1.cls ≠ "java/lang/invoke/MethodHandle" ∧ mX9_fee.1.cls ≠ "java/lang/invoke/VarHandle" ∧ (parseMethodDescriptor mX9_fee.1.desc).map (fun d => d.parameters.length) = some 0 := ⟨by decide +kernel, by decide +kernel, by decide +kernel⟩
theorem hm_185 : mX9_fee.2.2.1 ≤ 45 := by decide +kernel
theorem hy_186 : mX9_fine.1.cls ≠ "java/lang/invoke/MethodHandle" ∧ mX9_fine.1.cls ≠ "java/lang/invoke/VarHandle" ∧ (parseMethodDescriptor mX9_fine.1.desc).map (fun d => d.parameters.length) = some 1 := ⟨by decide +kernel, by decide +kernel, by decide +kernel⟩
theorem hm_186 : mX9_fine.2.2.1 ≤ 45 := by decide +kernel
theorem hy_187 : mX9_feed.1.cls ≠ "java/lang/invoke/MethodHandle" ∧ mX9_feed.1.cls ≠ "java/lang/invoke/VarHandle" ∧ (parseMethodDescriptor mX9_feed.1.desc).map (fun d => d.parameters.length) = some 3 := ⟨by decide +kernel, by decide +kernel, by decide +kernel⟩
theorem hm_187 : mX9_feed.2.2.1 ≤ 45 := by decide +kernel
theorem hy_188 : mX9_trim.1.cls ≠ "java/lang/invoke/MethodHandle" ∧ mX9_trim.1.cls ≠ "java/lang/invoke/VarHandle" ∧ (parseMethodDescriptor mX9_trim.1.desc).map (fun d => d.parameters.length) = some 1 := ⟨by decide +kernel, by decide +kernel, by decide +kernel⟩
theorem hm_188 : mX9_trim.2.2.1 ≤ 45 := by decide +kernel
theorem hy_189 : mX9_isLetter.1.cls ≠ "java/lang/invoke/MethodHandle" ∧ mX9_isLetter.1.cls ≠ "java/lang/invoke/VarHandle" ∧ (parseMethodDescriptor mX9_isLetter.1.desc).map (fun d => d.parameters.length) = some 1 := ⟨by decide +kernel, by decide +kernel, by decide +kernel⟩
theorem hm_189 : mX9_isLetter.2.2.1 ≤ 45 := by decide +kernel
theorem hy_190 : mX9_isFigure.1.cls ≠ "java/lang/invoke/MethodHandle" ∧ mX9_isFigure.1.cls ≠ "java/lang/invoke/VarHandle" ∧ (parseMethodDescriptor mX9_isFigure.1.desc).map (fun d => d.parameters.length) = some 1 := ⟨by decide +kernel, by decide +kernel, by decide +kernel⟩
theorem hm_190 : mX9_isFigure.2.2.1 ≤ 45 := by decide +kernel
theorem hy_191 : mX9_go.1.cls ≠ "java/lang/invoke/MethodHandle" ∧ mX9_go.1.cls ≠ "java/lang/invoke/VarHandle" ∧ (parseMethodDescriptor mX9_go.1.desc).map (fun d => d.parameters.length) = some 0 := ⟨by decide +kernel, by decide +kernel, by decide +kernel⟩
theorem hm_191 : mX9_go.2.2.1 ≤ 45 := by decide +kernel
theorem hy_192 : mX9_takesKey.1.cls ≠ "java/lang/invoke/MethodHandle" ∧ mX9_takesKey.1.cls ≠ "java/lang/invoke/VarHandle" ∧ (parseMethodDescriptor mX9_takesKey.1.desc).map (fun d => d.parameters.length) = some 0 := ⟨by decide +kernel, by decide +kernel, by decide +kernel⟩
theorem hm_192 : mX9_takesKey.2.2.1 ≤ 45 := by decide +kernel
theorem hy_193 : mX9_nameOf.1.cls ≠ "java/lang/invoke/MethodHandle" ∧ mX9_nameOf.1.cls ≠ "java/lang/invoke/VarHandle" ∧ (parseMethodDescriptor mX9_nameOf.1.desc).map (fun d => d.parameters.length) = some 1 := ⟨by decide +kernel, by decide +kernel, by decide +kernel⟩
theorem hm_193 : mX9_nameOf.2.2.1 ≤ 45 := by decide +kernel
theorem hy_194 : mX9_rank.1.cls ≠ "java/lang/invoke/MethodHandle" ∧ mX9_rank.1.cls ≠ "java/lang/invoke/VarHandle" ∧ (parseMethodDescriptor mX9_rank.1.desc).map (fun d => d.parameters.length) = some 1 := ⟨by decide +kernel, by decide +kernel, by decide +kernel⟩
theorem hm_194 : mX9_rank.2.2.1 ≤ 45 := by decide +kernel
theorem hy_195 : mX9_settle.1.cls ≠ "java/lang/invoke/MethodHandle" ∧ mX9_settle.1.cls ≠ "java/lang/invoke/VarHandle" ∧ (parseMethodDescriptor mX9_settle.1.desc).map (fun d => d.parameters.length) = some 1 := ⟨by decide +kernel, by decide +kernel, by decide +kernel⟩
theorem hm_195 : mX9_settle.2.2.1 ≤ 45 := by decide +kernel
theorem hy_196 : mX9_signHere.1.cls ≠ "java/lang/invoke/MethodHandle" ∧ mX9_signHere.1.cls ≠ "java/lang/invoke/VarHandle" ∧ (parseMethodDescriptor mX9_signHere.1.desc).map (fun d => d.parameters.length) = some 0 := ⟨by decide +kernel, by decide +kernel, by decide +kernel⟩
theorem hm_196 : mX9_signHere.2.2.1 ≤ 45 := by decide +kernel
theorem hy_197 : mX9_takesPart.1.cls ≠ "java/lang/invoke/MethodHandle" ∧ mX9_takesPart.1.cls ≠ "java/lang/invoke/VarHandle" ∧ (parseMethodDescriptor mX9_takesPart.1.desc).map (fun d => d.parameters.length) = some 0 := ⟨by decide +kernel, by decide +kernel, by decide +kernel⟩
theorem hm_197 : mX9_takesPart.2.2.1 ≤ 45 := by decide +kernel
theorem hy_198 : mX9_takesE.1.cls ≠ "java/lang/invoke/MethodHandle" ∧ mX9_takesE.1.cls ≠ "java/lang/invoke/VarHandle" ∧ (parseMethodDescriptor mX9_takesE.1.desc).map (fun d => d.parameters.length) = some 0 := ⟨by decide +kernel, by decide +kernel, by decide +kernel⟩
theorem hm_198 : mX9_takesE.2.2.1 ≤ 45 := by decide +kernel
theorem hy_199 : mX9_notsOpen.1.cls ≠ "java/lang/invoke/MethodHandle" ∧ mX9_notsOpen.1.cls ≠ "java/lang/invoke/VarHandle" ∧ (parseMethodDescriptor mX9_notsOpen.1.desc).map (fun d => d.parameters.length) = some 0 := ⟨by decide +kernel, by decide +kernel, by decide +kernel⟩
theorem hm_199 : mX9_notsOpen.2.2.1 ≤ 45 := by decide +kernel
theorem hy_200 : mX9_text.1.cls ≠ "java/lang/invoke/MethodHandle" ∧ mX9_text.1.cls ≠ "java/lang/invoke/VarHandle" ∧ (parseMethodDescriptor mX9_text.1.desc).map (fun d => d.parameters.length) = some 0 := ⟨by decide +kernel, by decide +kernel, by decide +kernel⟩
theorem hm_200 : mX9_text.2.2.1 ≤ 45 := by decide +kernel
theorem hy_201 : mX9_textTold.1.cls ≠ "java/lang/invoke/MethodHandle" ∧ mX9_textTold.1.cls ≠ "java/lang/invoke/VarHandle" ∧ (parseMethodDescriptor mX9_textTold.1.desc).map (fun d => d.parameters.length) = some 2 := ⟨by decide +kernel, by decide +kernel, by decide +kernel⟩
theorem hm_201 : mX9_textTold.2.2.1 ≤ 45 := by decide +kernel
theorem hy_202 : mX9_counts.1.cls ≠ "java/lang/invoke/MethodHandle" ∧ mX9_counts.1.cls ≠ "java/lang/invoke/VarHandle" ∧ (parseMethodDescriptor mX9_counts.1.desc).map (fun d => d.parameters.length) = some 1 := ⟨by decide +kernel, by decide +kernel, by decide +kernel⟩
theorem hm_202 : mX9_counts.2.2.1 ≤ 45 := by decide +kernel
theorem hy_203 : mX9_why.1.cls ≠ "java/lang/invoke/MethodHandle" ∧ mX9_why.1.cls ≠ "java/lang/invoke/VarHandle" ∧ (parseMethodDescriptor mX9_why.1.desc).map (fun d => d.parameters.length) = some 1 := ⟨by decide +kernel, by decide +kernel, by decide +kernel⟩
theorem hm_203 : mX9_why.2.2.1 ≤ 45 := by decide +kernel
theorem hy_204 : mX9_two.1.cls ≠ "java/lang/invoke/MethodHandle" ∧ mX9_two.1.cls ≠ "java/lang/invoke/VarHandle" ∧ (parseMethodDescriptor mX9_two.1.desc).map (fun d => d.parameters.length) = some 3 := ⟨by decide +kernel, by decide +kernel, by decide +kernel⟩
theorem hm_204 : mX9_two.2.2.1 ≤ 45 := by decide +kernel
theorem hy_205 : mX9_worksOut.1.cls ≠ "java/lang/invoke/MethodHandle" ∧ mX9_worksOut.1.cls ≠ "java/lang/invoke/VarHandle" ∧ (parseMethodDescriptor mX9_worksOut.1.desc).map (fun d => d.parameters.length) = some 1 := ⟨by decide +kernel, by decide +kernel, by decide +kernel⟩
theorem hm_205 : mX9_worksOut.2.2.1 ≤ 45 := by decide +kernel
theorem hy_206 : mX9_isSheet.1.cls ≠ "java/lang/invoke/MethodHandle" ∧ mX9_isSheet.1.cls ≠ "java/lang/invoke/VarHandle" ∧ (parseMethodDescriptor mX9_isSheet.1.desc).map (fun d => d.parameters.length) = some 1 := ⟨by decide +kernel, by decide +kernel, by decide +kernel⟩
theorem hm_206 : mX9_isSheet.2.2.1 ≤ 45 := by decide +kernel
theorem hy_207 : mX9_isSlot.1.cls ≠ "java/lang/invoke/MethodHandle" ∧ mX9_isSlot.1.cls ≠ "java/lang/invoke/VarHandle" ∧ (parseMethodDescriptor mX9_isSlot.1.desc).map (fun d => d.parameters.length) = some 1 := ⟨by decide +kernel, by decide +kernel, by decide +kernel⟩
theorem hm_207 : mX9_isSlot.2.2.1 ≤ 45 := by decide +kernel
theorem hy_208 : mX9_sheet.1.cls ≠ "java/lang/invoke/MethodHandle" ∧ mX9_sheet.1.cls ≠ "java/lang/invoke/VarHandle" ∧ (parseMethodDescriptor mX9_sheet.1.desc).map (fun d => d.parameters.length) = some 3 := ⟨by decide +kernel, by decide +kernel, by decide +kernel⟩
theorem hm_208 : mX9_sheet.2.2.1 ≤ 45 := by decide +kernel
theorem hy_209 : mX9_mark.1.cls ≠ "java/lang/invoke/MethodHandle" ∧ mX9_mark.1.cls ≠ "java/lang/invoke/VarHandle" ∧ (parseMethodDescriptor mX9_mark.1.desc).map (fun d => d.parameters.length) = some 3 := ⟨by decide +kernel, by decide +kernel, by decide +kernel⟩
theorem hm_209 : mX9_mark.2.2.1 ≤ 45 := by decide +kernel
theorem hy_210 : mX9_pour.1.cls ≠ "java/lang/invoke/MethodHandle" ∧ mX9_pour.1.cls ≠ "java/lang/invoke/VarHandle" ∧ (parseMethodDescriptor mX9_pour.1.desc).map (fun d => d.parameters.length) = some 1 := ⟨by decide +kernel, by decide +kernel, by decide +kernel⟩
theorem hm_210 : mX9_pour.2.2.1 ≤ 45 := by decide +kernel
theorem hy_211 : mX9_reads.1.cls ≠ "java/lang/invoke/MethodHandle" ∧ mX9_reads.1.cls ≠ "java/lang/invoke/VarHandle" ∧ (parseMethodDescriptor mX9_reads.1.desc).map (fun d => d.parameters.length) = some 1 := ⟨by decide +kernel, by decide +kernel, by decide +kernel⟩
theorem hm_211 : mX9_reads.2.2.1 ≤ 45 := by decide +kernel
theorem hy_212 : mX9_copy.1.cls ≠ "java/lang/invoke/MethodHandle" ∧ mX9_copy.1.cls ≠ "java/lang/invoke/VarHandle" ∧ (parseMethodDescriptor mX9_copy.1.desc).map (fun d => d.parameters.length) = some 5 := ⟨by decide +kernel, by decide +kernel, by decide +kernel⟩
theorem hm_212 : mX9_copy.2.2.1 ≤ 45 := by decide +kernel
theorem hy_213 : mX9_lay.1.cls ≠ "java/lang/invoke/MethodHandle" ∧ mX9_lay.1.cls ≠ "java/lang/invoke/VarHandle" ∧ (parseMethodDescriptor mX9_lay.1.desc).map (fun d => d.parameters.length) = some 3 := ⟨by decide +kernel, by decide +kernel, by decide +kernel⟩
theorem hm_213 : mX9_lay.2.2.1 ≤ 45 := by decide +kernel
theorem hy_214 : mX9_ask.1.cls ≠ "java/lang/invoke/MethodHandle" ∧ mX9_ask.1.cls ≠ "java/lang/invoke/VarHandle" ∧ (parseMethodDescriptor mX9_ask.1.desc).map (fun d => d.parameters.length) = some 2 := ⟨by decide +kernel, by decide +kernel, by decide +kernel⟩
theorem hm_214 : mX9_ask.2.2.1 ≤ 45 := by decide +kernel
theorem hy_215 : mX9_item.1.cls ≠ "java/lang/invoke/MethodHandle" ∧ mX9_item.1.cls ≠ "java/lang/invoke/VarHandle" ∧ (parseMethodDescriptor mX9_item.1.desc).map (fun d => d.parameters.length) = some 2 := ⟨by decide +kernel, by decide +kernel, by decide +kernel⟩
theorem hm_215 : mX9_item.2.2.1 ≤ 45 := by decide +kernel
theorem hy_216 : mX9_rest.1.cls ≠ "java/lang/invoke/MethodHandle" ∧ mX9_rest.1.cls ≠ "java/lang/invoke/VarHandle" ∧ (parseMethodDescriptor mX9_rest.1.desc).map (fun d => d.parameters.length) = some 2 := ⟨by decide +kernel, by decide +kernel, by decide +kernel⟩
theorem hm_216 : mX9_rest.2.2.1 ≤ 45 := by decide +kernel
theorem hy_217 : mX9_tell.1.cls ≠ "java/lang/invoke/MethodHandle" ∧ mX9_tell.1.cls ≠ "java/lang/invoke/VarHandle" ∧ (parseMethodDescriptor mX9_tell.1.desc).map (fun d => d.parameters.length) = some 1 := ⟨by decide +kernel, by decide +kernel, by decide +kernel⟩
theorem hm_217 : mX9_tell.2.2.1 ≤ 45 := by decide +kernel
theorem hy_218 : mX9_check.1.cls ≠ "java/lang/invoke/MethodHandle" ∧ mX9_check.1.cls ≠ "java/lang/invoke/VarHandle" ∧ (parseMethodDescriptor mX9_check.1.desc).map (fun d => d.parameters.length) = some 1 := ⟨by decide +kernel, by decide +kernel, by decide +kernel⟩
theorem hm_218 : mX9_check.2.2.1 ≤ 45 := by decide +kernel
theorem hy_219 : mX9_keep.1.cls ≠ "java/lang/invoke/MethodHandle" ∧ mX9_keep.1.cls ≠ "java/lang/invoke/VarHandle" ∧ (parseMethodDescriptor mX9_keep.1.desc).map (fun d => d.parameters.length) = some 0 := ⟨by decide +kernel, by decide +kernel, by decide +kernel⟩
theorem hm_219 : mX9_keep.2.2.1 ≤ 45 := by decide +kernel
theorem hy_220 : mX9_back.1.cls ≠ "java/lang/invoke/MethodHandle" ∧ mX9_back.1.cls ≠ "java/lang/invoke/VarHandle" ∧ (parseMethodDescriptor mX9_back.1.desc).map (fun d => d.parameters.length) = some 0 := ⟨by decide +kernel, by decide +kernel, by decide +kernel⟩
theorem hm_220 : mX9_back.2.2.1 ≤ 45 := by decide +kernel
theorem hy_221 : mX9_count.1.cls ≠ "java/lang/invoke/MethodHandle" ∧ mX9_count.1.cls ≠ "java/lang/invoke/VarHandle" ∧ (parseMethodDescriptor mX9_count.1.desc).map (fun d => d.parameters.length) = some 1 := ⟨by decide +kernel, by decide +kernel, by decide +kernel⟩
theorem hm_221 : mX9_count.2.2.1 ≤ 45 := by decide +kernel
theorem hy_222 : mJ11_isValidCodePoint_9a6ad.1.cls ≠ "java/lang/invoke/MethodHandle" ∧ mJ11_isValidCodePoint_9a6ad.1.cls ≠ "java/lang/invoke/VarHandle" ∧ (parseMethodDescriptor mJ11_isValidCodePoint_9a6ad.1.desc).map (fun d => d.parameters.length) = some 1 := ⟨by decide +kernel, by decide +kernel, by decide +kernel⟩
theorem hm_222 : mJ11_isValidCodePoint_9a6ad.2.2.1 ≤ 45 := by decide +kernel
theorem hy_223 : mJ11_highSurrogate_5068e.1.cls ≠ "java/lang/invoke/MethodHandle" ∧ mJ11_highSurrogate_5068e.1.cls ≠ "java/lang/invoke/VarHandle" ∧ (parseMethodDescriptor mJ11_highSurrogate_5068e.1.desc).map (fun d => d.parameters.length) = some 1 := ⟨by decide +kernel, by decide +kernel, by decide +kernel⟩
theorem hm_223 : mJ11_highSurrogate_5068e.2.2.1 ≤ 45 := by decide +kernel
theorem hy_224 : mJ11_lowSurrogate_5068e.1.cls ≠ "java/lang/invoke/MethodHandle" ∧ mJ11_lowSurrogate_5068e.1.cls ≠ "java/lang/invoke/VarHandle" ∧ (parseMethodDescriptor mJ11_lowSurrogate_5068e.1.desc).map (fun d => d.parameters.length) = some 1 := ⟨by decide +kernel, by decide +kernel, by decide +kernel⟩
theorem hm_224 : mJ11_lowSurrogate_5068e.2.2.1 ≤ 45 := by decide +kernel
theorem hy_225 : mJ6_bitCount_0f7a4.1.cls ≠ "java/lang/invoke/MethodHandle" ∧ mJ6_bitCount_0f7a4.1.cls ≠ "java/lang/invoke/VarHandle" ∧ (parseMethodDescriptor mJ6_bitCount_0f7a4.1.desc).map (fun d => d.parameters.length) = some 1 := ⟨by decide +kernel, by decide +kernel, by decide +kernel⟩
theorem hm_225 : mJ6_bitCount_0f7a4.2.2.1 ≤ 45 := by decide +kernel
theorem hy_229 : mJ0_length_8abf5.1.cls ≠ "java/lang/invoke/MethodHandle" ∧ mJ0_length_8abf5.1.cls ≠ "java/lang/invoke/VarHandle" ∧ (parseMethodDescriptor mJ0_length_8abf5.1.desc).map (fun d => d.parameters.length) = some 0 := ⟨by decide +kernel, by decide +kernel, by decide +kernel⟩
theorem hm_229 : mJ0_length_8abf5.2.2.1 ≤ 45 := by decide +kernel
theorem hy_230 : mJ0_charAt_5068e.1.cls ≠ "java/lang/invoke/MethodHandle" ∧ mJ0_charAt_5068e.1.cls ≠ "java/lang/invoke/VarHandle" ∧ (parseMethodDescriptor mJ0_charAt_5068e.1.desc).map (fun d => d.parameters.length) = some 1 := ⟨by decide +kernel, by decide +kernel, by decide +kernel⟩
theorem hm_230 : mJ0_charAt_5068e.2.2.1 ≤ 45 := by decide +kernel
theorem hy_231 : mJ0_indexOf_0f7a4.1.cls ≠ "java/lang/invoke/MethodHandle" ∧ mJ0_indexOf_0f7a4.1.cls ≠ "java/lang/invoke/VarHandle" ∧ (parseMethodDescriptor mJ0_indexOf_0f7a4.1.desc).map (fun d => d.parameters.length) = some 1 := ⟨by decide +kernel, by decide +kernel, by decide +kernel⟩
theorem hm_231 : mJ0_indexOf_0f7a4.2.2.1 ≤ 45 := by decide +kernel
theorem hy_232 : mJ0_indexOf_7cf53.1.cls ≠ "java/lang/invoke/MethodHandle" ∧ mJ0_indexOf_7cf53.1.cls ≠ "java/lang/invoke/VarHandle" ∧ (parseMethodDescriptor mJ0_indexOf_7cf53.1.desc).map (fun d => d.parameters.length) = some 2 := ⟨by decide +kernel, by decide +kernel, by decide +kernel⟩
theorem hm_232 : mJ0_indexOf_7cf53.2.2.1 ≤ 45 := by decide +kernel
theorem hy_233 : mJ0_coder_7d493.1.cls ≠ "java/lang/invoke/MethodHandle" ∧ mJ0_coder_7d493.1.cls ≠ "java/lang/invoke/VarHandle" ∧ (parseMethodDescriptor mJ0_coder_7d493.1.desc).map (fun d => d.parameters.length) = some 0 := ⟨by decide +kernel, by decide +kernel, by decide +kernel⟩
theorem hm_233 : mJ0_coder_7d493.2.2.1 ≤ 45 := by decide +kernel
theorem hy_234 : mJ0_isLatin1_aae02.1.cls ≠ "java/lang/invoke/MethodHandle" ∧ mJ0_isLatin1_aae02.1.cls ≠ "java/lang/invoke/VarHandle" ∧ (parseMethodDescriptor mJ0_isLatin1_aae02.1.desc).map (fun d => d.parameters.length) = some 0 := ⟨by decide +kernel, by decide +kernel, by decide +kernel⟩
theorem hm_234 : mJ0_isLatin1_aae02.2.2.1 ≤ 45 := by decide +kernel
theorem hy_235 : mJ0_checkIndex_df160.1.cls ≠ "java/lang/invoke/MethodHandle" ∧ mJ0_checkIndex_df160.1.cls ≠ "java/lang/invoke/VarHandle" ∧ (parseMethodDescriptor mJ0_checkIndex_df160.1.desc).map (fun d => d.parameters.length) = some 2 := ⟨by decide +kernel, by decide +kernel, by decide +kernel⟩
theorem hm_235 : mJ0_checkIndex_df160.2.2.1 ≤ 45 := by decide +kernel
theorem hy_237 : mJ1_charAt_3b067.1.cls ≠ "java/lang/invoke/MethodHandle" ∧ mJ1_charAt_3b067.1.cls ≠ "java/lang/invoke/VarHandle" ∧ (parseMethodDescriptor mJ1_charAt_3b067.1.desc).map (fun d => d.parameters.length) = some 2 := ⟨by decide +kernel, by decide +kernel, by decide +kernel⟩
theorem hm_237 : mJ1_charAt_3b067.2.2.1 ≤ 45 := by decide +kernel
theorem hy_238 : mJ1_canEncode_9a6ad.1.cls ≠ "java/lang/invoke/MethodHandle" ∧ mJ1_canEncode_9a6ad.1.cls ≠ "java/lang/invoke/VarHandle" ∧ (parseMethodDescriptor mJ1_canEncode_9a6ad.1.desc).map (fun d => d.parameters.length) = some 1 := ⟨by decide +kernel, by decide +kernel, by decide +kernel⟩
theorem hm_238 : mJ1_canEncode_9a6ad.2.2.1 ≤ 45 := by decide +kernel
theorem hy_239 : mJ1_indexOf_4cfef.1.cls ≠ "java/lang/invoke/MethodHandle" ∧ mJ1_indexOf_4cfef.1.cls ≠ "java/lang/invoke/VarHandle" ∧ (parseMethodDescriptor mJ1_indexOf_4cfef.1.desc).map (fun d => d.parameters.length) = some 4 := ⟨by decide +kernel, by decide +kernel, by decide +kernel⟩
theorem hm_239 : mJ1_indexOf_4cfef.2.2.1 ≤ 45 := by decide +kernel
theorem hy_240 : mJ1_indexOfChar_4cfef.1.cls ≠ "java/lang/invoke/MethodHandle" ∧ mJ1_indexOfChar_4cfef.1.cls ≠ "java/lang/invoke/VarHandle" ∧ (parseMethodDescriptor mJ1_indexOfChar_4cfef.1.desc).map (fun d => d.parameters.length) = some 4 := ⟨by decide +kernel, by decide +kernel, by decide +kernel⟩
theorem hm_240 : mJ1_indexOfChar_4cfef.2.2.1 ≤ 45 := by decide +kernel
theorem hy_250 : mJ7_fill_53178.1.cls ≠ "java/lang/invoke/MethodHandle" ∧ mJ7_fill_53178.1.cls ≠ "java/lang/invoke/VarHandle" ∧ (parseMethodDescriptor mJ7_fill_53178.1.desc).map (fun d => d.parameters.length) = some 2 := ⟨by decide +kernel, by decide +kernel, by decide +kernel⟩
theorem hm_250 : mJ7_fill_53178.2.2.1 ≤ 45 := by decide +kernel
theorem hy_251 : mJ7_copyOf_59c91.1.cls ≠ "java/lang/invoke/MethodHandle" ∧ mJ7_copyOf_59c91.1.cls ≠ "java/lang/invoke/VarHandle" ∧ (parseMethodDescriptor mJ7_copyOf_59c91.1.desc).map (fun d => d.parameters.length) = some 2 := ⟨by decide +kernel, by decide +kernel, by decide +kernel⟩
theorem hm_251 : mJ7_copyOf_59c91.2.2.1 ≤ 45 := by decide +kernel
theorem hy_252 : mJ3_checkIndex_8e157.1.cls ≠ "java/lang/invoke/MethodHandle" ∧ mJ3_checkIndex_8e157.1.cls ≠ "java/lang/invoke/VarHandle" ∧ (parseMethodDescriptor mJ3_checkIndex_8e157.1.desc).map (fun d => d.parameters.length) = some 3 := ⟨by decide +kernel, by decide +kernel, by decide +kernel⟩
theorem hm_252 : mJ3_checkIndex_8e157.2.2.1 ≤ 45 := by decide +kernel
theorem hy_253 : mJ3_checkFromToIndex_8c36e.1.cls ≠ "java/lang/invoke/MethodHandle" ∧ mJ3_checkFromToIndex_8c36e.1.cls ≠ "java/lang/invoke/VarHandle" ∧ (parseMethodDescriptor mJ3_checkFromToIndex_8c36e.1.desc).map (fun d => d.parameters.length) = some 4 := ⟨by decide +kernel, by decide +kernel, by decide +kernel⟩
theorem hm_253 : mJ3_checkFromToIndex_8c36e.2.2.1 ≤ 45 := by decide +kernel
theorem zn_0 {G : ab_G} {xs : List Int32} (U : State) (h : ab_Z G xs U) : va_Nw (.methodLinkNest RX8 21 yX7_init "DominoKing") U := h.1 0 (RX8, 21, yX7_init) rfl
theorem zn_1 {G : ab_G} {xs : List Int32} (U : State) (h : ab_Z G xs U) : va_Nw (.methodLinkNest RX8 28 yX5_init "DominoKing") U := h.1 1 (RX8, 28, yX5_init) rfl
theorem zn_2 {G : ab_G} {xs : List Int32} (U : State) (h : ab_Z G xs U) : va_Nw (.methodLinkNest RX8 58 yX2_init "DominoKing") U := h.1 2 (RX8, 58, yX2_init) rfl
theorem zn_3 {G : ab_G} {xs : List Int32} (U : State) (h : ab_Z G xs U) : va_Nw (.methodLinkNest RX8 59 yX3_init "DominoKing") U := h.1 3 (RX8, 59, yX3_init) rfl
theorem zn_4 {G : ab_G} {xs : List Int32} (U : State) (h : ab_Z G xs U) : va_Nw (.methodLinkNest RX3 9 yX2_init "DominoKing") U := h.1 4 (RX3, 9, yX2_init) rfl
theorem zn_5 {G : ab_G} {xs : List Int32} (U : State) (h : ab_Z G xs U) : va_Nw (.methodLinkNest RX4 86 yX8_within "DominoKing") U := h.1 5 (RX4, 86, yX8_within) rfl
theorem zn_6 {G : ab_G} {xs : List Int32} (U : State) (h : ab_Z G xs U) : va_Nw (.methodLinkNest RX4 114 yX8_clamp "DominoKing") U := h.1 6 (RX4, 114, yX8_clamp) rfl
theorem zn_7 {G : ab_G} {xs : List Int32} (U : State) (h : ab_Z G xs U) : va_Nw (.methodLinkNest RX2 34 yX8_within "DominoKing") U := h.1 7 (RX2, 34, yX8_within) rfl
