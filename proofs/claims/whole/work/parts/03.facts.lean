/-! methods, the layout, links of the constant pools: by program from the printed names -/
abbrev m0_init : Mt := (yX0_init, cX0_init, 1, none)
abbrev m0_clear : Mt := (yX0_clear, cX0_clear, 1, none)
abbrev m0_copyFrom : Mt := (yX0_copyFrom, cX0_copyFrom, 2, none)
abbrev m0_add : Mt := (yX0_add, cX0_add, 8, none)
abbrev m0_undoLast : Mt := (yX0_undoLast, cX0_undoLast, 3, none)
abbrev m0_slot : Mt := (yX0_slot, cX0_slot, 3, some .int)
abbrev m0_putBack : Mt := (yX0_putBack, cX0_putBack, 4, none)
abbrev m1_init : Mt := (yX1_init, cX1_init, 2, none)
abbrev m1_run : Mt := (yX1_run, cX1_run, 6, none)
abbrev m1_draw : Mt := (yX1_draw, cX1_draw, 2, some .int)
abbrev m1_moveCopy : Mt := (yX1_moveCopy, cX1_moveCopy, 6, none)
abbrev m1_carryOut : Mt := (yX1_carryOut, cX1_carryOut, 1, none)
abbrev m2_init : Mt := (yX2_init, cX2_init, 2, none)
abbrev m2_find : Mt := (yX2_find, cX2_find, 4, none)
abbrev m2_findOf : Mt := (yX2_findOf, cX2_findOf, 9, none)
abbrev m2_spareWith : Mt := (yX2_spareWith, cX2_spareWith, 4, some .int)
abbrev m2_spaceWith : Mt := (yX2_spaceWith, cX2_spaceWith, 3, some .int)
abbrev m2_lookNext : Mt := (yX2_lookNext, cX2_lookNext, 4, none)
abbrev m2_unlikeWith : Mt := (yX2_unlikeWith, cX2_unlikeWith, 7, some .int)
abbrev m2_newWith : Mt := (yX2_newWith, cX2_newWith, 7, some .int)
abbrev m2_markNew : Mt := (yX2_markNew, cX2_markNew, 6, some .int)
abbrev m3_init : Mt := (yX3_init, cX3_init, 2, none)
abbrev m3_find : Mt := (yX3_find, cX3_find, 3, none)
abbrev m3_firstThatEnds : Mt := (yX3_firstThatEnds, cX3_firstThatEnds, 5, some .int)
abbrev m3_ends : Mt := (yX3_ends, cX3_ends, 5, some .boolean)
abbrev m3_lackThen : Mt := (yX3_lackThen, cX3_lackThen, 7, some .int)
abbrev m3_firstOfTwo : Mt := (yX3_firstOfTwo, cX3_firstOfTwo, 6, some .int)
abbrev m4_init : Mt := (yX4_init, cX4_init, 2, none)
abbrev m4_late : Mt := (yX4_late, cX4_late, 4, some .int)
abbrev m4_findInTheWay : Mt := (yX4_findInTheWay, cX4_findInTheWay, 5, none)
abbrev m4_spaceWithout : Mt := (yX4_spaceWithout, cX4_spaceWithout, 5, some .int)
abbrev m4_stricter : Mt := (yX4_stricter, cX4_stricter, 5, some .int)
abbrev m4_tighter : Mt := (yX4_tighter, cX4_tighter, 7, some .int)
abbrev m4_apart : Mt := (yX4_apart, cX4_apart, 3, some .int)
abbrev m4_priceOfWork : Mt := (yX4_priceOfWork, cX4_priceOfWork, 4, some .int)
abbrev m4_priceOfLibrary : Mt := (yX4_priceOfLibrary, cX4_priceOfLibrary, 6, some .int)
abbrev m5_init : Mt := (yX5_init, cX5_init, 2, none)
abbrev m5_make : Mt := (yX5_make, cX5_make, 6, none)
abbrev m5_takeMost : Mt := (yX5_takeMost, cX5_takeMost, 10, some .int)
abbrev m5_copiesFrom : Mt := (yX5_copiesFrom, cX5_copiesFrom, 4, some .int)
abbrev m5_copiesOf : Mt := (yX5_copiesOf, cX5_copiesOf, 4, some .int)
abbrev m5_wonBy : Mt := (yX5_wonBy, cX5_wonBy, 5, some .int)
abbrev m5_packed : Mt := (yX5_packed, cX5_packed, 4, some .long)
abbrev m5_changes : Mt := (yX5_changes, cX5_changes, 5, some .int)
abbrev m5_changesOf : Mt := (yX5_changesOf, cX5_changesOf, 10, some .int)
abbrev m5_mayMove : Mt := (yX5_mayMove, cX5_mayMove, 5, some .boolean)
abbrev m6_init : Mt := (yX6_init, cX6_init, 1, none)
abbrev m6_load : Mt := (yX6_load, cX6_load, 4, none)
abbrev m6_rank : Mt := (yX6_rank, cX6_rank, 3, none)
abbrev m6_sumNeeds : Mt := (yX6_sumNeeds, cX6_sumNeeds, 4, none)
abbrev m6_sumOffers : Mt := (yX6_sumOffers, cX6_sumOffers, 9, none)
abbrev m6_setSpare : Mt := (yX6_setSpare, cX6_setSpare, 3, none)
abbrev m6_setOffer : Mt := (yX6_setOffer, cX6_setOffer, 4, none)
abbrev m6_setLibrary : Mt := (yX6_setLibrary, cX6_setLibrary, 4, none)
abbrev m6_allOffers : Mt := (yX6_allOffers, cX6_allOffers, 2, some .int)
abbrev m6_canTake : Mt := (yX6_canTake, cX6_canTake, 4, some .int)
abbrev m6_lackOf : Mt := (yX6_lackOf, cX6_lackOf, 2, some .int)
abbrev m6_hasPlan : Mt := (yX6_hasPlan, cX6_hasPlan, 2, some .boolean)
abbrev m6_worstSet : Mt := (yX6_worstSet, cX6_worstSet, 6, some .int)
abbrev m6_scarceWorks : Mt := (yX6_scarceWorks, cX6_scarceWorks, 4, some .int)
abbrev m6_space : Mt := (yX6_space, cX6_space, 8, some .int)
abbrev m6_weighMost : Mt := (yX6_weighMost, cX6_weighMost, 5, some .int)
abbrev m6_copiesOfPlan : Mt := (yX6_copiesOfPlan, cX6_copiesOfPlan, 1, some .int)
abbrev m7_init : Mt := (yX7_init, cX7_init, 1, none)
abbrev m7_copyFrom : Mt := (yX7_copyFrom, cX7_copyFrom, 2, none)
abbrev m7_addNoted : Mt := (yX7_addNoted, cX7_addNoted, 2, none)
abbrev m7_allNotedAre : Mt := (yX7_allNotedAre, cX7_allNotedAre, 3, some .boolean)
abbrev m8_init : Mt := (yX8_init, cX8_init, 1, none)
abbrev m8_clear : Mt := (yX8_clear, cX8_clear, 2, none)
abbrev m8_copyFrom : Mt := (yX8_copyFrom, cX8_copyFrom, 2, none)
abbrev m8_libraries : Mt := (yX8_libraries, cX8_libraries, 1, some .int)
abbrev m8_works : Mt := (yX8_works, cX8_works, 1, some .int)
abbrev m8_addLibrary : Mt := (yX8_addLibrary, cX8_addLibrary, 4, none)
abbrev m8_addWork : Mt := (yX8_addWork, cX8_addWork, 4, none)
abbrev m8_isLibrary : Mt := (yX8_isLibrary, cX8_isLibrary, 2, some .boolean)
abbrev m8_isWork : Mt := (yX8_isWork, cX8_isWork, 2, some .boolean)
abbrev m8_isPair : Mt := (yX8_isPair, cX8_isPair, 3, some .boolean)
abbrev m8_roomOf : Mt := (yX8_roomOf, cX8_roomOf, 2, some .int)
abbrev m8_wishOf : Mt := (yX8_wishOf, cX8_wishOf, 2, some .int)
abbrev m8_sizeOf : Mt := (yX8_sizeOf, cX8_sizeOf, 2, some .int)
abbrev m8_keepOf : Mt := (yX8_keepOf, cX8_keepOf, 2, some .int)
abbrev m8_storedOf : Mt := (yX8_storedOf, cX8_storedOf, 2, some .int)
abbrev m8_heldIn : Mt := (yX8_heldIn, cX8_heldIn, 3, some .int)
abbrev m8_muchOf : Mt := (yX8_muchOf, cX8_muchOf, 3, some .int)
abbrev m8_untilOf : Mt := (yX8_untilOf, cX8_untilOf, 3, some .int)
abbrev m8_promiseCounts : Mt := (yX8_promiseCounts, cX8_promiseCounts, 4, some .boolean)
abbrev m8_offerOf : Mt := (yX8_offerOf, cX8_offerOf, 4, some .int)
abbrev m8_copiesIn : Mt := (yX8_copiesIn, cX8_copiesIn, 4, some .int)
abbrev m8_copiesHeld : Mt := (yX8_copiesHeld, cX8_copiesHeld, 3, some .int)
abbrev m8_copiesStored : Mt := (yX8_copiesStored, cX8_copiesStored, 3, some .int)
abbrev m8_copiesOf : Mt := (yX8_copiesOf, cX8_copiesOf, 4, some .int)
abbrev m8_spareOf : Mt := (yX8_spareOf, cX8_spareOf, 2, some .int)
abbrev m8_shortOf : Mt := (yX8_shortOf, cX8_shortOf, 2, some .int)
abbrev m8_needOf : Mt := (yX8_needOf, cX8_needOf, 2, some .int)
abbrev m8_mayGo : Mt := (yX8_mayGo, cX8_mayGo, 3, some .boolean)
abbrev m8_whyNot : Mt := (yX8_whyNot, cX8_whyNot, 3, some .int)
abbrev m8_hasRoom : Mt := (yX8_hasRoom, cX8_hasRoom, 2, some .boolean)
abbrev m8_mayGive : Mt := (yX8_mayGive, cX8_mayGive, 4, some .boolean)
abbrev m8_maySend : Mt := (yX8_maySend, cX8_maySend, 3, some .boolean)
abbrev m8_moveOne : Mt := (yX8_moveOne, cX8_moveOne, 4, none)
abbrev m8_holdersOf : Mt := (yX8_holdersOf, cX8_holdersOf, 4, some .int)
abbrev m8_lastWorks : Mt := (yX8_lastWorks, cX8_lastWorks, 3, some .int)
abbrev m8_shortWorks : Mt := (yX8_shortWorks, cX8_shortWorks, 3, some .int)
abbrev m8_scarceWithout : Mt := (yX8_scarceWithout, cX8_scarceWithout, 4, some .int)
abbrev m8_lostWithout : Mt := (yX8_lostWithout, cX8_lostWithout, 5, some .int)
abbrev m8_safe : Mt := (yX8_safe, cX8_safe, 6, some .int)
abbrev m8_promiseEndsWith : Mt := (yX8_promiseEndsWith, cX8_promiseEndsWith, 3, some .boolean)
abbrev m8_withdraw : Mt := (yX8_withdraw, cX8_withdraw, 4, none)
abbrev m8_putBack : Mt := (yX8_putBack, cX8_putBack, 4, none)
abbrev m9_init : Mt := (yX9_init, cX9_init, 1, none)
abbrev m9_read : Mt := (yX9_read, cX9_read, 5, some .int)
abbrev m9_refuse : Mt := (yX9_refuse, cX9_refuse, 2, none)
abbrev m9_byteAt : Mt := (yX9_byteAt, cX9_byteAt, 2, some .int)
abbrev m9_isLetter : Mt := (yX9_isLetter, cX9_isLetter, 1, some .boolean)
abbrev m9_isDigit : Mt := (yX9_isDigit, cX9_isDigit, 1, some .boolean)
abbrev m9_next : Mt := (yX9_next, cX9_next, 2, none)
abbrev m9_wordIs : Mt := (yX9_wordIs, cX9_wordIs, 3, some .boolean)
abbrev m9_readClause : Mt := (yX9_readClause, cX9_readClause, 1, none)
abbrev m9_readLibraryClause : Mt := (yX9_readLibraryClause, cX9_readLibraryClause, 3, none)
abbrev m9_readWorkClause : Mt := (yX9_readWorkClause, cX9_readWorkClause, 3, none)
abbrev m9_readHoldsClause : Mt := (yX9_readHoldsClause, cX9_readHoldsClause, 4, none)
abbrev m9_readPromiseClause : Mt := (yX9_readPromiseClause, cX9_readPromiseClause, 5, none)
abbrev m9_readStoreClause : Mt := (yX9_readStoreClause, cX9_readStoreClause, 2, none)
abbrev m9_readNumberOf : Mt := (yX9_readNumberOf, cX9_readNumberOf, 5, some .int)
abbrev m9_readNumber : Mt := (yX9_readNumber, cX9_readNumber, 4, some .int)
abbrev m9_checkNumber : Mt := (yX9_checkNumber, cX9_checkNumber, 5, some .int)
abbrev m9_readSign : Mt := (yX9_readSign, cX9_readSign, 1, none)
abbrev m10_init : Mt := (yX10_init, cX10_init, 2, none)
abbrev m10_begin : Mt := (yX10_begin, cX10_begin, 3, none)
abbrev m10_goRound : Mt := (yX10_goRound, cX10_goRound, 5, none)
abbrev m10_findOrders : Mt := (yX10_findOrders, cX10_findOrders, 2, none)
abbrev m10_lineUp : Mt := (yX10_lineUp, cX10_lineUp, 6, none)
abbrev m10_withdraw : Mt := (yX10_withdraw, cX10_withdraw, 10, some .int)
abbrev m11_init : Mt := (yX11_init, cX11_init, 1, none)
abbrev m11_feed : Mt := (yX11_feed, cX11_feed, 6, some .int)
abbrev m11_putOnTape : Mt := (yX11_putOnTape, cX11_putOnTape, 3, none)
abbrev m11_desk : Mt := (yX11_desk, cX11_desk, 3, some .int)
abbrev m11_fault : Mt := (yX11_fault, cX11_fault, 1, some .int)
abbrev m11_count : Mt := (yX11_count, cX11_count, 2, some .int)
abbrev m11_countInStock : Mt := (yX11_countInStock, cX11_countInStock, 3, some .int)
abbrev m11_countOfPlan : Mt := (yX11_countOfPlan, cX11_countOfPlan, 3, some .int)
abbrev m11_countOfShortage : Mt := (yX11_countOfShortage, cX11_countOfShortage, 3, some .int)
abbrev m11_countOfDesk : Mt := (yX11_countOfDesk, cX11_countOfDesk, 2, some .int)
abbrev m11_library : Mt := (yX11_library, cX11_library, 4, some .int)
abbrev m11_work : Mt := (yX11_work, cX11_work, 4, some .int)
abbrev m11_held : Mt := (yX11_held, cX11_held, 5, some .int)
abbrev m11_lack : Mt := (yX11_lack, cX11_lack, 2, some .int)
abbrev m11_order : Mt := (yX11_order, cX11_order, 2, some .int)
abbrev m11_own : Mt := (yX11_own, cX11_own, 6, some .int)
abbrev m11_promise : Mt := (yX11_promise, cX11_promise, 9, some .int)
abbrev m11_keep : Mt := (yX11_keep, cX11_keep, 5, some .int)
abbrev m11_room : Mt := (yX11_room, cX11_room, 7, some .int)
abbrev m11_go : Mt := (yX11_go, cX11_go, 5, some .int)
abbrev m11_give : Mt := (yX11_give, cX11_give, 7, some .int)
abbrev m11_send : Mt := (yX11_send, cX11_send, 6, some .int)
abbrev m11_carry : Mt := (yX11_carry, cX11_carry, 5, some .int)
abbrev m11_years : Mt := (yX11_years, cX11_years, 3, some .int)
abbrev m11_undo : Mt := (yX11_undo, cX11_undo, 1, some .int)
abbrev m11_note : Mt := (yX11_note, cX11_note, 2, some .int)
abbrev m11_fits : Mt := (yX11_fits, cX11_fits, 2, some .int)
abbrev m11_look : Mt := (yX11_look, cX11_look, 2, some .int)
abbrev m11_forget : Mt := (yX11_forget, cX11_forget, 1, none)
abbrev m11_drawn : Mt := (yX11_drawn, cX11_drawn, 4, some .int)
abbrev m11_image : Mt := (yX11_image, cX11_image, 1, none)
abbrev m11_restore : Mt := (yX11_restore, cX11_restore, 1, some .boolean)
abbrev m11_refuseAct : Mt := (yX11_refuseAct, cX11_refuseAct, 1, some .int)
abbrev m11_act : Mt := (yX11_act, cX11_act, 6, none)
abbrev m11_refreshPlan : Mt := (yX11_refreshPlan, cX11_refreshPlan, 1, none)
abbrev m11_pairOf : Mt := (yX11_pairOf, cX11_pairOf, 2, some .int)
abbrev m12_init : Mt := (yX12_init, cX12_init, 1, none)
abbrev m12_thrown : Mt := (yX12_thrown, cX12_thrown, 1, some .int)
abbrev m12_right : Mt := (yX12_right, cX12_right, 3, some .boolean)
abbrev m12_within : Mt := (yX12_within, cX12_within, 3, some .boolean)
abbrev m12_greater : Mt := (yX12_greater, cX12_greater, 2, some .int)
abbrev m12_lesser : Mt := (yX12_lesser, cX12_lesser, 2, some .int)
abbrev m12_copies : Mt := (yX12_copies, cX12_copies, 5, none)
abbrev m12_cell : Mt := (yX12_cell, cX12_cell, 2, some .int)
abbrev m12_holds : Mt := (yX12_holds, cX12_holds, 4, some .int)
abbrev m12_counts : Mt := (yX12_counts, cX12_counts, 4, some .boolean)
abbrev m12_offerOf : Mt := (yX12_offerOf, cX12_offerOf, 5, some .int)
abbrev m12_stored : Mt := (yX12_stored, cX12_stored, 4, some .int)
abbrev m12_allOf : Mt := (yX12_allOf, cX12_allOf, 5, some .int)
abbrev m12_spareOf : Mt := (yX12_spareOf, cX12_spareOf, 3, some .int)
abbrev m12_inAll : Mt := (yX12_inAll, cX12_inAll, 5, some .int)
abbrev m12_needOf : Mt := (yX12_needOf, cX12_needOf, 3, some .int)
abbrev m12_everything : Mt := (yX12_everything, cX12_everything, 4, some .int)
abbrev m12_asks : Mt := (yX12_asks, cX12_asks, 5, none)
abbrev m12_offersOf : Mt := (yX12_offersOf, cX12_offersOf, 5, some .int)
abbrev m12_lackOf : Mt := (yX12_lackOf, cX12_lackOf, 4, some .int)
abbrev m12_bits : Mt := (yX12_bits, cX12_bits, 3, some .int)
abbrev m12_laysShortage : Mt := (yX12_laysShortage, cX12_laysShortage, 3, none)
abbrev m12_shortWorks : Mt := (yX12_shortWorks, cX12_shortWorks, 3, some .int)
abbrev m12_isPlan : Mt := (yX12_isPlan, cX12_isPlan, 1, some .boolean)
abbrev m12_isPlanOf : Mt := (yX12_isPlanOf, cX12_isPlanOf, 2, some .boolean)
abbrev m12_goesOne : Mt := (yX12_goesOne, cX12_goesOne, 7, some .boolean)
abbrev m12_turns : Mt := (yX12_turns, cX12_turns, 4, none)
abbrev m12_laysMost : Mt := (yX12_laysMost, cX12_laysMost, 5, some .int)
abbrev m12_spaceBy : Mt := (yX12_spaceBy, cX12_spaceBy, 3, some .int)
abbrev m12_spaceOf : Mt := (yX12_spaceOf, cX12_spaceOf, 2, some .int)
abbrev m12_settles : Mt := (yX12_settles, cX12_settles, 4, none)
abbrev m12_asksBut : Mt := (yX12_asksBut, cX12_asksBut, 4, none)
abbrev m12_settledSpace : Mt := (yX12_settledSpace, cX12_settledSpace, 4, some .int)
abbrev m12_plans : Mt := (yX12_plans, cX12_plans, 4, some .boolean)
abbrev m12_canSettle : Mt := (yX12_canSettle, cX12_canSettle, 4, some .boolean)
abbrev m12_plannedBy : Mt := (yX12_plannedBy, cX12_plannedBy, 4, some .int)
abbrev m12_plannedOf : Mt := (yX12_plannedOf, cX12_plannedOf, 4, some .int)
abbrev m12_planned : Mt := (yX12_planned, cX12_planned, 3, some .int)
abbrev m12_wonBy : Mt := (yX12_wonBy, cX12_wonBy, 4, some .int)
abbrev m12_hasMore : Mt := (yX12_hasMore, cX12_hasMore, 3, some .boolean)
abbrev m12_changes : Mt := (yX12_changes, cX12_changes, 6, some .int)
abbrev m12_isLetter : Mt := (yX12_isLetter, cX12_isLetter, 1, some .boolean)
abbrev m12_byteAt : Mt := (yX12_byteAt, cX12_byteAt, 2, some .int)
abbrev m12_wordFrom : Mt := (yX12_wordFrom, cX12_wordFrom, 7, some .int)
abbrev m12_go : Mt := (yX12_go, cX12_go, 2, none)
abbrev m12_wants : Mt := (yX12_wants, cX12_wants, 3, some .boolean)
abbrev m12_number : Mt := (yX12_number, cX12_number, 4, some .int)
abbrev m12_library1 : Mt := (yX12_library1, cX12_library1, 1, none)
abbrev m12_work1 : Mt := (yX12_work1, cX12_work1, 1, none)
abbrev m12_cell1 : Mt := (yX12_cell1, cX12_cell1, 4, some .int)
abbrev m12_storeTold : Mt := (yX12_storeTold, cX12_storeTold, 1, none)
abbrev m12_clause1 : Mt := (yX12_clause1, cX12_clause1, 3, none)
abbrev m12_feed : Mt := (yX12_feed, cX12_feed, 8, some .int)
abbrev m12_desk : Mt := (yX12_desk, cX12_desk, 3, some .int)
abbrev m12_fault : Mt := (yX12_fault, cX12_fault, 1, some .int)
abbrev m12_tries : Mt := (yX12_tries, cX12_tries, 1, none)
abbrev m12_late : Mt := (yX12_late, cX12_late, 2, some .int)
abbrev m12_stricter : Mt := (yX12_stricter, cX12_stricter, 3, some .int)
abbrev m12_tighter : Mt := (yX12_tighter, cX12_tighter, 3, some .int)
abbrev m12_inTheWay : Mt := (yX12_inTheWay, cX12_inTheWay, 7, some .int)
abbrev m12_lastOnes : Mt := (yX12_lastOnes, cX12_lastOnes, 3, some .int)
abbrev m12_shortOnes : Mt := (yX12_shortOnes, cX12_shortOnes, 3, some .int)
abbrev m12_lostWith : Mt := (yX12_lostWith, cX12_lostWith, 6, some .int)
abbrev m12_canGive : Mt := (yX12_canGive, cX12_canGive, 5, some .boolean)
abbrev m12_gives : Mt := (yX12_gives, cX12_gives, 5, none)
abbrev m12_firstGift : Mt := (yX12_firstGift, cX12_firstGift, 7, some .int)
abbrev m12_hasGift : Mt := (yX12_hasGift, cX12_hasGift, 6, some .boolean)
abbrev m12_help : Mt := (yX12_help, cX12_help, 4, some .int)
abbrev m12_inOrder : Mt := (yX12_inOrder, cX12_inOrder, 6, some .int)
abbrev m12_byTurns : Mt := (yX12_byTurns, cX12_byTurns, 3, some .int)
abbrev m12_laysOrder : Mt := (yX12_laysOrder, cX12_laysOrder, 5, some .boolean)
abbrev m12_laysOrders : Mt := (yX12_laysOrders, cX12_laysOrders, 5, none)
abbrev m12_priceBy : Mt := (yX12_priceBy, cX12_priceBy, 4, some .int)
abbrev m12_safe : Mt := (yX12_safe, cX12_safe, 5, some .int)
abbrev m12_nthHeld : Mt := (yX12_nthHeld, cX12_nthHeld, 6, some .int)
abbrev m12_greatestThatMay : Mt := (yX12_greatestThatMay, cX12_greatestThatMay, 4, some .int)
abbrev m12_shortageTold : Mt := (yX12_shortageTold, cX12_shortageTold, 2, some .int)
abbrev m12_count : Mt := (yX12_count, cX12_count, 2, some .int)
abbrev m12_isLibrary : Mt := (yX12_isLibrary, cX12_isLibrary, 2, some .boolean)
abbrev m12_isWork : Mt := (yX12_isWork, cX12_isWork, 2, some .boolean)
abbrev m12_library : Mt := (yX12_library, cX12_library, 3, some .int)
abbrev m12_holders : Mt := (yX12_holders, cX12_holders, 4, some .int)
abbrev m12_work : Mt := (yX12_work, cX12_work, 3, some .int)
abbrev m12_why : Mt := (yX12_why, cX12_why, 4, some .int)
abbrev m12_held : Mt := (yX12_held, cX12_held, 4, some .int)
abbrev m12_lack : Mt := (yX12_lack, cX12_lack, 2, some .int)
abbrev m12_order : Mt := (yX12_order, cX12_order, 2, some .int)
abbrev m12_keptAt : Mt := (yX12_keptAt, cX12_keptAt, 2, some .int)
abbrev m12_refuses : Mt := (yX12_refuses, cX12_refuses, 2, some .int)
abbrev m12_keeps : Mt := (yX12_keeps, cX12_keeps, 1, none)
abbrev m12_isCell : Mt := (yX12_isCell, cX12_isCell, 3, some .boolean)
abbrev m12_tells : Mt := (yX12_tells, cX12_tells, 4, some .int)
abbrev m12_own : Mt := (yX12_own, cX12_own, 4, some .int)
abbrev m12_promise : Mt := (yX12_promise, cX12_promise, 6, some .int)
abbrev m12_keep : Mt := (yX12_keep, cX12_keep, 3, some .int)
abbrev m12_room : Mt := (yX12_room, cX12_room, 4, some .int)
abbrev m12_goes : Mt := (yX12_goes, cX12_goes, 5, none)
abbrev m12_go_ : Mt := (yX12_go_, cX12_go_, 3, some .int)
abbrev m12_give : Mt := (yX12_give, cX12_give, 4, some .int)
abbrev m12_send : Mt := (yX12_send, cX12_send, 3, some .int)
abbrev m12_carries : Mt := (yX12_carries, cX12_carries, 4, some .int)
abbrev m12_carry : Mt := (yX12_carry, cX12_carry, 1, some .int)
abbrev m12_years : Mt := (yX12_years, cX12_years, 2, some .int)
abbrev m12_undo : Mt := (yX12_undo, cX12_undo, 1, some .int)
abbrev m12_note : Mt := (yX12_note, cX12_note, 2, some .int)
abbrev m12_isNoted : Mt := (yX12_isNoted, cX12_isNoted, 4, some .boolean)
abbrev m12_laysFits : Mt := (yX12_laysFits, cX12_laysFits, 3, none)
abbrev m12_fits : Mt := (yX12_fits, cX12_fits, 2, some .int)
abbrev m12_unlike : Mt := (yX12_unlike, cX12_unlike, 6, some .int)
abbrev m12_laysSpaces : Mt := (yX12_laysSpaces, cX12_laysSpaces, 3, none)
abbrev m12_look : Mt := (yX12_look, cX12_look, 6, some .int)
abbrev m12_forget : Mt := (yX12_forget, cX12_forget, 1, none)
abbrev m12_draw : Mt := (yX12_draw, cX12_draw, 2, some .int)
abbrev m12_drawnOnes : Mt := (yX12_drawnOnes, cX12_drawnOnes, 5, none)
abbrev m12_drawn : Mt := (yX12_drawn, cX12_drawn, 6, some .int)
abbrev m12_image : Mt := (yX12_image, cX12_image, 2, none)
abbrev m12_restore : Mt := (yX12_restore, cX12_restore, 2, some .boolean)
def shT : List (Nat × Nat) := [(11, 16), (22, 700), (7, 5), (8, 1), (20, 123), (0, 5), (20, 80), (20, 80), (21, 40), (20, 6), (20, 3), (7, 5), (8, 1), (20, 123), (0, 5), (20, 80), (20, 80), (21, 40), (20, 6), (20, 3), (8, 1), (20, 123), (9, 9), (22, 0), (6, 14), (20, 30), (20, 6), (20, 5), (20, 5), (20, 6), (20, 6), (20, 192), (20, 192), (20, 32), (20, 32), (20, 6), (5, 4), (20, 30), (4, 4), (8, 1), (20, 123), (10, 9), (20, 36), (20, 5), (20, 5), (3, 5), (8, 1), (20, 123), (20, 32), (2, 7), (23, 96), (21, 16), (1, 4), (5, 4), (20, 30), (8, 1), (20, 123), (12, 55), (20, 9800), (20, 6), (20, 12), (20, 6), (20, 700), (20, 5), (20, 5), (20, 6), (20, 30), (20, 30), (20, 5), (20, 5), (20, 6), (20, 8), (20, 30), (20, 114), (20, 6), (23, 30), (23, 30), (20, 5), (20, 5), (20, 96), (20, 480), (21, 1)]
def tgT : List (List Nat) := [[2, 2, 2, 0, 0], [2, 0, 2, 0], [2, 2, 2, 0, 0, 0, 0], [2, 2, 2, 0, 0], [2, 2, 0, 0], [2, 2, 1, 0], [2, 2, 2, 2, 2, 2, 2, 2, 2, 2, 2, 0, 0, 0], [2, 2, 2, 0, 2], [2], [2, 0, 2, 1, 0, 0, 0, 0, 0], [2, 2, 2, 0, 2, 0, 0, 0, 0], [2, 0, 0, 2, 2, 1, 2, 2, 2, 2, 1, 2, 2, 2, 2, 2], [2, 2, 2, 2, 0, 0, 0, 0, 0, 0, 0, 0, 0, 0, 0, 2, 0, 0, 2, 2, 2, 2, 0, 0, 2, 2, 2, 2, 2, 2, 0, 0, 0, 0, 0, 0, 0, 0, 2, 2, 2, 2, 0, 0, 0, 2, 2, 0, 0, 0, 2, 2, 0, 0, 0]]
def LY : Sh := (fun h => shT.getD h (99, 0), fun c f => (tgT.getD c []).getD f 9)
def refL : List (Nat × Int × Int) := [(0, 0, 1), (0, 3, 2), (0, 4, 11), (0, 6, 20), (0, 7, 22), (0, 8, 24), (0, 9, 36), (0, 11, 38), (0, 12, 41), (0, 13, 45), (0, 14, 49), (0, 15, 52), (2, 0, 3), (2, 1, 5), (2, 2, 9), (2, 4, 10), (3, 0, 4), (5, 0, 6), (5, 1, 7), (5, 2, 8), (11, 0, 12), (11, 1, 14), (11, 2, 18), (11, 4, 19), (12, 0, 13), (14, 0, 15), (14, 1, 16), (14, 2, 17), (20, 0, 21), (24, 0, 25), (24, 1, 26), (24, 2, 27), (24, 3, 28), (24, 4, 29), (24, 5, 30), (24, 6, 31), (24, 7, 32), (24, 8, 33), (24, 9, 34), (24, 10, 35), (36, 0, 24), (36, 1, 37), (38, 0, 24), (38, 1, 39), (39, 0, 40), (41, 0, 24), (41, 1, 42), (41, 2, 43), (41, 4, 44), (45, 0, 24), (45, 1, 46), (45, 2, 48), (46, 0, 47), (49, 0, 24), (49, 1, 50), (49, 2, 51), (52, 0, 53), (52, 2, 55), (53, 0, 24), (53, 1, 54), (55, 0, 56), (57, 0, 58), (57, 1, 59), (57, 2, 60), (57, 3, 61), (57, 15, 62), (57, 18, 63), (57, 19, 64), (57, 20, 65), (57, 21, 66), (57, 24, 67), (57, 25, 68), (57, 26, 69), (57, 27, 70), (57, 28, 71), (57, 29, 72), (57, 38, 73), (57, 39, 74), (57, 40, 75), (57, 41, 76), (57, 45, 77), (57, 46, 78), (57, 50, 79), (57, 51, 80)]
/-- the references are as the layout has them, and the rows of cells are 0 outside -/
def stC : List Nat := [4, 13, 21, 40, 47, 56]
def GR (M : Mem) : Prop := (∀ q ∈ refL, M q.1 q.2.1 = q.2.2) ∧ ∀ c ∈ stC, ∀ k : Int, (k < 0 ∨ 123 ≤ k) → M c k = 0
theorem gr_0_0 {M : Mem} (hG : GR M) : M 0 0 = ((1 : Nat) : Int) := hG.1 (0, 0, 1) (List.mem_of_getElem? (i := 0) rfl)
theorem gr_0_3 {M : Mem} (hG : GR M) : M 0 3 = ((2 : Nat) : Int) := hG.1 (0, 3, 2) (List.mem_of_getElem? (i := 1) rfl)
theorem gr_0_4 {M : Mem} (hG : GR M) : M 0 4 = ((11 : Nat) : Int) := hG.1 (0, 4, 11) (List.mem_of_getElem? (i := 2) rfl)
theorem gr_0_6 {M : Mem} (hG : GR M) : M 0 6 = ((20 : Nat) : Int) := hG.1 (0, 6, 20) (List.mem_of_getElem? (i := 3) rfl)
theorem gr_0_7 {M : Mem} (hG : GR M) : M 0 7 = ((22 : Nat) : Int) := hG.1 (0, 7, 22) (List.mem_of_getElem? (i := 4) rfl)
theorem gr_0_8 {M : Mem} (hG : GR M) : M 0 8 = ((24 : Nat) : Int) := hG.1 (0, 8, 24) (List.mem_of_getElem? (i := 5) rfl)
theorem gr_0_9 {M : Mem} (hG : GR M) : M 0 9 = ((36 : Nat) : Int) := hG.1 (0, 9, 36) (List.mem_of_getElem? (i := 6) rfl)
theorem gr_0_11 {M : Mem} (hG : GR M) : M 0 11 = ((38 : Nat) : Int) := hG.1 (0, 11, 38) (List.mem_of_getElem? (i := 7) rfl)
theorem gr_0_12 {M : Mem} (hG : GR M) : M 0 12 = ((41 : Nat) : Int) := hG.1 (0, 12, 41) (List.mem_of_getElem? (i := 8) rfl)
theorem gr_0_13 {M : Mem} (hG : GR M) : M 0 13 = ((45 : Nat) : Int) := hG.1 (0, 13, 45) (List.mem_of_getElem? (i := 9) rfl)
theorem gr_0_14 {M : Mem} (hG : GR M) : M 0 14 = ((49 : Nat) : Int) := hG.1 (0, 14, 49) (List.mem_of_getElem? (i := 10) rfl)
theorem gr_0_15 {M : Mem} (hG : GR M) : M 0 15 = ((52 : Nat) : Int) := hG.1 (0, 15, 52) (List.mem_of_getElem? (i := 11) rfl)
theorem gr_2_0 {M : Mem} (hG : GR M) : M 2 0 = ((3 : Nat) : Int) := hG.1 (2, 0, 3) (List.mem_of_getElem? (i := 12) rfl)
theorem gr_2_1 {M : Mem} (hG : GR M) : M 2 1 = ((5 : Nat) : Int) := hG.1 (2, 1, 5) (List.mem_of_getElem? (i := 13) rfl)
theorem gr_2_2 {M : Mem} (hG : GR M) : M 2 2 = ((9 : Nat) : Int) := hG.1 (2, 2, 9) (List.mem_of_getElem? (i := 14) rfl)
theorem gr_2_4 {M : Mem} (hG : GR M) : M 2 4 = ((10 : Nat) : Int) := hG.1 (2, 4, 10) (List.mem_of_getElem? (i := 15) rfl)
theorem gr_3_0 {M : Mem} (hG : GR M) : M 3 0 = ((4 : Nat) : Int) := hG.1 (3, 0, 4) (List.mem_of_getElem? (i := 16) rfl)
theorem gr_5_0 {M : Mem} (hG : GR M) : M 5 0 = ((6 : Nat) : Int) := hG.1 (5, 0, 6) (List.mem_of_getElem? (i := 17) rfl)
theorem gr_5_1 {M : Mem} (hG : GR M) : M 5 1 = ((7 : Nat) : Int) := hG.1 (5, 1, 7) (List.mem_of_getElem? (i := 18) rfl)
theorem gr_5_2 {M : Mem} (hG : GR M) : M 5 2 = ((8 : Nat) : Int) := hG.1 (5, 2, 8) (List.mem_of_getElem? (i := 19) rfl)
theorem gr_11_0 {M : Mem} (hG : GR M) : M 11 0 = ((12 : Nat) : Int) := hG.1 (11, 0, 12) (List.mem_of_getElem? (i := 20) rfl)
theorem gr_11_1 {M : Mem} (hG : GR M) : M 11 1 = ((14 : Nat) : Int) := hG.1 (11, 1, 14) (List.mem_of_getElem? (i := 21) rfl)
theorem gr_11_2 {M : Mem} (hG : GR M) : M 11 2 = ((18 : Nat) : Int) := hG.1 (11, 2, 18) (List.mem_of_getElem? (i := 22) rfl)
theorem gr_11_4 {M : Mem} (hG : GR M) : M 11 4 = ((19 : Nat) : Int) := hG.1 (11, 4, 19) (List.mem_of_getElem? (i := 23) rfl)
theorem gr_12_0 {M : Mem} (hG : GR M) : M 12 0 = ((13 : Nat) : Int) := hG.1 (12, 0, 13) (List.mem_of_getElem? (i := 24) rfl)
theorem gr_14_0 {M : Mem} (hG : GR M) : M 14 0 = ((15 : Nat) : Int) := hG.1 (14, 0, 15) (List.mem_of_getElem? (i := 25) rfl)
theorem gr_14_1 {M : Mem} (hG : GR M) : M 14 1 = ((16 : Nat) : Int) := hG.1 (14, 1, 16) (List.mem_of_getElem? (i := 26) rfl)
theorem gr_14_2 {M : Mem} (hG : GR M) : M 14 2 = ((17 : Nat) : Int) := hG.1 (14, 2, 17) (List.mem_of_getElem? (i := 27) rfl)
theorem gr_20_0 {M : Mem} (hG : GR M) : M 20 0 = ((21 : Nat) : Int) := hG.1 (20, 0, 21) (List.mem_of_getElem? (i := 28) rfl)
theorem gr_24_0 {M : Mem} (hG : GR M) : M 24 0 = ((25 : Nat) : Int) := hG.1 (24, 0, 25) (List.mem_of_getElem? (i := 29) rfl)
theorem gr_24_1 {M : Mem} (hG : GR M) : M 24 1 = ((26 : Nat) : Int) := hG.1 (24, 1, 26) (List.mem_of_getElem? (i := 30) rfl)
theorem gr_24_2 {M : Mem} (hG : GR M) : M 24 2 = ((27 : Nat) : Int) := hG.1 (24, 2, 27) (List.mem_of_getElem? (i := 31) rfl)
theorem gr_24_3 {M : Mem} (hG : GR M) : M 24 3 = ((28 : Nat) : Int) := hG.1 (24, 3, 28) (List.mem_of_getElem? (i := 32) rfl)
theorem gr_24_4 {M : Mem} (hG : GR M) : M 24 4 = ((29 : Nat) : Int) := hG.1 (24, 4, 29) (List.mem_of_getElem? (i := 33) rfl)
theorem gr_24_5 {M : Mem} (hG : GR M) : M 24 5 = ((30 : Nat) : Int) := hG.1 (24, 5, 30) (List.mem_of_getElem? (i := 34) rfl)
theorem gr_24_6 {M : Mem} (hG : GR M) : M 24 6 = ((31 : Nat) : Int) := hG.1 (24, 6, 31) (List.mem_of_getElem? (i := 35) rfl)
theorem gr_24_7 {M : Mem} (hG : GR M) : M 24 7 = ((32 : Nat) : Int) := hG.1 (24, 7, 32) (List.mem_of_getElem? (i := 36) rfl)
theorem gr_24_8 {M : Mem} (hG : GR M) : M 24 8 = ((33 : Nat) : Int) := hG.1 (24, 8, 33) (List.mem_of_getElem? (i := 37) rfl)
theorem gr_24_9 {M : Mem} (hG : GR M) : M 24 9 = ((34 : Nat) : Int) := hG.1 (24, 9, 34) (List.mem_of_getElem? (i := 38) rfl)
theorem gr_24_10 {M : Mem} (hG : GR M) : M 24 10 = ((35 : Nat) : Int) := hG.1 (24, 10, 35) (List.mem_of_getElem? (i := 39) rfl)
theorem gr_36_0 {M : Mem} (hG : GR M) : M 36 0 = ((24 : Nat) : Int) := hG.1 (36, 0, 24) (List.mem_of_getElem? (i := 40) rfl)
theorem gr_36_1 {M : Mem} (hG : GR M) : M 36 1 = ((37 : Nat) : Int) := hG.1 (36, 1, 37) (List.mem_of_getElem? (i := 41) rfl)
theorem gr_38_0 {M : Mem} (hG : GR M) : M 38 0 = ((24 : Nat) : Int) := hG.1 (38, 0, 24) (List.mem_of_getElem? (i := 42) rfl)
theorem gr_38_1 {M : Mem} (hG : GR M) : M 38 1 = ((39 : Nat) : Int) := hG.1 (38, 1, 39) (List.mem_of_getElem? (i := 43) rfl)
theorem gr_39_0 {M : Mem} (hG : GR M) : M 39 0 = ((40 : Nat) : Int) := hG.1 (39, 0, 40) (List.mem_of_getElem? (i := 44) rfl)
theorem gr_41_0 {M : Mem} (hG : GR M) : M 41 0 = ((24 : Nat) : Int) := hG.1 (41, 0, 24) (List.mem_of_getElem? (i := 45) rfl)
theorem gr_41_1 {M : Mem} (hG : GR M) : M 41 1 = ((42 : Nat) : Int) := hG.1 (41, 1, 42) (List.mem_of_getElem? (i := 46) rfl)
theorem gr_41_2 {M : Mem} (hG : GR M) : M 41 2 = ((43 : Nat) : Int) := hG.1 (41, 2, 43) (List.mem_of_getElem? (i := 47) rfl)
theorem gr_41_4 {M : Mem} (hG : GR M) : M 41 4 = ((44 : Nat) : Int) := hG.1 (41, 4, 44) (List.mem_of_getElem? (i := 48) rfl)
theorem gr_45_0 {M : Mem} (hG : GR M) : M 45 0 = ((24 : Nat) : Int) := hG.1 (45, 0, 24) (List.mem_of_getElem? (i := 49) rfl)
theorem gr_45_1 {M : Mem} (hG : GR M) : M 45 1 = ((46 : Nat) : Int) := hG.1 (45, 1, 46) (List.mem_of_getElem? (i := 50) rfl)
theorem gr_45_2 {M : Mem} (hG : GR M) : M 45 2 = ((48 : Nat) : Int) := hG.1 (45, 2, 48) (List.mem_of_getElem? (i := 51) rfl)
theorem gr_46_0 {M : Mem} (hG : GR M) : M 46 0 = ((47 : Nat) : Int) := hG.1 (46, 0, 47) (List.mem_of_getElem? (i := 52) rfl)
theorem gr_49_0 {M : Mem} (hG : GR M) : M 49 0 = ((24 : Nat) : Int) := hG.1 (49, 0, 24) (List.mem_of_getElem? (i := 53) rfl)
theorem gr_49_1 {M : Mem} (hG : GR M) : M 49 1 = ((50 : Nat) : Int) := hG.1 (49, 1, 50) (List.mem_of_getElem? (i := 54) rfl)
theorem gr_49_2 {M : Mem} (hG : GR M) : M 49 2 = ((51 : Nat) : Int) := hG.1 (49, 2, 51) (List.mem_of_getElem? (i := 55) rfl)
theorem gr_52_0 {M : Mem} (hG : GR M) : M 52 0 = ((53 : Nat) : Int) := hG.1 (52, 0, 53) (List.mem_of_getElem? (i := 56) rfl)
theorem gr_52_2 {M : Mem} (hG : GR M) : M 52 2 = ((55 : Nat) : Int) := hG.1 (52, 2, 55) (List.mem_of_getElem? (i := 57) rfl)
theorem gr_53_0 {M : Mem} (hG : GR M) : M 53 0 = ((24 : Nat) : Int) := hG.1 (53, 0, 24) (List.mem_of_getElem? (i := 58) rfl)
theorem gr_53_1 {M : Mem} (hG : GR M) : M 53 1 = ((54 : Nat) : Int) := hG.1 (53, 1, 54) (List.mem_of_getElem? (i := 59) rfl)
theorem gr_55_0 {M : Mem} (hG : GR M) : M 55 0 = ((56 : Nat) : Int) := hG.1 (55, 0, 56) (List.mem_of_getElem? (i := 60) rfl)
theorem gr_57_0 {M : Mem} (hG : GR M) : M 57 0 = ((58 : Nat) : Int) := hG.1 (57, 0, 58) (List.mem_of_getElem? (i := 61) rfl)
theorem gr_57_1 {M : Mem} (hG : GR M) : M 57 1 = ((59 : Nat) : Int) := hG.1 (57, 1, 59) (List.mem_of_getElem? (i := 62) rfl)
theorem gr_57_2 {M : Mem} (hG : GR M) : M 57 2 = ((60 : Nat) : Int) := hG.1 (57, 2, 60) (List.mem_of_getElem? (i := 63) rfl)
theorem gr_57_3 {M : Mem} (hG : GR M) : M 57 3 = ((61 : Nat) : Int) := hG.1 (57, 3, 61) (List.mem_of_getElem? (i := 64) rfl)
theorem gr_57_15 {M : Mem} (hG : GR M) : M 57 15 = ((62 : Nat) : Int) := hG.1 (57, 15, 62) (List.mem_of_getElem? (i := 65) rfl)
theorem gr_57_18 {M : Mem} (hG : GR M) : M 57 18 = ((63 : Nat) : Int) := hG.1 (57, 18, 63) (List.mem_of_getElem? (i := 66) rfl)
theorem gr_57_19 {M : Mem} (hG : GR M) : M 57 19 = ((64 : Nat) : Int) := hG.1 (57, 19, 64) (List.mem_of_getElem? (i := 67) rfl)
theorem gr_57_20 {M : Mem} (hG : GR M) : M 57 20 = ((65 : Nat) : Int) := hG.1 (57, 20, 65) (List.mem_of_getElem? (i := 68) rfl)
theorem gr_57_21 {M : Mem} (hG : GR M) : M 57 21 = ((66 : Nat) : Int) := hG.1 (57, 21, 66) (List.mem_of_getElem? (i := 69) rfl)
theorem gr_57_24 {M : Mem} (hG : GR M) : M 57 24 = ((67 : Nat) : Int) := hG.1 (57, 24, 67) (List.mem_of_getElem? (i := 70) rfl)
theorem gr_57_25 {M : Mem} (hG : GR M) : M 57 25 = ((68 : Nat) : Int) := hG.1 (57, 25, 68) (List.mem_of_getElem? (i := 71) rfl)
theorem gr_57_26 {M : Mem} (hG : GR M) : M 57 26 = ((69 : Nat) : Int) := hG.1 (57, 26, 69) (List.mem_of_getElem? (i := 72) rfl)
theorem gr_57_27 {M : Mem} (hG : GR M) : M 57 27 = ((70 : Nat) : Int) := hG.1 (57, 27, 70) (List.mem_of_getElem? (i := 73) rfl)
theorem gr_57_28 {M : Mem} (hG : GR M) : M 57 28 = ((71 : Nat) : Int) := hG.1 (57, 28, 71) (List.mem_of_getElem? (i := 74) rfl)
theorem gr_57_29 {M : Mem} (hG : GR M) : M 57 29 = ((72 : Nat) : Int) := hG.1 (57, 29, 72) (List.mem_of_getElem? (i := 75) rfl)
theorem gr_57_38 {M : Mem} (hG : GR M) : M 57 38 = ((73 : Nat) : Int) := hG.1 (57, 38, 73) (List.mem_of_getElem? (i := 76) rfl)
theorem gr_57_39 {M : Mem} (hG : GR M) : M 57 39 = ((74 : Nat) : Int) := hG.1 (57, 39, 74) (List.mem_of_getElem? (i := 77) rfl)
theorem gr_57_40 {M : Mem} (hG : GR M) : M 57 40 = ((75 : Nat) : Int) := hG.1 (57, 40, 75) (List.mem_of_getElem? (i := 78) rfl)
theorem gr_57_41 {M : Mem} (hG : GR M) : M 57 41 = ((76 : Nat) : Int) := hG.1 (57, 41, 76) (List.mem_of_getElem? (i := 79) rfl)
theorem gr_57_45 {M : Mem} (hG : GR M) : M 57 45 = ((77 : Nat) : Int) := hG.1 (57, 45, 77) (List.mem_of_getElem? (i := 80) rfl)
theorem gr_57_46 {M : Mem} (hG : GR M) : M 57 46 = ((78 : Nat) : Int) := hG.1 (57, 46, 78) (List.mem_of_getElem? (i := 81) rfl)
theorem gr_57_50 {M : Mem} (hG : GR M) : M 57 50 = ((79 : Nat) : Int) := hG.1 (57, 50, 79) (List.mem_of_getElem? (i := 82) rfl)
theorem gr_57_51 {M : Mem} (hG : GR M) : M 57 51 = ((80 : Nat) : Int) := hG.1 (57, 51, 80) (List.mem_of_getElem? (i := 83) rfl)
theorem in_t1 : ∀ w ∈ tables_1_1, w ∈ lw_tbl := fun w h => List.mem_append_right _ (List.mem_append_left _ h)
theorem in_t2 : ∀ w ∈ tables_1_2, w ∈ lw_tbl := fun w h => List.mem_append_right _ (List.mem_append_right _ (List.mem_append_left _ h))
theorem in_t3 : ∀ w ∈ tables_1_3, w ∈ lw_tbl := fun w h => List.mem_append_right _ (List.mem_append_right _ (List.mem_append_right _ (List.mem_append_left _ h)))
theorem in_t4 : ∀ w ∈ tables_1_4, w ∈ lw_tbl := fun w h => List.mem_append_right _ (List.mem_append_right _ (List.mem_append_right _ (List.mem_append_right _ (List.mem_append_left _ h))))
theorem in_t5 : ∀ w ∈ tables_1_5, w ∈ lw_tbl := fun w h => List.mem_append_right _ (List.mem_append_right _ (List.mem_append_right _ (List.mem_append_right _ (List.mem_append_right _ (List.mem_append_left _ h)))))
theorem in_t6 : ∀ w ∈ tables_1_6, w ∈ lw_tbl := fun w h => List.mem_append_right _ (List.mem_append_right _ (List.mem_append_right _ (List.mem_append_right _ (List.mem_append_right _ (List.mem_append_right _ (List.mem_append_left _ h))))))
theorem in_t7 : ∀ w ∈ tables_1_7, w ∈ lw_tbl := fun w h => List.mem_append_right _ (List.mem_append_right _ (List.mem_append_right _ (List.mem_append_right _ (List.mem_append_right _ (List.mem_append_right _ (List.mem_append_right _ (List.mem_append_left _ h)))))))
theorem in_t8 : ∀ w ∈ tables_1_8, w ∈ lw_tbl := fun w h => List.mem_append_right _ (List.mem_append_right _ (List.mem_append_right _ (List.mem_append_right _ (List.mem_append_right _ (List.mem_append_right _ (List.mem_append_right _ (List.mem_append_right _ (List.mem_append_left _ h))))))))
theorem in_t9 : ∀ w ∈ tables_1_9, w ∈ lw_tbl := fun w h => List.mem_append_right _ (List.mem_append_right _ (List.mem_append_right _ (List.mem_append_right _ (List.mem_append_right _ (List.mem_append_right _ (List.mem_append_right _ (List.mem_append_right _ (List.mem_append_right _ (h)))))))))
theorem in_s1 : ∀ q ∈ lw_privs_1, Cond.selects q.1.cls q.1 q.1 ∈ lw_tbl := fun q h => List.mem_append_left _ (List.mem_map.mpr ⟨q, List.mem_append_left _ h, rfl⟩)
theorem in_s2 : ∀ q ∈ lw_privs_2, Cond.selects q.1.cls q.1 q.1 ∈ lw_tbl := fun q h => List.mem_append_left _ (List.mem_map.mpr ⟨q, List.mem_append_right _ (List.mem_append_left _ h), rfl⟩)
theorem in_s3 : ∀ q ∈ lw_privs_3, Cond.selects q.1.cls q.1 q.1 ∈ lw_tbl := fun q h => List.mem_append_left _ (List.mem_map.mpr ⟨q, List.mem_append_right _ (List.mem_append_right _ (List.mem_append_left _ h)), rfl⟩)
theorem in_s4 : ∀ q ∈ lw_privs_4, Cond.selects q.1.cls q.1 q.1 ∈ lw_tbl := fun q h => List.mem_append_left _ (List.mem_map.mpr ⟨q, List.mem_append_right _ (List.mem_append_right _ (List.mem_append_right _ (List.mem_append_left _ h))), rfl⟩)
theorem in_s5 : ∀ q ∈ lw_privs_5, Cond.selects q.1.cls q.1 q.1 ∈ lw_tbl := fun q h => List.mem_append_left _ (List.mem_map.mpr ⟨q, List.mem_append_right _ (List.mem_append_right _ (List.mem_append_right _ (List.mem_append_right _ (List.mem_append_left _ h)))), rfl⟩)
theorem in_s6 : ∀ q ∈ lw_privs_6, Cond.selects q.1.cls q.1 q.1 ∈ lw_tbl := fun q h => List.mem_append_left _ (List.mem_map.mpr ⟨q, List.mem_append_right _ (List.mem_append_right _ (List.mem_append_right _ (List.mem_append_right _ (List.mem_append_right _ (List.mem_append_left _ h))))), rfl⟩)
theorem in_s7 : ∀ q ∈ lw_privs_7, Cond.selects q.1.cls q.1 q.1 ∈ lw_tbl := fun q h => List.mem_append_left _ (List.mem_map.mpr ⟨q, List.mem_append_right _ (List.mem_append_right _ (List.mem_append_right _ (List.mem_append_right _ (List.mem_append_right _ (List.mem_append_right _ (List.mem_append_left _ h)))))), rfl⟩)
theorem in_s8 : ∀ q ∈ lw_privs_8, Cond.selects q.1.cls q.1 q.1 ∈ lw_tbl := fun q h => List.mem_append_left _ (List.mem_map.mpr ⟨q, List.mem_append_right _ (List.mem_append_right _ (List.mem_append_right _ (List.mem_append_right _ (List.mem_append_right _ (List.mem_append_right _ (List.mem_append_right _ (List.mem_append_left _ h))))))), rfl⟩)
theorem in_s9 : ∀ q ∈ lw_privs_9, Cond.selects q.1.cls q.1 q.1 ∈ lw_tbl := fun q h => List.mem_append_left _ (List.mem_map.mpr ⟨q, List.mem_append_right _ (List.mem_append_right _ (List.mem_append_right _ (List.mem_append_right _ (List.mem_append_right _ (List.mem_append_right _ (List.mem_append_right _ (List.mem_append_right _ (h)))))))), rfl⟩)
set_option maxRecDepth 20000 in
theorem cl_0 : ClOK 0 RX0 TX0 5 tyX0 := ⟨rfl, List.forall_mem_cons.mpr ⟨Ts_in (in_t1 _ (List.mem_of_getElem? (i := 69) rfl)) rfl, List.forall_mem_cons.mpr ⟨Ts_in (in_t1 _ (List.mem_of_getElem? (i := 71) rfl)) rfl, List.forall_mem_cons.mpr ⟨Ts_in (in_t1 _ (List.mem_of_getElem? (i := 73) rfl)) rfl, List.forall_mem_cons.mpr ⟨Ts_in (in_t1 _ (List.mem_of_getElem? (i := 75) rfl)) rfl, List.forall_mem_cons.mpr ⟨Ts_in (in_t1 _ (List.mem_of_getElem? (i := 77) rfl)) rfl, (fun _ h => absurd h List.not_mem_nil)⟩⟩⟩⟩⟩, tyX0_ok, nmX0⟩
set_option maxRecDepth 20000 in
theorem cl_1 : ClOK 1 RX1 TX1 4 tyX1 := ⟨rfl, List.forall_mem_cons.mpr ⟨Ts_in (in_t2 _ (List.mem_of_getElem? (i := 130) rfl)) rfl, List.forall_mem_cons.mpr ⟨Ts_in (in_t2 _ (List.mem_of_getElem? (i := 132) rfl)) rfl, List.forall_mem_cons.mpr ⟨Ts_in (in_t2 _ (List.mem_of_getElem? (i := 134) rfl)) rfl, List.forall_mem_cons.mpr ⟨Ts_in (in_t2 _ (List.mem_of_getElem? (i := 136) rfl)) rfl, (fun _ h => absurd h List.not_mem_nil)⟩⟩⟩⟩, tyX1_ok, nmX1⟩
set_option maxRecDepth 20000 in
theorem cl_2 : ClOK 2 RX2 TX2 7 tyX2 := ⟨rfl, List.forall_mem_cons.mpr ⟨Ts_in (in_t2 _ (List.mem_of_getElem? (i := 100) rfl)) rfl, List.forall_mem_cons.mpr ⟨Ts_in (in_t2 _ (List.mem_of_getElem? (i := 102) rfl)) rfl, List.forall_mem_cons.mpr ⟨Ts_in (in_t2 _ (List.mem_of_getElem? (i := 104) rfl)) rfl, List.forall_mem_cons.mpr ⟨Ts_in (in_t2 _ (List.mem_of_getElem? (i := 106) rfl)) rfl, List.forall_mem_cons.mpr ⟨Ts_in (in_t2 _ (List.mem_of_getElem? (i := 108) rfl)) rfl, List.forall_mem_cons.mpr ⟨Ts_in (in_t2 _ (List.mem_of_getElem? (i := 110) rfl)) rfl, List.forall_mem_cons.mpr ⟨Ts_in (in_t2 _ (List.mem_of_getElem? (i := 112) rfl)) rfl, (fun _ h => absurd h List.not_mem_nil)⟩⟩⟩⟩⟩⟩⟩, tyX2_ok, nmX2⟩
set_option maxRecDepth 20000 in
theorem cl_3 : ClOK 3 RX3 TX3 5 tyX3 := ⟨rfl, List.forall_mem_cons.mpr ⟨Ts_in (in_t2 _ (List.mem_of_getElem? (i := 72) rfl)) rfl, List.forall_mem_cons.mpr ⟨Ts_in (in_t2 _ (List.mem_of_getElem? (i := 74) rfl)) rfl, List.forall_mem_cons.mpr ⟨Ts_in (in_t2 _ (List.mem_of_getElem? (i := 76) rfl)) rfl, List.forall_mem_cons.mpr ⟨Ts_in (in_t2 _ (List.mem_of_getElem? (i := 78) rfl)) rfl, List.forall_mem_cons.mpr ⟨Ts_in (in_t2 _ (List.mem_of_getElem? (i := 80) rfl)) rfl, (fun _ h => absurd h List.not_mem_nil)⟩⟩⟩⟩⟩, tyX3_ok, nmX3⟩
set_option maxRecDepth 20000 in
theorem cl_4 : ClOK 4 RX4 TX4 4 tyX4 := ⟨rfl, List.forall_mem_cons.mpr ⟨Ts_in (in_t2 _ (List.mem_of_getElem? (i := 9) rfl)) rfl, List.forall_mem_cons.mpr ⟨Ts_in (in_t2 _ (List.mem_of_getElem? (i := 11) rfl)) rfl, List.forall_mem_cons.mpr ⟨Ts_in (in_t2 _ (List.mem_of_getElem? (i := 13) rfl)) rfl, List.forall_mem_cons.mpr ⟨Ts_in (in_t2 _ (List.mem_of_getElem? (i := 15) rfl)) rfl, (fun _ h => absurd h List.not_mem_nil)⟩⟩⟩⟩, tyX4_ok, nmX4⟩
set_option maxRecDepth 20000 in
theorem cl_5 : ClOK 5 RX5 TX5 4 tyX5 := ⟨rfl, List.forall_mem_cons.mpr ⟨Ts_in (in_t1 _ (List.mem_of_getElem? (i := 226) rfl)) rfl, List.forall_mem_cons.mpr ⟨Ts_in (in_t1 _ (List.mem_of_getElem? (i := 228) rfl)) rfl, List.forall_mem_cons.mpr ⟨Ts_in (in_t1 _ (List.mem_of_getElem? (i := 230) rfl)) rfl, List.forall_mem_cons.mpr ⟨Ts_in (in_t1 _ (List.mem_of_getElem? (i := 232) rfl)) rfl, (fun _ h => absurd h List.not_mem_nil)⟩⟩⟩⟩, tyX5_ok, nmX5⟩
set_option maxRecDepth 20000 in
theorem cl_6 : ClOK 6 RX6 TX6 14 tyX6 := ⟨rfl, List.forall_mem_cons.mpr ⟨Ts_in (in_t1 _ (List.mem_of_getElem? (i := 182) rfl)) rfl, List.forall_mem_cons.mpr ⟨Ts_in (in_t1 _ (List.mem_of_getElem? (i := 184) rfl)) rfl, List.forall_mem_cons.mpr ⟨Ts_in (in_t1 _ (List.mem_of_getElem? (i := 186) rfl)) rfl, List.forall_mem_cons.mpr ⟨Ts_in (in_t1 _ (List.mem_of_getElem? (i := 188) rfl)) rfl, List.forall_mem_cons.mpr ⟨Ts_in (in_t1 _ (List.mem_of_getElem? (i := 190) rfl)) rfl, List.forall_mem_cons.mpr ⟨Ts_in (in_t1 _ (List.mem_of_getElem? (i := 192) rfl)) rfl, List.forall_mem_cons.mpr ⟨Ts_in (in_t1 _ (List.mem_of_getElem? (i := 194) rfl)) rfl, List.forall_mem_cons.mpr ⟨Ts_in (in_t1 _ (List.mem_of_getElem? (i := 196) rfl)) rfl, List.forall_mem_cons.mpr ⟨Ts_in (in_t1 _ (List.mem_of_getElem? (i := 198) rfl)) rfl, List.forall_mem_cons.mpr ⟨Ts_in (in_t1 _ (List.mem_of_getElem? (i := 200) rfl)) rfl, List.forall_mem_cons.mpr ⟨Ts_in (in_t1 _ (List.mem_of_getElem? (i := 202) rfl)) rfl, List.forall_mem_cons.mpr ⟨Ts_in (in_t1 _ (List.mem_of_getElem? (i := 204) rfl)) rfl, List.forall_mem_cons.mpr ⟨Ts_in (in_t1 _ (List.mem_of_getElem? (i := 206) rfl)) rfl, List.forall_mem_cons.mpr ⟨Ts_in (in_t1 _ (List.mem_of_getElem? (i := 208) rfl)) rfl, (fun _ h => absurd h List.not_mem_nil)⟩⟩⟩⟩⟩⟩⟩⟩⟩⟩⟩⟩⟩⟩, tyX6_ok, nmX6⟩
set_option maxRecDepth 20000 in
theorem cl_7 : ClOK 7 RX7 TX7 5 tyX7 := ⟨rfl, List.forall_mem_cons.mpr ⟨Ts_in (in_t1 _ (List.mem_of_getElem? (i := 91) rfl)) rfl, List.forall_mem_cons.mpr ⟨Ts_in (in_t1 _ (List.mem_of_getElem? (i := 93) rfl)) rfl, List.forall_mem_cons.mpr ⟨Ts_in (in_t1 _ (List.mem_of_getElem? (i := 95) rfl)) rfl, List.forall_mem_cons.mpr ⟨Ts_in (in_t1 _ (List.mem_of_getElem? (i := 97) rfl)) rfl, List.forall_mem_cons.mpr ⟨Ts_in (in_t1 _ (List.mem_of_getElem? (i := 99) rfl)) rfl, (fun _ h => absurd h List.not_mem_nil)⟩⟩⟩⟩⟩, tyX7_ok, nmX7⟩
set_option maxRecDepth 20000 in
theorem cl_8 : ClOK 8 RX8 TX8 1 tyX8 := ⟨rfl, List.forall_mem_cons.mpr ⟨Ts_in (in_t1 _ (List.mem_of_getElem? (i := 52) rfl)) rfl, (fun _ h => absurd h List.not_mem_nil)⟩, tyX8_ok, nmX8⟩
set_option maxRecDepth 20000 in
theorem cl_9 : ClOK 9 RX9 TX9 9 tyX9 := ⟨rfl, List.forall_mem_cons.mpr ⟨Ts_in (in_t1 _ (List.mem_of_getElem? (i := 120) rfl)) rfl, List.forall_mem_cons.mpr ⟨Ts_in (in_t1 _ (List.mem_of_getElem? (i := 122) rfl)) rfl, List.forall_mem_cons.mpr ⟨Ts_in (in_t1 _ (List.mem_of_getElem? (i := 124) rfl)) rfl, List.forall_mem_cons.mpr ⟨Ts_in (in_t1 _ (List.mem_of_getElem? (i := 126) rfl)) rfl, List.forall_mem_cons.mpr ⟨Ts_in (in_t1 _ (List.mem_of_getElem? (i := 128) rfl)) rfl, List.forall_mem_cons.mpr ⟨Ts_in (in_t1 _ (List.mem_of_getElem? (i := 130) rfl)) rfl, List.forall_mem_cons.mpr ⟨Ts_in (in_t1 _ (List.mem_of_getElem? (i := 132) rfl)) rfl, List.forall_mem_cons.mpr ⟨Ts_in (in_t1 _ (List.mem_of_getElem? (i := 134) rfl)) rfl, List.forall_mem_cons.mpr ⟨Ts_in (in_t1 _ (List.mem_of_getElem? (i := 136) rfl)) rfl, (fun _ h => absurd h List.not_mem_nil)⟩⟩⟩⟩⟩⟩⟩⟩⟩, tyX9_ok, nmX9⟩
set_option maxRecDepth 20000 in
theorem cl_10 : ClOK 10 RX10 TX10 9 tyX10 := ⟨rfl, List.forall_mem_cons.mpr ⟨Ts_in (in_t2 _ (List.mem_of_getElem? (i := 38) rfl)) rfl, List.forall_mem_cons.mpr ⟨Ts_in (in_t2 _ (List.mem_of_getElem? (i := 40) rfl)) rfl, List.forall_mem_cons.mpr ⟨Ts_in (in_t2 _ (List.mem_of_getElem? (i := 42) rfl)) rfl, List.forall_mem_cons.mpr ⟨Ts_in (in_t2 _ (List.mem_of_getElem? (i := 44) rfl)) rfl, List.forall_mem_cons.mpr ⟨Ts_in (in_t2 _ (List.mem_of_getElem? (i := 46) rfl)) rfl, List.forall_mem_cons.mpr ⟨Ts_in (in_t2 _ (List.mem_of_getElem? (i := 48) rfl)) rfl, List.forall_mem_cons.mpr ⟨Ts_in (in_t2 _ (List.mem_of_getElem? (i := 50) rfl)) rfl, List.forall_mem_cons.mpr ⟨Ts_in (in_t2 _ (List.mem_of_getElem? (i := 52) rfl)) rfl, List.forall_mem_cons.mpr ⟨Ts_in (in_t2 _ (List.mem_of_getElem? (i := 54) rfl)) rfl, (fun _ h => absurd h List.not_mem_nil)⟩⟩⟩⟩⟩⟩⟩⟩⟩, tyX10_ok, nmX10⟩
set_option maxRecDepth 20000 in
theorem cl_11 : ClOK 11 RX11 TX11 16 tyX11 := ⟨rfl, List.forall_mem_cons.mpr ⟨Ts_in (in_t2 _ (List.mem_of_getElem? (i := 155) rfl)) rfl, List.forall_mem_cons.mpr ⟨Ts_in (in_t2 _ (List.mem_of_getElem? (i := 157) rfl)) rfl, List.forall_mem_cons.mpr ⟨Ts_in (in_t2 _ (List.mem_of_getElem? (i := 159) rfl)) rfl, List.forall_mem_cons.mpr ⟨Ts_in (in_t2 _ (List.mem_of_getElem? (i := 161) rfl)) rfl, List.forall_mem_cons.mpr ⟨Ts_in (in_t2 _ (List.mem_of_getElem? (i := 163) rfl)) rfl, List.forall_mem_cons.mpr ⟨Ts_in (in_t2 _ (List.mem_of_getElem? (i := 165) rfl)) rfl, List.forall_mem_cons.mpr ⟨Ts_in (in_t2 _ (List.mem_of_getElem? (i := 167) rfl)) rfl, List.forall_mem_cons.mpr ⟨Ts_in (in_t2 _ (List.mem_of_getElem? (i := 169) rfl)) rfl, List.forall_mem_cons.mpr ⟨Ts_in (in_t2 _ (List.mem_of_getElem? (i := 171) rfl)) rfl, List.forall_mem_cons.mpr ⟨Ts_in (in_t2 _ (List.mem_of_getElem? (i := 173) rfl)) rfl, List.forall_mem_cons.mpr ⟨Ts_in (in_t2 _ (List.mem_of_getElem? (i := 175) rfl)) rfl, List.forall_mem_cons.mpr ⟨Ts_in (in_t2 _ (List.mem_of_getElem? (i := 177) rfl)) rfl, List.forall_mem_cons.mpr ⟨Ts_in (in_t2 _ (List.mem_of_getElem? (i := 179) rfl)) rfl, List.forall_mem_cons.mpr ⟨Ts_in (in_t2 _ (List.mem_of_getElem? (i := 181) rfl)) rfl, List.forall_mem_cons.mpr ⟨Ts_in (in_t2 _ (List.mem_of_getElem? (i := 183) rfl)) rfl, List.forall_mem_cons.mpr ⟨Ts_in (in_t2 _ (List.mem_of_getElem? (i := 185) rfl)) rfl, (fun _ h => absurd h List.not_mem_nil)⟩⟩⟩⟩⟩⟩⟩⟩⟩⟩⟩⟩⟩⟩⟩⟩, tyX11_ok, nmX11⟩
set_option maxRecDepth 20000 in
theorem cl_12 : ClOK 12 RX12 TX12 55 tyX12 := ⟨rfl, List.forall_mem_cons.mpr ⟨Ts_in (in_t6 _ (List.mem_of_getElem? (i := 188) rfl)) rfl, List.forall_mem_cons.mpr ⟨Ts_in (in_t6 _ (List.mem_of_getElem? (i := 190) rfl)) rfl, List.forall_mem_cons.mpr ⟨Ts_in (in_t6 _ (List.mem_of_getElem? (i := 192) rfl)) rfl, List.forall_mem_cons.mpr ⟨Ts_in (in_t6 _ (List.mem_of_getElem? (i := 194) rfl)) rfl, List.forall_mem_cons.mpr ⟨Ts_in (in_t6 _ (List.mem_of_getElem? (i := 196) rfl)) rfl, List.forall_mem_cons.mpr ⟨Ts_in (in_t6 _ (List.mem_of_getElem? (i := 198) rfl)) rfl, List.forall_mem_cons.mpr ⟨Ts_in (in_t6 _ (List.mem_of_getElem? (i := 200) rfl)) rfl, List.forall_mem_cons.mpr ⟨Ts_in (in_t6 _ (List.mem_of_getElem? (i := 202) rfl)) rfl, List.forall_mem_cons.mpr ⟨Ts_in (in_t6 _ (List.mem_of_getElem? (i := 204) rfl)) rfl, List.forall_mem_cons.mpr ⟨Ts_in (in_t6 _ (List.mem_of_getElem? (i := 206) rfl)) rfl, List.forall_mem_cons.mpr ⟨Ts_in (in_t6 _ (List.mem_of_getElem? (i := 208) rfl)) rfl, List.forall_mem_cons.mpr ⟨Ts_in (in_t6 _ (List.mem_of_getElem? (i := 210) rfl)) rfl, List.forall_mem_cons.mpr ⟨Ts_in (in_t6 _ (List.mem_of_getElem? (i := 212) rfl)) rfl, List.forall_mem_cons.mpr ⟨Ts_in (in_t6 _ (List.mem_of_getElem? (i := 214) rfl)) rfl, List.forall_mem_cons.mpr ⟨Ts_in (in_t6 _ (List.mem_of_getElem? (i := 216) rfl)) rfl, List.forall_mem_cons.mpr ⟨Ts_in (in_t6 _ (List.mem_of_getElem? (i := 218) rfl)) rfl, List.forall_mem_cons.mpr ⟨Ts_in (in_t6 _ (List.mem_of_getElem? (i := 220) rfl)) rfl, List.forall_mem_cons.mpr ⟨Ts_in (in_t6 _ (List.mem_of_getElem? (i := 222) rfl)) rfl, List.forall_mem_cons.mpr ⟨Ts_in (in_t6 _ (List.mem_of_getElem? (i := 224) rfl)) rfl, List.forall_mem_cons.mpr ⟨Ts_in (in_t6 _ (List.mem_of_getElem? (i := 226) rfl)) rfl, List.forall_mem_cons.mpr ⟨Ts_in (in_t6 _ (List.mem_of_getElem? (i := 228) rfl)) rfl, List.forall_mem_cons.mpr ⟨Ts_in (in_t6 _ (List.mem_of_getElem? (i := 230) rfl)) rfl, List.forall_mem_cons.mpr ⟨Ts_in (in_t6 _ (List.mem_of_getElem? (i := 232) rfl)) rfl, List.forall_mem_cons.mpr ⟨Ts_in (in_t6 _ (List.mem_of_getElem? (i := 234) rfl)) rfl, List.forall_mem_cons.mpr ⟨Ts_in (in_t6 _ (List.mem_of_getElem? (i := 236) rfl)) rfl, List.forall_mem_cons.mpr ⟨Ts_in (in_t6 _ (List.mem_of_getElem? (i := 238) rfl)) rfl, List.forall_mem_cons.mpr ⟨Ts_in (in_t7 _ (List.mem_of_getElem? (i := 0) rfl)) rfl, List.forall_mem_cons.mpr ⟨Ts_in (in_t7 _ (List.mem_of_getElem? (i := 2) rfl)) rfl, List.forall_mem_cons.mpr ⟨Ts_in (in_t7 _ (List.mem_of_getElem? (i := 4) rfl)) rfl, List.forall_mem_cons.mpr ⟨Ts_in (in_t7 _ (List.mem_of_getElem? (i := 6) rfl)) rfl, List.forall_mem_cons.mpr ⟨Ts_in (in_t7 _ (List.mem_of_getElem? (i := 8) rfl)) rfl, List.forall_mem_cons.mpr ⟨Ts_in (in_t7 _ (List.mem_of_getElem? (i := 10) rfl)) rfl, List.forall_mem_cons.mpr ⟨Ts_in (in_t7 _ (List.mem_of_getElem? (i := 12) rfl)) rfl, List.forall_mem_cons.mpr ⟨Ts_in (in_t7 _ (List.mem_of_getElem? (i := 14) rfl)) rfl, List.forall_mem_cons.mpr ⟨Ts_in (in_t7 _ (List.mem_of_getElem? (i := 16) rfl)) rfl, List.forall_mem_cons.mpr ⟨Ts_in (in_t7 _ (List.mem_of_getElem? (i := 18) rfl)) rfl, List.forall_mem_cons.mpr ⟨Ts_in (in_t7 _ (List.mem_of_getElem? (i := 20) rfl)) rfl, List.forall_mem_cons.mpr ⟨Ts_in (in_t7 _ (List.mem_of_getElem? (i := 22) rfl)) rfl, List.forall_mem_cons.mpr ⟨Ts_in (in_t7 _ (List.mem_of_getElem? (i := 24) rfl)) rfl, List.forall_mem_cons.mpr ⟨Ts_in (in_t7 _ (List.mem_of_getElem? (i := 26) rfl)) rfl, List.forall_mem_cons.mpr ⟨Ts_in (in_t7 _ (List.mem_of_getElem? (i := 28) rfl)) rfl, List.forall_mem_cons.mpr ⟨Ts_in (in_t7 _ (List.mem_of_getElem? (i := 30) rfl)) rfl, List.forall_mem_cons.mpr ⟨Ts_in (in_t7 _ (List.mem_of_getElem? (i := 32) rfl)) rfl, List.forall_mem_cons.mpr ⟨Ts_in (in_t7 _ (List.mem_of_getElem? (i := 34) rfl)) rfl, List.forall_mem_cons.mpr ⟨Ts_in (in_t7 _ (List.mem_of_getElem? (i := 36) rfl)) rfl, List.forall_mem_cons.mpr ⟨Ts_in (in_t7 _ (List.mem_of_getElem? (i := 38) rfl)) rfl, List.forall_mem_cons.mpr ⟨Ts_in (in_t7 _ (List.mem_of_getElem? (i := 40) rfl)) rfl, List.forall_mem_cons.mpr ⟨Ts_in (in_t7 _ (List.mem_of_getElem? (i := 42) rfl)) rfl, List.forall_mem_cons.mpr ⟨Ts_in (in_t7 _ (List.mem_of_getElem? (i := 44) rfl)) rfl, List.forall_mem_cons.mpr ⟨Ts_in (in_t7 _ (List.mem_of_getElem? (i := 46) rfl)) rfl, List.forall_mem_cons.mpr ⟨Ts_in (in_t7 _ (List.mem_of_getElem? (i := 48) rfl)) rfl, List.forall_mem_cons.mpr ⟨Ts_in (in_t7 _ (List.mem_of_getElem? (i := 50) rfl)) rfl, List.forall_mem_cons.mpr ⟨Ts_in (in_t7 _ (List.mem_of_getElem? (i := 52) rfl)) rfl, List.forall_mem_cons.mpr ⟨Ts_in (in_t7 _ (List.mem_of_getElem? (i := 54) rfl)) rfl, List.forall_mem_cons.mpr ⟨Ts_in (in_t7 _ (List.mem_of_getElem? (i := 56) rfl)) rfl, (fun _ h => absurd h List.not_mem_nil)⟩⟩⟩⟩⟩⟩⟩⟩⟩⟩⟩⟩⟩⟩⟩⟩⟩⟩⟩⟩⟩⟩⟩⟩⟩⟩⟩⟩⟩⟩⟩⟩⟩⟩⟩⟩⟩⟩⟩⟩⟩⟩⟩⟩⟩⟩⟩⟩⟩⟩⟩⟩⟩⟩⟩, tyX12_ok, nmX12⟩
theorem fl_0_9 : FL RX0 9 0 0 2 true := ⟨_, _, _, _, cl_0, by decide, Ts_in (in_t1 _ (List.mem_of_getElem? (i := 63) rfl)) rfl, by decide +kernel, rfl⟩
theorem fl_0_15 : FL RX0 15 0 1 2 true := ⟨_, _, _, _, cl_0, by decide, Ts_in (in_t1 _ (List.mem_of_getElem? (i := 64) rfl)) rfl, by decide +kernel, rfl⟩
theorem fl_0_18 : FL RX0 18 0 2 2 true := ⟨_, _, _, _, cl_0, by decide, Ts_in (in_t1 _ (List.mem_of_getElem? (i := 65) rfl)) rfl, by decide +kernel, rfl⟩
theorem fl_0_22 : FL RX0 22 0 3 0 false := ⟨_, _, _, _, cl_0, by decide, Ts_in (in_t1 _ (List.mem_of_getElem? (i := 66) rfl)) rfl, by decide +kernel, rfl⟩
theorem fl_0_26 : FL RX0 26 0 4 0 false := ⟨_, _, _, _, cl_0, by decide, Ts_in (in_t1 _ (List.mem_of_getElem? (i := 67) rfl)) rfl, by decide +kernel, rfl⟩
theorem fl_0_48 : FL RX0 48 8 0 2 true := ⟨_, _, _, _, cl_8, by decide, Ts_in (in_t1 _ (List.mem_of_getElem? (i := 49) rfl)) rfl, by decide +kernel, rfl⟩
theorem fl_1_9 : FL RX1 9 1 0 2 true := ⟨_, _, _, _, cl_1, by decide, Ts_in (in_t2 _ (List.mem_of_getElem? (i := 124) rfl)) rfl, by decide +kernel, rfl⟩
theorem fl_1_18 : FL RX1 18 1 2 2 true := ⟨_, _, _, _, cl_1, by decide, Ts_in (in_t2 _ (List.mem_of_getElem? (i := 126) rfl)) rfl, by decide +kernel, rfl⟩
theorem fl_1_26 : FL RX1 26 1 1 0 false := ⟨_, _, _, _, cl_1, by decide, Ts_in (in_t2 _ (List.mem_of_getElem? (i := 125) rfl)) rfl, by decide +kernel, rfl⟩
theorem fl_1_30 : FL RX1 30 1 3 0 false := ⟨_, _, _, _, cl_1, by decide, Ts_in (in_t2 _ (List.mem_of_getElem? (i := 128) rfl)) rfl, by decide +kernel, rfl⟩
theorem fl_1_37 : FL RX1 37 8 0 2 true := ⟨_, _, _, _, cl_8, by decide, Ts_in (in_t1 _ (List.mem_of_getElem? (i := 48) rfl)) rfl, by decide +kernel, rfl⟩
theorem fl_1_82 : FL RX1 82 5 2 1 false := ⟨_, _, _, _, cl_5, by decide, Ts_in (in_t1 _ (List.mem_of_getElem? (i := 221) rfl)) rfl, by decide +kernel, rfl⟩
theorem fl_1_94 : FL RX1 94 5 3 0 false := ⟨_, _, _, _, cl_5, by decide, Ts_in (in_t1 _ (List.mem_of_getElem? (i := 224) rfl)) rfl, by decide +kernel, rfl⟩
theorem fl_2_9 : FL RX2 9 2 0 2 true := ⟨_, _, _, _, cl_2, by decide, Ts_in (in_t2 _ (List.mem_of_getElem? (i := 89) rfl)) rfl, by decide +kernel, rfl⟩
theorem fl_2_15 : FL RX2 15 2 1 2 true := ⟨_, _, _, _, cl_2, by decide, Ts_in (in_t2 _ (List.mem_of_getElem? (i := 90) rfl)) rfl, by decide +kernel, rfl⟩
theorem fl_2_19 : FL RX2 19 2 2 2 true := ⟨_, _, _, _, cl_2, by decide, Ts_in (in_t2 _ (List.mem_of_getElem? (i := 91) rfl)) rfl, by decide +kernel, rfl⟩
theorem fl_2_23 : FL RX2 23 7 0 2 true := ⟨_, _, _, _, cl_7, by decide, Ts_in (in_t1 _ (List.mem_of_getElem? (i := 82) rfl)) rfl, by decide +kernel, rfl⟩
theorem fl_2_29 : FL RX2 29 2 3 0 false := ⟨_, _, _, _, cl_2, by decide, Ts_in (in_t2 _ (List.mem_of_getElem? (i := 92) rfl)) rfl, by decide +kernel, rfl⟩
theorem fl_2_33 : FL RX2 33 2 4 0 false := ⟨_, _, _, _, cl_2, by decide, Ts_in (in_t2 _ (List.mem_of_getElem? (i := 94) rfl)) rfl, by decide +kernel, rfl⟩
theorem fl_2_92 : FL RX2 92 2 5 0 false := ⟨_, _, _, _, cl_2, by decide, Ts_in (in_t2 _ (List.mem_of_getElem? (i := 96) rfl)) rfl, by decide +kernel, rfl⟩
theorem fl_2_95 : FL RX2 95 2 6 0 false := ⟨_, _, _, _, cl_2, by decide, Ts_in (in_t2 _ (List.mem_of_getElem? (i := 98) rfl)) rfl, by decide +kernel, rfl⟩
theorem fl_3_9 : FL RX3 9 3 0 2 true := ⟨_, _, _, _, cl_3, by decide, Ts_in (in_t2 _ (List.mem_of_getElem? (i := 65) rfl)) rfl, by decide +kernel, rfl⟩
theorem fl_3_18 : FL RX3 18 3 1 2 true := ⟨_, _, _, _, cl_3, by decide, Ts_in (in_t2 _ (List.mem_of_getElem? (i := 66) rfl)) rfl, by decide +kernel, rfl⟩
theorem fl_3_22 : FL RX3 22 3 2 2 true := ⟨_, _, _, _, cl_3, by decide, Ts_in (in_t2 _ (List.mem_of_getElem? (i := 67) rfl)) rfl, by decide +kernel, rfl⟩
theorem fl_3_43 : FL RX3 43 3 3 0 false := ⟨_, _, _, _, cl_3, by decide, Ts_in (in_t2 _ (List.mem_of_getElem? (i := 68) rfl)) rfl, by decide +kernel, rfl⟩
theorem fl_3_47 : FL RX3 47 3 4 0 false := ⟨_, _, _, _, cl_3, by decide, Ts_in (in_t2 _ (List.mem_of_getElem? (i := 70) rfl)) rfl, by decide +kernel, rfl⟩
theorem fl_3_56 : FL RX3 56 6 13 0 false := ⟨_, _, _, _, cl_6, by decide, Ts_in (in_t1 _ (List.mem_of_getElem? (i := 180) rfl)) rfl, by decide +kernel, rfl⟩
theorem fl_3_59 : FL RX3 59 6 11 0 false := ⟨_, _, _, _, cl_6, by decide, Ts_in (in_t1 _ (List.mem_of_getElem? (i := 174) rfl)) rfl, by decide +kernel, rfl⟩
theorem fl_3_66 : FL RX3 66 6 12 0 false := ⟨_, _, _, _, cl_6, by decide, Ts_in (in_t1 _ (List.mem_of_getElem? (i := 178) rfl)) rfl, by decide +kernel, rfl⟩
theorem fl_3_80 : FL RX3 80 6 6 2 true := ⟨_, _, _, _, cl_6, by decide, Ts_in (in_t1 _ (List.mem_of_getElem? (i := 165) rfl)) rfl, by decide +kernel, rfl⟩
theorem fl_3_83 : FL RX3 83 6 2 2 true := ⟨_, _, _, _, cl_6, by decide, Ts_in (in_t1 _ (List.mem_of_getElem? (i := 155) rfl)) rfl, by decide +kernel, rfl⟩
theorem fl_3_86 : FL RX3 86 6 7 2 true := ⟨_, _, _, _, cl_6, by decide, Ts_in (in_t1 _ (List.mem_of_getElem? (i := 167) rfl)) rfl, by decide +kernel, rfl⟩
theorem fl_3_89 : FL RX3 89 6 1 2 true := ⟨_, _, _, _, cl_6, by decide, Ts_in (in_t1 _ (List.mem_of_getElem? (i := 151) rfl)) rfl, by decide +kernel, rfl⟩
theorem fl_4_9 : FL RX4 9 4 0 2 true := ⟨_, _, _, _, cl_4, by decide, Ts_in (in_t2 _ (List.mem_of_getElem? (i := 3) rfl)) rfl, by decide +kernel, rfl⟩
theorem fl_4_18 : FL RX4 18 4 1 2 true := ⟨_, _, _, _, cl_4, by decide, Ts_in (in_t2 _ (List.mem_of_getElem? (i := 4) rfl)) rfl, by decide +kernel, rfl⟩
theorem fl_4_26 : FL RX4 26 8 0 2 true := ⟨_, _, _, _, cl_8, by decide, Ts_in (in_t1 _ (List.mem_of_getElem? (i := 47) rfl)) rfl, by decide +kernel, rfl⟩
theorem fl_4_43 : FL RX4 43 4 2 0 false := ⟨_, _, _, _, cl_4, by decide, Ts_in (in_t2 _ (List.mem_of_getElem? (i := 5) rfl)) rfl, by decide +kernel, rfl⟩
theorem fl_4_47 : FL RX4 47 4 3 0 false := ⟨_, _, _, _, cl_4, by decide, Ts_in (in_t2 _ (List.mem_of_getElem? (i := 7) rfl)) rfl, by decide +kernel, rfl⟩
theorem fl_5_9 : FL RX5 9 5 0 2 true := ⟨_, _, _, _, cl_5, by decide, Ts_in (in_t1 _ (List.mem_of_getElem? (i := 217) rfl)) rfl, by decide +kernel, rfl⟩
theorem fl_5_15 : FL RX5 15 5 1 2 true := ⟨_, _, _, _, cl_5, by decide, Ts_in (in_t1 _ (List.mem_of_getElem? (i := 218) rfl)) rfl, by decide +kernel, rfl⟩
theorem fl_5_19 : FL RX5 19 5 3 0 false := ⟨_, _, _, _, cl_5, by decide, Ts_in (in_t1 _ (List.mem_of_getElem? (i := 223) rfl)) rfl, by decide +kernel, rfl⟩
theorem fl_5_33 : FL RX5 33 5 2 1 false := ⟨_, _, _, _, cl_5, by decide, Ts_in (in_t1 _ (List.mem_of_getElem? (i := 220) rfl)) rfl, by decide +kernel, rfl⟩
theorem fl_5_37 : FL RX5 37 6 11 0 false := ⟨_, _, _, _, cl_6, by decide, Ts_in (in_t1 _ (List.mem_of_getElem? (i := 172) rfl)) rfl, by decide +kernel, rfl⟩
theorem fl_5_40 : FL RX5 40 6 12 0 false := ⟨_, _, _, _, cl_6, by decide, Ts_in (in_t1 _ (List.mem_of_getElem? (i := 177) rfl)) rfl, by decide +kernel, rfl⟩
theorem fl_5_51 : FL RX5 51 6 4 2 true := ⟨_, _, _, _, cl_6, by decide, Ts_in (in_t1 _ (List.mem_of_getElem? (i := 160) rfl)) rfl, by decide +kernel, rfl⟩
theorem fl_5_58 : FL RX5 58 6 1 2 true := ⟨_, _, _, _, cl_6, by decide, Ts_in (in_t1 _ (List.mem_of_getElem? (i := 150) rfl)) rfl, by decide +kernel, rfl⟩
theorem fl_5_61 : FL RX5 61 6 2 2 true := ⟨_, _, _, _, cl_6, by decide, Ts_in (in_t1 _ (List.mem_of_getElem? (i := 153) rfl)) rfl, by decide +kernel, rfl⟩
theorem fl_5_64 : FL RX5 64 6 3 2 true := ⟨_, _, _, _, cl_6, by decide, Ts_in (in_t1 _ (List.mem_of_getElem? (i := 157) rfl)) rfl, by decide +kernel, rfl⟩
theorem fl_5_67 : FL RX5 67 6 0 2 true := ⟨_, _, _, _, cl_6, by decide, Ts_in (in_t1 _ (List.mem_of_getElem? (i := 146) rfl)) rfl, by decide +kernel, rfl⟩
theorem fl_6_9 : FL RX6 9 6 0 2 true := ⟨_, _, _, _, cl_6, by decide, Ts_in (in_t1 _ (List.mem_of_getElem? (i := 145) rfl)) rfl, by decide +kernel, rfl⟩
theorem fl_6_15 : FL RX6 15 6 1 2 true := ⟨_, _, _, _, cl_6, by decide, Ts_in (in_t1 _ (List.mem_of_getElem? (i := 148) rfl)) rfl, by decide +kernel, rfl⟩
theorem fl_6_18 : FL RX6 18 6 2 2 true := ⟨_, _, _, _, cl_6, by decide, Ts_in (in_t1 _ (List.mem_of_getElem? (i := 152) rfl)) rfl, by decide +kernel, rfl⟩
theorem fl_6_21 : FL RX6 21 6 3 2 true := ⟨_, _, _, _, cl_6, by decide, Ts_in (in_t1 _ (List.mem_of_getElem? (i := 156) rfl)) rfl, by decide +kernel, rfl⟩
theorem fl_6_24 : FL RX6 24 6 4 2 true := ⟨_, _, _, _, cl_6, by decide, Ts_in (in_t1 _ (List.mem_of_getElem? (i := 159) rfl)) rfl, by decide +kernel, rfl⟩
theorem fl_6_27 : FL RX6 27 6 5 2 true := ⟨_, _, _, _, cl_6, by decide, Ts_in (in_t1 _ (List.mem_of_getElem? (i := 162) rfl)) rfl, by decide +kernel, rfl⟩
theorem fl_6_30 : FL RX6 30 6 6 2 true := ⟨_, _, _, _, cl_6, by decide, Ts_in (in_t1 _ (List.mem_of_getElem? (i := 164) rfl)) rfl, by decide +kernel, rfl⟩
theorem fl_6_33 : FL RX6 33 6 7 2 true := ⟨_, _, _, _, cl_6, by decide, Ts_in (in_t1 _ (List.mem_of_getElem? (i := 166) rfl)) rfl, by decide +kernel, rfl⟩
theorem fl_6_36 : FL RX6 36 6 8 2 true := ⟨_, _, _, _, cl_6, by decide, Ts_in (in_t1 _ (List.mem_of_getElem? (i := 168) rfl)) rfl, by decide +kernel, rfl⟩
theorem fl_6_39 : FL RX6 39 6 9 2 true := ⟨_, _, _, _, cl_6, by decide, Ts_in (in_t1 _ (List.mem_of_getElem? (i := 169) rfl)) rfl, by decide +kernel, rfl⟩
theorem fl_6_42 : FL RX6 42 6 10 2 true := ⟨_, _, _, _, cl_6, by decide, Ts_in (in_t1 _ (List.mem_of_getElem? (i := 170) rfl)) rfl, by decide +kernel, rfl⟩
theorem fl_6_45 : FL RX6 45 6 13 0 false := ⟨_, _, _, _, cl_6, by decide, Ts_in (in_t1 _ (List.mem_of_getElem? (i := 179) rfl)) rfl, by decide +kernel, rfl⟩
theorem fl_6_61 : FL RX6 61 6 11 0 false := ⟨_, _, _, _, cl_6, by decide, Ts_in (in_t1 _ (List.mem_of_getElem? (i := 171) rfl)) rfl, by decide +kernel, rfl⟩
theorem fl_6_66 : FL RX6 66 6 12 0 false := ⟨_, _, _, _, cl_6, by decide, Ts_in (in_t1 _ (List.mem_of_getElem? (i := 176) rfl)) rfl, by decide +kernel, rfl⟩
theorem fl_7_12 : FL RX7 12 7 0 2 true := ⟨_, _, _, _, cl_7, by decide, Ts_in (in_t1 _ (List.mem_of_getElem? (i := 81) rfl)) rfl, by decide +kernel, rfl⟩
theorem fl_7_21 : FL RX7 21 7 1 2 true := ⟨_, _, _, _, cl_7, by decide, Ts_in (in_t1 _ (List.mem_of_getElem? (i := 84) rfl)) rfl, by decide +kernel, rfl⟩
theorem fl_7_25 : FL RX7 25 7 2 2 true := ⟨_, _, _, _, cl_7, by decide, Ts_in (in_t1 _ (List.mem_of_getElem? (i := 86) rfl)) rfl, by decide +kernel, rfl⟩
theorem fl_7_29 : FL RX7 29 7 3 0 false := ⟨_, _, _, _, cl_7, by decide, Ts_in (in_t1 _ (List.mem_of_getElem? (i := 87) rfl)) rfl, by decide +kernel, rfl⟩
theorem fl_7_33 : FL RX7 33 7 4 2 true := ⟨_, _, _, _, cl_7, by decide, Ts_in (in_t1 _ (List.mem_of_getElem? (i := 89) rfl)) rfl, by decide +kernel, rfl⟩
theorem fl_8_9 : FL RX8 9 8 0 2 true := ⟨_, _, _, _, cl_8, by decide, Ts_in (in_t1 _ (List.mem_of_getElem? (i := 46) rfl)) rfl, by decide +kernel, rfl⟩
theorem fl_9_9 : FL RX9 9 9 0 2 false := ⟨_, _, _, _, cl_9, by decide, Ts_in (in_t1 _ (List.mem_of_getElem? (i := 110) rfl)) rfl, by decide +kernel, rfl⟩
theorem fl_9_15 : FL RX9 15 9 8 0 false := ⟨_, _, _, _, cl_9, by decide, Ts_in (in_t1 _ (List.mem_of_getElem? (i := 118) rfl)) rfl, by decide +kernel, rfl⟩
theorem fl_9_25 : FL RX9 25 9 1 0 false := ⟨_, _, _, _, cl_9, by decide, Ts_in (in_t1 _ (List.mem_of_getElem? (i := 111) rfl)) rfl, by decide +kernel, rfl⟩
theorem fl_9_28 : FL RX9 28 9 2 2 false := ⟨_, _, _, _, cl_9, by decide, Ts_in (in_t1 _ (List.mem_of_getElem? (i := 112) rfl)) rfl, by decide +kernel, rfl⟩
theorem fl_9_37 : FL RX9 37 9 3 1 false := ⟨_, _, _, _, cl_9, by decide, Ts_in (in_t1 _ (List.mem_of_getElem? (i := 113) rfl)) rfl, by decide +kernel, rfl⟩
theorem fl_9_41 : FL RX9 41 9 7 0 false := ⟨_, _, _, _, cl_9, by decide, Ts_in (in_t1 _ (List.mem_of_getElem? (i := 117) rfl)) rfl, by decide +kernel, rfl⟩
theorem fl_9_44 : FL RX9 44 9 6 0 false := ⟨_, _, _, _, cl_9, by decide, Ts_in (in_t1 _ (List.mem_of_getElem? (i := 116) rfl)) rfl, by decide +kernel, rfl⟩
theorem fl_9_50 : FL RX9 50 9 4 0 false := ⟨_, _, _, _, cl_9, by decide, Ts_in (in_t1 _ (List.mem_of_getElem? (i := 114) rfl)) rfl, by decide +kernel, rfl⟩
theorem fl_9_56 : FL RX9 56 9 5 0 false := ⟨_, _, _, _, cl_9, by decide, Ts_in (in_t1 _ (List.mem_of_getElem? (i := 115) rfl)) rfl, by decide +kernel, rfl⟩
theorem fl_9_135 : FL RX9 135 8 0 2 true := ⟨_, _, _, _, cl_8, by decide, Ts_in (in_t1 _ (List.mem_of_getElem? (i := 51) rfl)) rfl, by decide +kernel, rfl⟩
theorem fl_10_9 : FL RX10 9 10 0 2 true := ⟨_, _, _, _, cl_10, by decide, Ts_in (in_t2 _ (List.mem_of_getElem? (i := 24) rfl)) rfl, by decide +kernel, rfl⟩
theorem fl_10_15 : FL RX10 15 10 1 2 true := ⟨_, _, _, _, cl_10, by decide, Ts_in (in_t2 _ (List.mem_of_getElem? (i := 25) rfl)) rfl, by decide +kernel, rfl⟩
theorem fl_10_19 : FL RX10 19 10 2 2 true := ⟨_, _, _, _, cl_10, by decide, Ts_in (in_t2 _ (List.mem_of_getElem? (i := 26) rfl)) rfl, by decide +kernel, rfl⟩
theorem fl_10_22 : FL RX10 22 10 4 2 true := ⟨_, _, _, _, cl_10, by decide, Ts_in (in_t2 _ (List.mem_of_getElem? (i := 28) rfl)) rfl, by decide +kernel, rfl⟩
theorem fl_10_31 : FL RX10 31 6 12 0 false := ⟨_, _, _, _, cl_6, by decide, Ts_in (in_t1 _ (List.mem_of_getElem? (i := 175) rfl)) rfl, by decide +kernel, rfl⟩
theorem fl_10_35 : FL RX10 35 6 1 2 true := ⟨_, _, _, _, cl_6, by decide, Ts_in (in_t1 _ (List.mem_of_getElem? (i := 149) rfl)) rfl, by decide +kernel, rfl⟩
theorem fl_10_39 : FL RX10 39 10 5 0 false := ⟨_, _, _, _, cl_10, by decide, Ts_in (in_t2 _ (List.mem_of_getElem? (i := 30) rfl)) rfl, by decide +kernel, rfl⟩
theorem fl_10_42 : FL RX10 42 10 6 0 false := ⟨_, _, _, _, cl_10, by decide, Ts_in (in_t2 _ (List.mem_of_getElem? (i := 32) rfl)) rfl, by decide +kernel, rfl⟩
theorem fl_10_45 : FL RX10 45 6 11 0 false := ⟨_, _, _, _, cl_6, by decide, Ts_in (in_t1 _ (List.mem_of_getElem? (i := 173) rfl)) rfl, by decide +kernel, rfl⟩
theorem fl_10_52 : FL RX10 52 10 3 0 false := ⟨_, _, _, _, cl_10, by decide, Ts_in (in_t2 _ (List.mem_of_getElem? (i := 27) rfl)) rfl, by decide +kernel, rfl⟩
theorem fl_10_55 : FL RX10 55 6 2 2 true := ⟨_, _, _, _, cl_6, by decide, Ts_in (in_t1 _ (List.mem_of_getElem? (i := 154) rfl)) rfl, by decide +kernel, rfl⟩
theorem fl_10_58 : FL RX10 58 10 7 0 false := ⟨_, _, _, _, cl_10, by decide, Ts_in (in_t2 _ (List.mem_of_getElem? (i := 34) rfl)) rfl, by decide +kernel, rfl⟩
theorem fl_10_61 : FL RX10 61 10 8 0 false := ⟨_, _, _, _, cl_10, by decide, Ts_in (in_t2 _ (List.mem_of_getElem? (i := 36) rfl)) rfl, by decide +kernel, rfl⟩
theorem fl_10_74 : FL RX10 74 6 3 2 true := ⟨_, _, _, _, cl_6, by decide, Ts_in (in_t1 _ (List.mem_of_getElem? (i := 158) rfl)) rfl, by decide +kernel, rfl⟩
theorem fl_10_77 : FL RX10 77 6 5 2 true := ⟨_, _, _, _, cl_6, by decide, Ts_in (in_t1 _ (List.mem_of_getElem? (i := 163) rfl)) rfl, by decide +kernel, rfl⟩
theorem fl_10_80 : FL RX10 80 6 0 2 true := ⟨_, _, _, _, cl_6, by decide, Ts_in (in_t1 _ (List.mem_of_getElem? (i := 147) rfl)) rfl, by decide +kernel, rfl⟩
theorem fl_10_91 : FL RX10 91 6 4 2 true := ⟨_, _, _, _, cl_6, by decide, Ts_in (in_t1 _ (List.mem_of_getElem? (i := 161) rfl)) rfl, by decide +kernel, rfl⟩
theorem fl_11_9 : FL RX11 9 11 0 2 true := ⟨_, _, _, _, cl_11, by decide, Ts_in (in_t2 _ (List.mem_of_getElem? (i := 139) rfl)) rfl, by decide +kernel, rfl⟩
theorem fl_11_13 : FL RX11 13 11 1 0 false := ⟨_, _, _, _, cl_11, by decide, Ts_in (in_t2 _ (List.mem_of_getElem? (i := 140) rfl)) rfl, by decide +kernel, rfl⟩
theorem fl_11_17 : FL RX11 17 11 2 0 false := ⟨_, _, _, _, cl_11, by decide, Ts_in (in_t2 _ (List.mem_of_getElem? (i := 141) rfl)) rfl, by decide +kernel, rfl⟩
theorem fl_11_23 : FL RX11 23 11 3 2 true := ⟨_, _, _, _, cl_11, by decide, Ts_in (in_t2 _ (List.mem_of_getElem? (i := 142) rfl)) rfl, by decide +kernel, rfl⟩
theorem fl_11_27 : FL RX11 27 11 4 2 true := ⟨_, _, _, _, cl_11, by decide, Ts_in (in_t2 _ (List.mem_of_getElem? (i := 143) rfl)) rfl, by decide +kernel, rfl⟩
theorem fl_11_30 : FL RX11 30 11 5 1 false := ⟨_, _, _, _, cl_11, by decide, Ts_in (in_t2 _ (List.mem_of_getElem? (i := 144) rfl)) rfl, by decide +kernel, rfl⟩
theorem fl_11_37 : FL RX11 37 11 6 2 true := ⟨_, _, _, _, cl_11, by decide, Ts_in (in_t2 _ (List.mem_of_getElem? (i := 145) rfl)) rfl, by decide +kernel, rfl⟩
theorem fl_11_44 : FL RX11 44 11 7 2 true := ⟨_, _, _, _, cl_11, by decide, Ts_in (in_t2 _ (List.mem_of_getElem? (i := 146) rfl)) rfl, by decide +kernel, rfl⟩
theorem fl_11_51 : FL RX11 51 11 8 2 true := ⟨_, _, _, _, cl_11, by decide, Ts_in (in_t2 _ (List.mem_of_getElem? (i := 147) rfl)) rfl, by decide +kernel, rfl⟩
theorem fl_11_60 : FL RX11 60 11 9 2 true := ⟨_, _, _, _, cl_11, by decide, Ts_in (in_t2 _ (List.mem_of_getElem? (i := 148) rfl)) rfl, by decide +kernel, rfl⟩
theorem fl_11_64 : FL RX11 64 11 10 1 false := ⟨_, _, _, _, cl_11, by decide, Ts_in (in_t2 _ (List.mem_of_getElem? (i := 149) rfl)) rfl, by decide +kernel, rfl⟩
theorem fl_11_70 : FL RX11 70 11 11 2 true := ⟨_, _, _, _, cl_11, by decide, Ts_in (in_t2 _ (List.mem_of_getElem? (i := 150) rfl)) rfl, by decide +kernel, rfl⟩
theorem fl_11_77 : FL RX11 77 11 12 2 true := ⟨_, _, _, _, cl_11, by decide, Ts_in (in_t2 _ (List.mem_of_getElem? (i := 151) rfl)) rfl, by decide +kernel, rfl⟩
theorem fl_11_84 : FL RX11 84 11 13 2 true := ⟨_, _, _, _, cl_11, by decide, Ts_in (in_t2 _ (List.mem_of_getElem? (i := 152) rfl)) rfl, by decide +kernel, rfl⟩
theorem fl_11_91 : FL RX11 91 11 14 2 true := ⟨_, _, _, _, cl_11, by decide, Ts_in (in_t2 _ (List.mem_of_getElem? (i := 153) rfl)) rfl, by decide +kernel, rfl⟩
theorem fl_11_100 : FL RX11 100 11 15 2 true := ⟨_, _, _, _, cl_11, by decide, Ts_in (in_t2 _ (List.mem_of_getElem? (i := 154) rfl)) rfl, by decide +kernel, rfl⟩
theorem fl_11_115 : FL RX11 115 9 8 0 false := ⟨_, _, _, _, cl_9, by decide, Ts_in (in_t1 _ (List.mem_of_getElem? (i := 119) rfl)) rfl, by decide +kernel, rfl⟩
theorem fl_11_118 : FL RX11 118 7 4 2 true := ⟨_, _, _, _, cl_7, by decide, Ts_in (in_t1 _ (List.mem_of_getElem? (i := 90) rfl)) rfl, by decide +kernel, rfl⟩
theorem fl_11_122 : FL RX11 122 7 0 2 true := ⟨_, _, _, _, cl_7, by decide, Ts_in (in_t1 _ (List.mem_of_getElem? (i := 83) rfl)) rfl, by decide +kernel, rfl⟩
theorem fl_11_129 : FL RX11 129 7 1 2 true := ⟨_, _, _, _, cl_7, by decide, Ts_in (in_t1 _ (List.mem_of_getElem? (i := 85) rfl)) rfl, by decide +kernel, rfl⟩
theorem fl_11_138 : FL RX11 138 7 3 0 false := ⟨_, _, _, _, cl_7, by decide, Ts_in (in_t1 _ (List.mem_of_getElem? (i := 88) rfl)) rfl, by decide +kernel, rfl⟩
theorem fl_11_158 : FL RX11 158 4 2 0 false := ⟨_, _, _, _, cl_4, by decide, Ts_in (in_t2 _ (List.mem_of_getElem? (i := 6) rfl)) rfl, by decide +kernel, rfl⟩
theorem fl_11_161 : FL RX11 161 4 3 0 false := ⟨_, _, _, _, cl_4, by decide, Ts_in (in_t2 _ (List.mem_of_getElem? (i := 8) rfl)) rfl, by decide +kernel, rfl⟩
theorem fl_11_170 : FL RX11 170 3 3 0 false := ⟨_, _, _, _, cl_3, by decide, Ts_in (in_t2 _ (List.mem_of_getElem? (i := 69) rfl)) rfl, by decide +kernel, rfl⟩
theorem fl_11_173 : FL RX11 173 3 4 0 false := ⟨_, _, _, _, cl_3, by decide, Ts_in (in_t2 _ (List.mem_of_getElem? (i := 71) rfl)) rfl, by decide +kernel, rfl⟩
theorem fl_11_179 : FL RX11 179 10 8 0 false := ⟨_, _, _, _, cl_10, by decide, Ts_in (in_t2 _ (List.mem_of_getElem? (i := 37) rfl)) rfl, by decide +kernel, rfl⟩
theorem fl_11_192 : FL RX11 192 8 0 2 true := ⟨_, _, _, _, cl_8, by decide, Ts_in (in_t1 _ (List.mem_of_getElem? (i := 50) rfl)) rfl, by decide +kernel, rfl⟩
theorem fl_11_231 : FL RX11 231 0 4 0 false := ⟨_, _, _, _, cl_0, by decide, Ts_in (in_t1 _ (List.mem_of_getElem? (i := 68) rfl)) rfl, by decide +kernel, rfl⟩
theorem fl_11_250 : FL RX11 250 5 2 1 false := ⟨_, _, _, _, cl_5, by decide, Ts_in (in_t1 _ (List.mem_of_getElem? (i := 222) rfl)) rfl, by decide +kernel, rfl⟩
theorem fl_11_274 : FL RX11 274 10 5 0 false := ⟨_, _, _, _, cl_10, by decide, Ts_in (in_t2 _ (List.mem_of_getElem? (i := 31) rfl)) rfl, by decide +kernel, rfl⟩
theorem fl_11_276 : FL RX11 276 10 6 0 false := ⟨_, _, _, _, cl_10, by decide, Ts_in (in_t2 _ (List.mem_of_getElem? (i := 33) rfl)) rfl, by decide +kernel, rfl⟩
theorem fl_11_339 : FL RX11 339 5 1 2 true := ⟨_, _, _, _, cl_5, by decide, Ts_in (in_t1 _ (List.mem_of_getElem? (i := 219) rfl)) rfl, by decide +kernel, rfl⟩
theorem fl_11_348 : FL RX11 348 6 13 0 false := ⟨_, _, _, _, cl_6, by decide, Ts_in (in_t1 _ (List.mem_of_getElem? (i := 181) rfl)) rfl, by decide +kernel, rfl⟩
theorem fl_11_351 : FL RX11 351 10 7 0 false := ⟨_, _, _, _, cl_10, by decide, Ts_in (in_t2 _ (List.mem_of_getElem? (i := 35) rfl)) rfl, by decide +kernel, rfl⟩
theorem fl_11_354 : FL RX11 354 10 4 2 true := ⟨_, _, _, _, cl_10, by decide, Ts_in (in_t2 _ (List.mem_of_getElem? (i := 29) rfl)) rfl, by decide +kernel, rfl⟩
theorem fl_11_378 : FL RX11 378 5 3 0 false := ⟨_, _, _, _, cl_5, by decide, Ts_in (in_t1 _ (List.mem_of_getElem? (i := 225) rfl)) rfl, by decide +kernel, rfl⟩
theorem fl_11_398 : FL RX11 398 2 3 0 false := ⟨_, _, _, _, cl_2, by decide, Ts_in (in_t2 _ (List.mem_of_getElem? (i := 93) rfl)) rfl, by decide +kernel, rfl⟩
theorem fl_11_401 : FL RX11 401 2 4 0 false := ⟨_, _, _, _, cl_2, by decide, Ts_in (in_t2 _ (List.mem_of_getElem? (i := 95) rfl)) rfl, by decide +kernel, rfl⟩
theorem fl_11_408 : FL RX11 408 2 5 0 false := ⟨_, _, _, _, cl_2, by decide, Ts_in (in_t2 _ (List.mem_of_getElem? (i := 97) rfl)) rfl, by decide +kernel, rfl⟩
theorem fl_11_411 : FL RX11 411 2 6 0 false := ⟨_, _, _, _, cl_2, by decide, Ts_in (in_t2 _ (List.mem_of_getElem? (i := 99) rfl)) rfl, by decide +kernel, rfl⟩
theorem fl_11_418 : FL RX11 418 1 2 2 true := ⟨_, _, _, _, cl_1, by decide, Ts_in (in_t2 _ (List.mem_of_getElem? (i := 127) rfl)) rfl, by decide +kernel, rfl⟩
theorem fl_11_421 : FL RX11 421 1 3 0 false := ⟨_, _, _, _, cl_1, by decide, Ts_in (in_t2 _ (List.mem_of_getElem? (i := 129) rfl)) rfl, by decide +kernel, rfl⟩
theorem fl_12_9 : FL RX12 9 12 0 2 true := ⟨_, _, _, _, cl_12, by decide, Ts_in (in_t6 _ (List.mem_of_getElem? (i := 133) rfl)) rfl, by decide +kernel, rfl⟩
theorem fl_12_13 : FL RX12 13 12 1 2 true := ⟨_, _, _, _, cl_12, by decide, Ts_in (in_t6 _ (List.mem_of_getElem? (i := 134) rfl)) rfl, by decide +kernel, rfl⟩
theorem fl_12_16 : FL RX12 16 12 2 2 true := ⟨_, _, _, _, cl_12, by decide, Ts_in (in_t6 _ (List.mem_of_getElem? (i := 135) rfl)) rfl, by decide +kernel, rfl⟩
theorem fl_12_19 : FL RX12 19 12 3 2 true := ⟨_, _, _, _, cl_12, by decide, Ts_in (in_t6 _ (List.mem_of_getElem? (i := 136) rfl)) rfl, by decide +kernel, rfl⟩
theorem fl_12_22 : FL RX12 22 12 15 2 true := ⟨_, _, _, _, cl_12, by decide, Ts_in (in_t6 _ (List.mem_of_getElem? (i := 148) rfl)) rfl, by decide +kernel, rfl⟩
theorem fl_12_25 : FL RX12 25 12 17 0 false := ⟨_, _, _, _, cl_12, by decide, Ts_in (in_t6 _ (List.mem_of_getElem? (i := 150) rfl)) rfl, by decide +kernel, rfl⟩
theorem fl_12_29 : FL RX12 29 12 18 2 true := ⟨_, _, _, _, cl_12, by decide, Ts_in (in_t6 _ (List.mem_of_getElem? (i := 151) rfl)) rfl, by decide +kernel, rfl⟩
theorem fl_12_32 : FL RX12 32 12 19 2 true := ⟨_, _, _, _, cl_12, by decide, Ts_in (in_t6 _ (List.mem_of_getElem? (i := 152) rfl)) rfl, by decide +kernel, rfl⟩
theorem fl_12_35 : FL RX12 35 12 20 2 true := ⟨_, _, _, _, cl_12, by decide, Ts_in (in_t6 _ (List.mem_of_getElem? (i := 153) rfl)) rfl, by decide +kernel, rfl⟩
theorem fl_12_38 : FL RX12 38 12 21 2 true := ⟨_, _, _, _, cl_12, by decide, Ts_in (in_t6 _ (List.mem_of_getElem? (i := 154) rfl)) rfl, by decide +kernel, rfl⟩
theorem fl_12_41 : FL RX12 41 12 24 2 true := ⟨_, _, _, _, cl_12, by decide, Ts_in (in_t6 _ (List.mem_of_getElem? (i := 157) rfl)) rfl, by decide +kernel, rfl⟩
theorem fl_12_44 : FL RX12 44 12 25 2 true := ⟨_, _, _, _, cl_12, by decide, Ts_in (in_t6 _ (List.mem_of_getElem? (i := 158) rfl)) rfl, by decide +kernel, rfl⟩
theorem fl_12_47 : FL RX12 47 12 26 2 true := ⟨_, _, _, _, cl_12, by decide, Ts_in (in_t6 _ (List.mem_of_getElem? (i := 159) rfl)) rfl, by decide +kernel, rfl⟩
theorem fl_12_50 : FL RX12 50 12 27 2 true := ⟨_, _, _, _, cl_12, by decide, Ts_in (in_t6 _ (List.mem_of_getElem? (i := 160) rfl)) rfl, by decide +kernel, rfl⟩
theorem fl_12_53 : FL RX12 53 12 28 2 true := ⟨_, _, _, _, cl_12, by decide, Ts_in (in_t6 _ (List.mem_of_getElem? (i := 161) rfl)) rfl, by decide +kernel, rfl⟩
theorem fl_12_56 : FL RX12 56 12 29 2 true := ⟨_, _, _, _, cl_12, by decide, Ts_in (in_t6 _ (List.mem_of_getElem? (i := 162) rfl)) rfl, by decide +kernel, rfl⟩
theorem fl_12_59 : FL RX12 59 12 38 2 true := ⟨_, _, _, _, cl_12, by decide, Ts_in (in_t6 _ (List.mem_of_getElem? (i := 171) rfl)) rfl, by decide +kernel, rfl⟩
theorem fl_12_62 : FL RX12 62 12 39 2 true := ⟨_, _, _, _, cl_12, by decide, Ts_in (in_t6 _ (List.mem_of_getElem? (i := 172) rfl)) rfl, by decide +kernel, rfl⟩
theorem fl_12_65 : FL RX12 65 12 40 2 true := ⟨_, _, _, _, cl_12, by decide, Ts_in (in_t6 _ (List.mem_of_getElem? (i := 173) rfl)) rfl, by decide +kernel, rfl⟩
theorem fl_12_69 : FL RX12 69 12 41 2 true := ⟨_, _, _, _, cl_12, by decide, Ts_in (in_t6 _ (List.mem_of_getElem? (i := 174) rfl)) rfl, by decide +kernel, rfl⟩
theorem fl_12_72 : FL RX12 72 12 45 2 true := ⟨_, _, _, _, cl_12, by decide, Ts_in (in_t6 _ (List.mem_of_getElem? (i := 178) rfl)) rfl, by decide +kernel, rfl⟩
theorem fl_12_75 : FL RX12 75 12 46 2 true := ⟨_, _, _, _, cl_12, by decide, Ts_in (in_t6 _ (List.mem_of_getElem? (i := 179) rfl)) rfl, by decide +kernel, rfl⟩
theorem fl_12_78 : FL RX12 78 12 50 2 true := ⟨_, _, _, _, cl_12, by decide, Ts_in (in_t6 _ (List.mem_of_getElem? (i := 183) rfl)) rfl, by decide +kernel, rfl⟩
theorem fl_12_81 : FL RX12 81 12 51 2 true := ⟨_, _, _, _, cl_12, by decide, Ts_in (in_t6 _ (List.mem_of_getElem? (i := 184) rfl)) rfl, by decide +kernel, rfl⟩
theorem fl_12_84 : FL RX12 84 12 4 0 false := ⟨_, _, _, _, cl_12, by decide, Ts_in (in_t6 _ (List.mem_of_getElem? (i := 137) rfl)) rfl, by decide +kernel, rfl⟩
theorem fl_12_102 : FL RX12 102 12 6 0 false := ⟨_, _, _, _, cl_12, by decide, Ts_in (in_t6 _ (List.mem_of_getElem? (i := 139) rfl)) rfl, by decide +kernel, rfl⟩
theorem fl_12_105 : FL RX12 105 12 5 0 false := ⟨_, _, _, _, cl_12, by decide, Ts_in (in_t6 _ (List.mem_of_getElem? (i := 138) rfl)) rfl, by decide +kernel, rfl⟩
theorem fl_12_129 : FL RX12 129 12 22 0 false := ⟨_, _, _, _, cl_12, by decide, Ts_in (in_t6 _ (List.mem_of_getElem? (i := 155) rfl)) rfl, by decide +kernel, rfl⟩
theorem fl_12_132 : FL RX12 132 12 23 0 false := ⟨_, _, _, _, cl_12, by decide, Ts_in (in_t6 _ (List.mem_of_getElem? (i := 156) rfl)) rfl, by decide +kernel, rfl⟩
theorem fl_12_175 : FL RX12 175 12 30 0 false := ⟨_, _, _, _, cl_12, by decide, Ts_in (in_t6 _ (List.mem_of_getElem? (i := 163) rfl)) rfl, by decide +kernel, rfl⟩
theorem fl_12_197 : FL RX12 197 12 33 0 false := ⟨_, _, _, _, cl_12, by decide, Ts_in (in_t6 _ (List.mem_of_getElem? (i := 166) rfl)) rfl, by decide +kernel, rfl⟩
theorem fl_12_207 : FL RX12 207 12 31 0 false := ⟨_, _, _, _, cl_12, by decide, Ts_in (in_t6 _ (List.mem_of_getElem? (i := 164) rfl)) rfl, by decide +kernel, rfl⟩
theorem fl_12_210 : FL RX12 210 12 32 0 false := ⟨_, _, _, _, cl_12, by decide, Ts_in (in_t6 _ (List.mem_of_getElem? (i := 165) rfl)) rfl, by decide +kernel, rfl⟩
theorem fl_12_213 : FL RX12 213 12 36 0 false := ⟨_, _, _, _, cl_12, by decide, Ts_in (in_t6 _ (List.mem_of_getElem? (i := 169) rfl)) rfl, by decide +kernel, rfl⟩
theorem fl_12_216 : FL RX12 216 12 35 0 false := ⟨_, _, _, _, cl_12, by decide, Ts_in (in_t6 _ (List.mem_of_getElem? (i := 168) rfl)) rfl, by decide +kernel, rfl⟩
theorem fl_12_219 : FL RX12 219 12 34 0 false := ⟨_, _, _, _, cl_12, by decide, Ts_in (in_t6 _ (List.mem_of_getElem? (i := 167) rfl)) rfl, by decide +kernel, rfl⟩
theorem fl_12_228 : FL RX12 228 12 37 0 false := ⟨_, _, _, _, cl_12, by decide, Ts_in (in_t6 _ (List.mem_of_getElem? (i := 170) rfl)) rfl, by decide +kernel, rfl⟩
theorem fl_12_241 : FL RX12 241 12 42 0 false := ⟨_, _, _, _, cl_12, by decide, Ts_in (in_t6 _ (List.mem_of_getElem? (i := 175) rfl)) rfl, by decide +kernel, rfl⟩
theorem fl_12_247 : FL RX12 247 12 43 0 false := ⟨_, _, _, _, cl_12, by decide, Ts_in (in_t6 _ (List.mem_of_getElem? (i := 176) rfl)) rfl, by decide +kernel, rfl⟩
theorem fl_12_250 : FL RX12 250 12 44 0 false := ⟨_, _, _, _, cl_12, by decide, Ts_in (in_t6 _ (List.mem_of_getElem? (i := 177) rfl)) rfl, by decide +kernel, rfl⟩
theorem fl_12_266 : FL RX12 266 12 16 0 false := ⟨_, _, _, _, cl_12, by decide, Ts_in (in_t6 _ (List.mem_of_getElem? (i := 149) rfl)) rfl, by decide +kernel, rfl⟩
theorem fl_12_275 : FL RX12 275 12 14 0 false := ⟨_, _, _, _, cl_12, by decide, Ts_in (in_t6 _ (List.mem_of_getElem? (i := 147) rfl)) rfl, by decide +kernel, rfl⟩
theorem fl_12_278 : FL RX12 278 12 13 0 false := ⟨_, _, _, _, cl_12, by decide, Ts_in (in_t6 _ (List.mem_of_getElem? (i := 146) rfl)) rfl, by decide +kernel, rfl⟩
theorem fl_12_281 : FL RX12 281 12 9 0 false := ⟨_, _, _, _, cl_12, by decide, Ts_in (in_t6 _ (List.mem_of_getElem? (i := 142) rfl)) rfl, by decide +kernel, rfl⟩
theorem fl_12_284 : FL RX12 284 12 8 0 false := ⟨_, _, _, _, cl_12, by decide, Ts_in (in_t6 _ (List.mem_of_getElem? (i := 141) rfl)) rfl, by decide +kernel, rfl⟩
theorem fl_12_287 : FL RX12 287 12 7 0 false := ⟨_, _, _, _, cl_12, by decide, Ts_in (in_t6 _ (List.mem_of_getElem? (i := 140) rfl)) rfl, by decide +kernel, rfl⟩
theorem fl_12_314 : FL RX12 314 12 47 0 false := ⟨_, _, _, _, cl_12, by decide, Ts_in (in_t6 _ (List.mem_of_getElem? (i := 180) rfl)) rfl, by decide +kernel, rfl⟩
theorem fl_12_323 : FL RX12 323 12 48 0 false := ⟨_, _, _, _, cl_12, by decide, Ts_in (in_t6 _ (List.mem_of_getElem? (i := 181) rfl)) rfl, by decide +kernel, rfl⟩
theorem fl_12_326 : FL RX12 326 12 49 0 false := ⟨_, _, _, _, cl_12, by decide, Ts_in (in_t6 _ (List.mem_of_getElem? (i := 182) rfl)) rfl, by decide +kernel, rfl⟩
theorem fl_12_430 : FL RX12 430 12 52 0 false := ⟨_, _, _, _, cl_12, by decide, Ts_in (in_t6 _ (List.mem_of_getElem? (i := 185) rfl)) rfl, by decide +kernel, rfl⟩
theorem fl_12_445 : FL RX12 445 12 53 0 false := ⟨_, _, _, _, cl_12, by decide, Ts_in (in_t6 _ (List.mem_of_getElem? (i := 186) rfl)) rfl, by decide +kernel, rfl⟩
theorem fl_12_452 : FL RX12 452 12 54 0 false := ⟨_, _, _, _, cl_12, by decide, Ts_in (in_t6 _ (List.mem_of_getElem? (i := 187) rfl)) rfl, by decide +kernel, rfl⟩
theorem fl_12_458 : FL RX12 458 12 10 0 false := ⟨_, _, _, _, cl_12, by decide, Ts_in (in_t6 _ (List.mem_of_getElem? (i := 143) rfl)) rfl, by decide +kernel, rfl⟩
theorem fl_12_461 : FL RX12 461 12 11 0 false := ⟨_, _, _, _, cl_12, by decide, Ts_in (in_t6 _ (List.mem_of_getElem? (i := 144) rfl)) rfl, by decide +kernel, rfl⟩
theorem fl_12_464 : FL RX12 464 12 12 0 false := ⟨_, _, _, _, cl_12, by decide, Ts_in (in_t6 _ (List.mem_of_getElem? (i := 145) rfl)) rfl, by decide +kernel, rfl⟩
theorem ml_0_35 : Cond.methodLink RX0 35 yX0_slot ∈ Ts := Ts_in (in_t2 _ (List.mem_of_getElem? (i := 235) rfl)) rfl
theorem ml_0_39 : Cond.methodLink RX0 39 yX0_putBack ∈ Ts := Ts_in (in_t3 _ (List.mem_of_getElem? (i := 185) rfl)) rfl
theorem ml_0_43 : Cond.methodLink RX0 43 yX8_putBack ∈ Ts := Ts_in (in_t3 _ (List.mem_of_getElem? (i := 189) rfl)) rfl
theorem ml_1_17 : Cond.methodLink RX1 17 yX8_init ∈ Ts := Ts_in (in_t2 _ (List.mem_of_getElem? (i := 123) rfl)) rfl
theorem ml_1_22 : Cond.methodLink RX1 22 yX8_copyFrom ∈ Ts := Ts_in (in_t6 _ (List.mem_of_getElem? (i := 103) rfl)) rfl
theorem ml_1_33 : Cond.methodLink RX1 33 yX1_draw ∈ Ts := Ts_in (in_t6 _ (List.mem_of_getElem? (i := 104) rfl)) rfl
theorem ml_1_47 : Cond.methodLink RX1 47 yX1_carryOut ∈ Ts := Ts_in (in_t6 _ (List.mem_of_getElem? (i := 110) rfl)) rfl
theorem ml_1_50 : Cond.methodLink RX1 50 yX8_libraries ∈ Ts := Ts_in (in_t6 _ (List.mem_of_getElem? (i := 117) rfl)) rfl
theorem ml_1_54 : Cond.methodLink RX1 54 yX8_works ∈ Ts := Ts_in (in_t6 _ (List.mem_of_getElem? (i := 118) rfl)) rfl
theorem ml_1_57 : Cond.methodLink RX1 57 yX1_moveCopy ∈ Ts := Ts_in (in_t6 _ (List.mem_of_getElem? (i := 119) rfl)) rfl
theorem ml_1_65 : Cond.methodLink RX1 65 yX8_mayGo ∈ Ts := Ts_in (in_t6 _ (List.mem_of_getElem? (i := 124) rfl)) rfl
theorem ml_1_69 : Cond.methodLink RX1 69 yX8_mayGive ∈ Ts := Ts_in (in_t6 _ (List.mem_of_getElem? (i := 125) rfl)) rfl
theorem ml_1_73 : Cond.methodLink RX1 73 yX8_moveOne ∈ Ts := Ts_in (in_t6 _ (List.mem_of_getElem? (i := 126) rfl)) rfl
theorem ml_1_77 : Cond.methodLink RX1 77 yX5_make ∈ Ts := Ts_in (in_t6 _ (List.mem_of_getElem? (i := 114) rfl)) rfl
theorem ml_1_86 : Cond.methodLink RX1 86 yX5_packed ∈ Ts := Ts_in (in_t6 _ (List.mem_of_getElem? (i := 115) rfl)) rfl
theorem ml_1_90 : Cond.methodLink RX1 90 yX8_withdraw ∈ Ts := Ts_in (in_t6 _ (List.mem_of_getElem? (i := 116) rfl)) rfl
theorem ml_2_36 : Cond.methodLink RX2 36 yX6_load ∈ Ts := Ts_in (in_t6 _ (List.mem_of_getElem? (i := 34) rfl)) rfl
theorem ml_2_42 : Cond.methodLink RX2 42 yX8_works ∈ Ts := Ts_in (in_t6 _ (List.mem_of_getElem? (i := 35) rfl)) rfl
theorem ml_2_48 : Cond.methodLink RX2 48 yX2_findOf ∈ Ts := Ts_in (in_t6 _ (List.mem_of_getElem? (i := 36) rfl)) rfl
theorem ml_2_52 : Cond.methodLink RX2 52 yX8_spareOf ∈ Ts := Ts_in (in_t6 _ (List.mem_of_getElem? (i := 62) rfl)) rfl
theorem ml_2_56 : Cond.methodLink RX2 56 yX6_setSpare ∈ Ts := Ts_in (in_t6 _ (List.mem_of_getElem? (i := 55) rfl)) rfl
theorem ml_2_60 : Cond.methodLink RX2 60 yX2_spareWith ∈ Ts := Ts_in (in_t6 _ (List.mem_of_getElem? (i := 40) rfl)) rfl
theorem ml_2_64 : Cond.methodLink RX2 64 yX2_spaceWith ∈ Ts := Ts_in (in_t6 _ (List.mem_of_getElem? (i := 51) rfl)) rfl
theorem ml_2_68 : Cond.methodLink RX2 68 yX8_keepOf ∈ Ts := Ts_in (in_t6 _ (List.mem_of_getElem? (i := 57) rfl)) rfl
theorem ml_2_71 : Cond.methodLink RX2 71 yX7_allNotedAre ∈ Ts := Ts_in (in_t6 _ (List.mem_of_getElem? (i := 58) rfl)) rfl
theorem ml_2_75 : Cond.methodLink RX2 75 yX6_allOffers ∈ Ts := Ts_in (in_t6 _ (List.mem_of_getElem? (i := 44) rfl)) rfl
theorem ml_2_78 : Cond.methodLink RX2 78 yX8_copiesOf ∈ Ts := Ts_in (in_t6 _ (List.mem_of_getElem? (i := 48) rfl)) rfl
theorem ml_2_89 : Cond.methodLink RX2 89 yX6_space ∈ Ts := Ts_in (in_t6 _ (List.mem_of_getElem? (i := 56) rfl)) rfl
theorem ml_2_98 : Cond.methodLink RX2 98 yX8_libraries ∈ Ts := Ts_in (in_t6 _ (List.mem_of_getElem? (i := 75) rfl)) rfl
theorem ml_2_101 : Cond.methodLink RX2 101 yX2_unlikeWith ∈ Ts := Ts_in (in_t6 _ (List.mem_of_getElem? (i := 76) rfl)) rfl
theorem ml_2_105 : Cond.methodLink RX2 105 yX8_roomOf ∈ Ts := Ts_in (in_t6 _ (List.mem_of_getElem? (i := 80) rfl)) rfl
theorem ml_2_108 : Cond.methodLink RX2 108 yX8_copiesIn ∈ Ts := Ts_in (in_t6 _ (List.mem_of_getElem? (i := 81) rfl)) rfl
theorem ml_2_111 : Cond.methodLink RX2 111 yX8_wishOf ∈ Ts := Ts_in (in_t6 _ (List.mem_of_getElem? (i := 82) rfl)) rfl
theorem ml_2_114 : Cond.methodLink RX2 114 yX6_setLibrary ∈ Ts := Ts_in (in_t6 _ (List.mem_of_getElem? (i := 83) rfl)) rfl
theorem ml_2_118 : Cond.methodLink RX2 118 yX2_newWith ∈ Ts := Ts_in (in_t6 _ (List.mem_of_getElem? (i := 84) rfl)) rfl
theorem ml_2_121 : Cond.methodLink RX2 121 yX2_markNew ∈ Ts := Ts_in (in_t6 _ (List.mem_of_getElem? (i := 88) rfl)) rfl
theorem ml_3_17 : Cond.methodLink RX3 17 yX8_init ∈ Ts := Ts_in (in_t2 _ (List.mem_of_getElem? (i := 64) rfl)) rfl
theorem ml_3_26 : Cond.methodLink RX3 26 yX8_copyFrom ∈ Ts := Ts_in (in_t5 _ (List.mem_of_getElem? (i := 82) rfl)) rfl
theorem ml_3_30 : Cond.methodLink RX3 30 yX6_load ∈ Ts := Ts_in (in_t5 _ (List.mem_of_getElem? (i := 83) rfl)) rfl
theorem ml_3_35 : Cond.methodLink RX3 35 yX6_worstSet ∈ Ts := Ts_in (in_t5 _ (List.mem_of_getElem? (i := 84) rfl)) rfl
theorem ml_3_39 : Cond.methodLink RX3 39 yX6_lackOf ∈ Ts := Ts_in (in_t5 _ (List.mem_of_getElem? (i := 85) rfl)) rfl
theorem ml_3_50 : Cond.methodLink RX3 50 yX3_firstThatEnds ∈ Ts := Ts_in (in_t5 _ (List.mem_of_getElem? (i := 86) rfl)) rfl
theorem ml_3_53 : Cond.methodLink RX3 53 yX3_firstOfTwo ∈ Ts := Ts_in (in_t5 _ (List.mem_of_getElem? (i := 101) rfl)) rfl
theorem ml_3_62 : Cond.methodLink RX3 62 yX8_hasRoom ∈ Ts := Ts_in (in_t5 _ (List.mem_of_getElem? (i := 90) rfl)) rfl
theorem ml_3_69 : Cond.methodLink RX3 69 yX8_mayGive ∈ Ts := Ts_in (in_t5 _ (List.mem_of_getElem? (i := 91) rfl)) rfl
theorem ml_3_73 : Cond.methodLink RX3 73 yX3_ends ∈ Ts := Ts_in (in_t5 _ (List.mem_of_getElem? (i := 92) rfl)) rfl
theorem ml_3_76 : Cond.methodLink RX3 76 yX3_lackThen ∈ Ts := Ts_in (in_t5 _ (List.mem_of_getElem? (i := 96) rfl)) rfl
theorem ml_3_98 : Cond.methodLink RX3 98 yX8_libraries ∈ Ts := Ts_in (in_t5 _ (List.mem_of_getElem? (i := 105) rfl)) rfl
theorem ml_3_100 : Cond.methodLink RX3 100 yX8_works ∈ Ts := Ts_in (in_t5 _ (List.mem_of_getElem? (i := 106) rfl)) rfl
theorem ml_3_102 : Cond.methodLink RX3 102 yX8_moveOne ∈ Ts := Ts_in (in_t5 _ (List.mem_of_getElem? (i := 107) rfl)) rfl
theorem ml_4_17 : Cond.methodLink RX4 17 yX8_init ∈ Ts := Ts_in (in_t2 _ (List.mem_of_getElem? (i := 2) rfl)) rfl
theorem ml_4_22 : Cond.methodLink RX4 22 yX8_copyFrom ∈ Ts := Ts_in (in_t5 _ (List.mem_of_getElem? (i := 46) rfl)) rfl
theorem ml_4_30 : Cond.methodLink RX4 30 yX8_promiseEndsWith ∈ Ts := Ts_in (in_t5 _ (List.mem_of_getElem? (i := 47) rfl)) rfl
theorem ml_4_34 : Cond.methodLink RX4 34 yX6_load ∈ Ts := Ts_in (in_t5 _ (List.mem_of_getElem? (i := 51) rfl)) rfl
theorem ml_4_39 : Cond.methodLink RX4 39 yX6_hasPlan ∈ Ts := Ts_in (in_t5 _ (List.mem_of_getElem? (i := 52) rfl)) rfl
theorem ml_4_50 : Cond.methodLink RX4 50 yX6_space ∈ Ts := Ts_in (in_t5 _ (List.mem_of_getElem? (i := 60) rfl)) rfl
theorem ml_4_54 : Cond.methodLink RX4 54 yX8_libraries ∈ Ts := Ts_in (in_t5 _ (List.mem_of_getElem? (i := 61) rfl)) rfl
theorem ml_4_58 : Cond.methodLink RX4 58 yX8_works ∈ Ts := Ts_in (in_t5 _ (List.mem_of_getElem? (i := 62) rfl)) rfl
theorem ml_4_61 : Cond.methodLink RX4 61 yX8_promiseCounts ∈ Ts := Ts_in (in_t5 _ (List.mem_of_getElem? (i := 63) rfl)) rfl
theorem ml_4_65 : Cond.methodLink RX4 65 yX4_spaceWithout ∈ Ts := Ts_in (in_t5 _ (List.mem_of_getElem? (i := 64) rfl)) rfl
theorem ml_4_69 : Cond.methodLink RX4 69 yX8_heldIn ∈ Ts := Ts_in (in_t5 _ (List.mem_of_getElem? (i := 68) rfl)) rfl
theorem ml_4_73 : Cond.methodLink RX4 73 yX6_setOffer ∈ Ts := Ts_in (in_t5 _ (List.mem_of_getElem? (i := 69) rfl)) rfl
theorem ml_4_77 : Cond.methodLink RX4 77 yX8_offerOf ∈ Ts := Ts_in (in_t5 _ (List.mem_of_getElem? (i := 73) rfl)) rfl
theorem ml_4_80 : Cond.methodLink RX4 80 yX8_copiesOf ∈ Ts := Ts_in (in_t5 _ (List.mem_of_getElem? (i := 216) rfl)) rfl
theorem ml_4_83 : Cond.methodLink RX4 83 yX8_keepOf ∈ Ts := Ts_in (in_t5 _ (List.mem_of_getElem? (i := 217) rfl)) rfl
theorem ml_4_86 : Cond.methodLink RX4 86 yX6_setSpare ∈ Ts := Ts_in (in_t5 _ (List.mem_of_getElem? (i := 218) rfl)) rfl
theorem ml_4_90 : Cond.methodLink RX4 90 yX8_roomOf ∈ Ts := Ts_in (in_t5 _ (List.mem_of_getElem? (i := 171) rfl)) rfl
theorem ml_4_93 : Cond.methodLink RX4 93 yX8_copiesIn ∈ Ts := Ts_in (in_t5 _ (List.mem_of_getElem? (i := 172) rfl)) rfl
theorem ml_4_101 : Cond.methodLink RX4 101 yX8_wishOf ∈ Ts := Ts_in (in_t5 _ (List.mem_of_getElem? (i := 174) rfl)) rfl
theorem ml_4_104 : Cond.methodLink RX4 104 yX6_setLibrary ∈ Ts := Ts_in (in_t5 _ (List.mem_of_getElem? (i := 175) rfl)) rfl
theorem ml_4_110 : Cond.methodLink RX4 110 yX8_needOf ∈ Ts := Ts_in (in_t5 _ (List.mem_of_getElem? (i := 197) rfl)) rfl
theorem ml_5_23 : Cond.methodLink RX5 23 yX6_load ∈ Ts := Ts_in (in_t3 _ (List.mem_of_getElem? (i := 100) rfl)) rfl
theorem ml_5_29 : Cond.methodLink RX5 29 yX6_space ∈ Ts := Ts_in (in_t3 _ (List.mem_of_getElem? (i := 142) rfl)) rfl
theorem ml_5_43 : Cond.methodLink RX5 43 yX5_takeMost ∈ Ts := Ts_in (in_t3 _ (List.mem_of_getElem? (i := 150) rfl)) rfl
theorem ml_5_54 : Cond.methodLink RX5 54 yX6_setLibrary ∈ Ts := Ts_in (in_t3 _ (List.mem_of_getElem? (i := 161) rfl)) rfl
theorem ml_5_75 : Cond.methodLink RX5 75 yX6_setSpare ∈ Ts := Ts_in (in_t3 _ (List.mem_of_getElem? (i := 156) rfl)) rfl
theorem ml_5_82 : Cond.methodLink RX5 82 yX8_sizeOf ∈ Ts := Ts_in (in_t5 _ (List.mem_of_getElem? (i := 166) rfl)) rfl
theorem ml_5_87 : Cond.methodLink RX5 87 yX8_libraries ∈ Ts := Ts_in (in_t4 _ (List.mem_of_getElem? (i := 238) rfl)) rfl
theorem ml_5_90 : Cond.methodLink RX5 90 yX5_changesOf ∈ Ts := Ts_in (in_t4 _ (List.mem_of_getElem? (i := 239) rfl)) rfl
theorem ml_5_94 : Cond.methodLink RX5 94 yX8_works ∈ Ts := Ts_in (in_t5 _ (List.mem_of_getElem? (i := 3) rfl)) rfl
theorem ml_5_96 : Cond.methodLink RX5 96 yX5_mayMove ∈ Ts := Ts_in (in_t5 _ (List.mem_of_getElem? (i := 4) rfl)) rfl
theorem ml_5_100 : Cond.methodLink RX5 100 yX8_offerOf ∈ Ts := Ts_in (in_t5 _ (List.mem_of_getElem? (i := 8) rfl)) rfl
theorem ml_6_49 : Cond.methodLink RX6 49 yX8_libraries ∈ Ts := Ts_in (in_t3 _ (List.mem_of_getElem? (i := 104) rfl)) rfl
theorem ml_6_63 : Cond.methodLink RX6 63 yX8_works ∈ Ts := Ts_in (in_t3 _ (List.mem_of_getElem? (i := 111) rfl)) rfl
theorem ml_6_68 : Cond.methodLink RX6 68 yX8_needOf ∈ Ts := Ts_in (in_t3 _ (List.mem_of_getElem? (i := 115) rfl)) rfl
theorem ml_6_72 : Cond.methodLink RX6 72 yX8_wishOf ∈ Ts := Ts_in (in_t3 _ (List.mem_of_getElem? (i := 119) rfl)) rfl
theorem ml_6_78 : Cond.methodLink RX6 78 yX8_offerOf ∈ Ts := Ts_in (in_t3 _ (List.mem_of_getElem? (i := 124) rfl)) rfl
theorem ml_6_81 : Cond.methodLink RX6 81 yX6_sumNeeds ∈ Ts := Ts_in (in_t3 _ (List.mem_of_getElem? (i := 125) rfl)) rfl
theorem ml_6_84 : Cond.methodLink RX6 84 yX8_sizeOf ∈ Ts := Ts_in (in_t3 _ (List.mem_of_getElem? (i := 129) rfl)) rfl
theorem ml_6_87 : Cond.methodLink RX6 87 yX8_spareOf ∈ Ts := Ts_in (in_t3 _ (List.mem_of_getElem? (i := 133) rfl)) rfl
theorem ml_6_90 : Cond.methodLink RX6 90 yX6_sumOffers ∈ Ts := Ts_in (in_t3 _ (List.mem_of_getElem? (i := 134) rfl)) rfl
theorem ml_6_94 : Cond.methodLink RX6 94 yX6_rank ∈ Ts := Ts_in (in_t3 _ (List.mem_of_getElem? (i := 138) rfl)) rfl
theorem ml_6_97 : Cond.methodLink RX6 97 yX6_canTake ∈ Ts := Ts_in (in_t5 _ (List.mem_of_getElem? (i := 27) rfl)) rfl
theorem ml_6_100 : Cond.methodLink RX6 100 yX6_lackOf ∈ Ts := Ts_in (in_t5 _ (List.mem_of_getElem? (i := 23) rfl)) rfl
theorem ml_6_108 : Cond.methodLink RX6 108 yX6_weighMost ∈ Ts := Ts_in (in_t3 _ (List.mem_of_getElem? (i := 146) rfl)) rfl
theorem ml_7_11 : Cond.methodLink RX7 11 yX8_init ∈ Ts := Ts_in (in_t1 _ (List.mem_of_getElem? (i := 42) rfl)) rfl
theorem ml_7_20 : Cond.methodLink RX7 20 yX0_init ∈ Ts := Ts_in (in_t1 _ (List.mem_of_getElem? (i := 59) rfl)) rfl
theorem ml_7_36 : Cond.methodLink RX7 36 yX8_copyFrom ∈ Ts := Ts_in (in_t3 _ (List.mem_of_getElem? (i := 213) rfl)) rfl
theorem ml_7_40 : Cond.methodLink RX7 40 yX0_copyFrom ∈ Ts := Ts_in (in_t3 _ (List.mem_of_getElem? (i := 220) rfl)) rfl
theorem ml_8_21 : Cond.methodLink RX8 21 yX8_isLibrary ∈ Ts := Ts_in (in_t2 _ (List.mem_of_getElem? (i := 208) rfl)) rfl
theorem ml_8_25 : Cond.methodLink RX8 25 yX8_isWork ∈ Ts := Ts_in (in_t2 _ (List.mem_of_getElem? (i := 212) rfl)) rfl
theorem ml_8_28 : Cond.methodLink RX8 28 yX8_heldIn ∈ Ts := Ts_in (in_t3 _ (List.mem_of_getElem? (i := 33) rfl)) rfl
theorem ml_8_32 : Cond.methodLink RX8 32 yX8_promiseCounts ∈ Ts := Ts_in (in_t3 _ (List.mem_of_getElem? (i := 34) rfl)) rfl
theorem ml_8_36 : Cond.methodLink RX8 36 yX8_muchOf ∈ Ts := Ts_in (in_t3 _ (List.mem_of_getElem? (i := 38) rfl)) rfl
theorem ml_8_39 : Cond.methodLink RX8 39 yX8_copiesIn ∈ Ts := Ts_in (in_t3 _ (List.mem_of_getElem? (i := 64) rfl)) rfl
theorem ml_8_43 : Cond.methodLink RX8 43 yX8_storedOf ∈ Ts := Ts_in (in_t3 _ (List.mem_of_getElem? (i := 84) rfl)) rfl
theorem ml_8_46 : Cond.methodLink RX8 46 yX8_copiesOf ∈ Ts := Ts_in (in_t3 _ (List.mem_of_getElem? (i := 43) rfl)) rfl
theorem ml_8_49 : Cond.methodLink RX8 49 yX8_keepOf ∈ Ts := Ts_in (in_t3 _ (List.mem_of_getElem? (i := 47) rfl)) rfl
theorem ml_8_57 : Cond.methodLink RX8 57 yX8_roomOf ∈ Ts := Ts_in (in_t3 _ (List.mem_of_getElem? (i := 68) rfl)) rfl
theorem ml_8_60 : Cond.methodLink RX8 60 yX8_offerOf ∈ Ts := Ts_in (in_t3 _ (List.mem_of_getElem? (i := 29) rfl)) rfl
theorem ml_8_63 : Cond.methodLink RX8 63 yX8_spareOf ∈ Ts := Ts_in (in_t3 _ (List.mem_of_getElem? (i := 39) rfl)) rfl
theorem ml_8_66 : Cond.methodLink RX8 66 yX8_hasRoom ∈ Ts := Ts_in (in_t3 _ (List.mem_of_getElem? (i := 60) rfl)) rfl
theorem ml_8_69 : Cond.methodLink RX8 69 yX8_copiesStored ∈ Ts := Ts_in (in_t3 _ (List.mem_of_getElem? (i := 80) rfl)) rfl
theorem ml_8_76 : Cond.methodLink RX8 76 yX8_shortOf ∈ Ts := Ts_in (in_t4 _ (List.mem_of_getElem? (i := 225) rfl)) rfl
theorem ml_9_32 : Cond.methodLink RX9 32 yX8_clear ∈ Ts := Ts_in (in_t4 _ (List.mem_of_getElem? (i := 65) rfl)) rfl
theorem ml_9_47 : Cond.methodLink RX9 47 yX9_next ∈ Ts := Ts_in (in_t4 _ (List.mem_of_getElem? (i := 69) rfl)) rfl
theorem ml_9_53 : Cond.methodLink RX9 53 yX9_readClause ∈ Ts := Ts_in (in_t4 _ (List.mem_of_getElem? (i := 83) rfl)) rfl
theorem ml_9_59 : Cond.methodLink RX9 59 yX9_byteAt ∈ Ts := Ts_in (in_t4 _ (List.mem_of_getElem? (i := 73) rfl)) rfl
theorem ml_9_63 : Cond.methodLink RX9 63 yX9_isLetter ∈ Ts := Ts_in (in_t4 _ (List.mem_of_getElem? (i := 77) rfl)) rfl
theorem ml_9_67 : Cond.methodLink RX9 67 yX9_isDigit ∈ Ts := Ts_in (in_t4 _ (List.mem_of_getElem? (i := 80) rfl)) rfl
theorem ml_9_81 : Cond.methodLink RX9 81 yX9_wordIs ∈ Ts := Ts_in (in_t4 _ (List.mem_of_getElem? (i := 88) rfl)) rfl
theorem ml_9_85 : Cond.methodLink RX9 85 yX9_readLibraryClause ∈ Ts := Ts_in (in_t4 _ (List.mem_of_getElem? (i := 140) rfl)) rfl
theorem ml_9_90 : Cond.methodLink RX9 90 yX9_readWorkClause ∈ Ts := Ts_in (in_t4 _ (List.mem_of_getElem? (i := 166) rfl)) rfl
theorem ml_9_95 : Cond.methodLink RX9 95 yX9_readHoldsClause ∈ Ts := Ts_in (in_t4 _ (List.mem_of_getElem? (i := 176) rfl)) rfl
theorem ml_9_100 : Cond.methodLink RX9 100 yX9_readPromiseClause ∈ Ts := Ts_in (in_t4 _ (List.mem_of_getElem? (i := 185) rfl)) rfl
theorem ml_9_105 : Cond.methodLink RX9 105 yX9_readStoreClause ∈ Ts := Ts_in (in_t4 _ (List.mem_of_getElem? (i := 190) rfl)) rfl
theorem ml_9_108 : Cond.methodLink RX9 108 yX9_refuse ∈ Ts := Ts_in (in_t4 _ (List.mem_of_getElem? (i := 145) rfl)) rfl
theorem ml_9_112 : Cond.methodLink RX9 112 yX8_libraries ∈ Ts := Ts_in (in_t4 _ (List.mem_of_getElem? (i := 144) rfl)) rfl
theorem ml_9_115 : Cond.methodLink RX9 115 yX9_readNumber ∈ Ts := Ts_in (in_t4 _ (List.mem_of_getElem? (i := 149) rfl)) rfl
theorem ml_9_118 : Cond.methodLink RX9 118 yX9_readSign ∈ Ts := Ts_in (in_t4 _ (List.mem_of_getElem? (i := 157) rfl)) rfl
theorem ml_9_121 : Cond.methodLink RX9 121 yX8_addLibrary ∈ Ts := Ts_in (in_t4 _ (List.mem_of_getElem? (i := 161) rfl)) rfl
theorem ml_9_125 : Cond.methodLink RX9 125 yX8_works ∈ Ts := Ts_in (in_t4 _ (List.mem_of_getElem? (i := 170) rfl)) rfl
theorem ml_9_128 : Cond.methodLink RX9 128 yX8_addWork ∈ Ts := Ts_in (in_t4 _ (List.mem_of_getElem? (i := 171) rfl)) rfl
theorem ml_9_131 : Cond.methodLink RX9 131 yX9_readNumberOf ∈ Ts := Ts_in (in_t4 _ (List.mem_of_getElem? (i := 180) rfl)) rfl
theorem ml_9_139 : Cond.methodLink RX9 139 yX9_checkNumber ∈ Ts := Ts_in (in_t4 _ (List.mem_of_getElem? (i := 153) rfl)) rfl
theorem ml_10_25 : Cond.methodLink RX10 25 yX6_load ∈ Ts := Ts_in (in_t5 _ (List.mem_of_getElem? (i := 120) rfl)) rfl
theorem ml_10_36 : Cond.methodLink RX10 36 yX10_begin ∈ Ts := Ts_in (in_t5 _ (List.mem_of_getElem? (i := 116) rfl)) rfl
theorem ml_10_48 : Cond.methodLink RX10 48 yX10_withdraw ∈ Ts := Ts_in (in_t5 _ (List.mem_of_getElem? (i := 126) rfl)) rfl
theorem ml_10_64 : Cond.methodLink RX10 64 yX10_lineUp ∈ Ts := Ts_in (in_t5 _ (List.mem_of_getElem? (i := 121) rfl)) rfl
theorem ml_11_22 : Cond.methodLink RX11 22 yX7_init ∈ Ts := Ts_in (in_t1 _ (List.mem_of_getElem? (i := 36) rfl)) rfl
theorem ml_11_36 : Cond.methodLink RX11 36 yX8_init ∈ Ts := Ts_in (in_t1 _ (List.mem_of_getElem? (i := 103) rfl)) rfl
theorem ml_11_43 : Cond.methodLink RX11 43 yX9_init ∈ Ts := Ts_in (in_t1 _ (List.mem_of_getElem? (i := 106) rfl)) rfl
theorem ml_11_50 : Cond.methodLink RX11 50 yX6_init ∈ Ts := Ts_in (in_t1 _ (List.mem_of_getElem? (i := 141) rfl)) rfl
theorem ml_11_57 : Cond.methodLink RX11 57 yX5_init ∈ Ts := Ts_in (in_t1 _ (List.mem_of_getElem? (i := 213) rfl)) rfl
theorem ml_11_69 : Cond.methodLink RX11 69 yX4_init ∈ Ts := Ts_in (in_t1 _ (List.mem_of_getElem? (i := 237) rfl)) rfl
theorem ml_11_76 : Cond.methodLink RX11 76 yX10_init ∈ Ts := Ts_in (in_t2 _ (List.mem_of_getElem? (i := 20) rfl)) rfl
theorem ml_11_83 : Cond.methodLink RX11 83 yX3_init ∈ Ts := Ts_in (in_t2 _ (List.mem_of_getElem? (i := 59) rfl)) rfl
theorem ml_11_90 : Cond.methodLink RX11 90 yX2_init ∈ Ts := Ts_in (in_t2 _ (List.mem_of_getElem? (i := 85) rfl)) rfl
theorem ml_11_97 : Cond.methodLink RX11 97 yX1_init ∈ Ts := Ts_in (in_t2 _ (List.mem_of_getElem? (i := 118) rfl)) rfl
theorem ml_11_104 : Cond.methodLink RX11 104 yX11_putOnTape ∈ Ts := Ts_in (in_t2 _ (List.mem_of_getElem? (i := 192) rfl)) rfl
theorem ml_11_111 : Cond.methodLink RX11 111 yX9_read ∈ Ts := Ts_in (in_t4 _ (List.mem_of_getElem? (i := 60) rfl)) rfl
theorem ml_11_125 : Cond.methodLink RX11 125 yX8_copyFrom ∈ Ts := Ts_in (in_t4 _ (List.mem_of_getElem? (i := 194) rfl)) rfl
theorem ml_11_133 : Cond.methodLink RX11 133 yX0_clear ∈ Ts := Ts_in (in_t4 _ (List.mem_of_getElem? (i := 195) rfl)) rfl
theorem ml_11_141 : Cond.methodLink RX11 141 yX11_countInStock ∈ Ts := Ts_in (in_t4 _ (List.mem_of_getElem? (i := 207) rfl)) rfl
theorem ml_11_145 : Cond.methodLink RX11 145 yX11_countOfPlan ∈ Ts := Ts_in (in_t4 _ (List.mem_of_getElem? (i := 230) rfl)) rfl
theorem ml_11_148 : Cond.methodLink RX11 148 yX11_countOfShortage ∈ Ts := Ts_in (in_t5 _ (List.mem_of_getElem? (i := 15) rfl)) rfl
theorem ml_11_151 : Cond.methodLink RX11 151 yX4_late ∈ Ts := Ts_in (in_t5 _ (List.mem_of_getElem? (i := 42) rfl)) rfl
theorem ml_11_155 : Cond.methodLink RX11 155 yX4_findInTheWay ∈ Ts := Ts_in (in_t5 _ (List.mem_of_getElem? (i := 56) rfl)) rfl
theorem ml_11_164 : Cond.methodLink RX11 164 yX11_countOfDesk ∈ Ts := Ts_in (in_t5 _ (List.mem_of_getElem? (i := 74) rfl)) rfl
theorem ml_11_167 : Cond.methodLink RX11 167 yX3_find ∈ Ts := Ts_in (in_t5 _ (List.mem_of_getElem? (i := 78) rfl)) rfl
theorem ml_11_176 : Cond.methodLink RX11 176 yX10_findOrders ∈ Ts := Ts_in (in_t5 _ (List.mem_of_getElem? (i := 112) rfl)) rfl
theorem ml_11_185 : Cond.methodLink RX11 185 yX8_libraries ∈ Ts := Ts_in (in_t4 _ (List.mem_of_getElem? (i := 211) rfl)) rfl
theorem ml_11_189 : Cond.methodLink RX11 189 yX8_works ∈ Ts := Ts_in (in_t4 _ (List.mem_of_getElem? (i := 212) rfl)) rfl
theorem ml_11_195 : Cond.methodLink RX11 195 yX8_copiesHeld ∈ Ts := Ts_in (in_t4 _ (List.mem_of_getElem? (i := 213) rfl)) rfl
theorem ml_11_198 : Cond.methodLink RX11 198 yX8_lastWorks ∈ Ts := Ts_in (in_t4 _ (List.mem_of_getElem? (i := 217) rfl)) rfl
theorem ml_11_201 : Cond.methodLink RX11 201 yX8_shortWorks ∈ Ts := Ts_in (in_t4 _ (List.mem_of_getElem? (i := 221) rfl)) rfl
theorem ml_11_204 : Cond.methodLink RX11 204 yX8_copiesStored ∈ Ts := Ts_in (in_t4 _ (List.mem_of_getElem? (i := 229) rfl)) rfl
theorem ml_11_207 : Cond.methodLink RX11 207 yX11_refreshPlan ∈ Ts := Ts_in (in_t3 _ (List.mem_of_getElem? (i := 92) rfl)) rfl
theorem ml_11_210 : Cond.methodLink RX11 210 yX5_changes ∈ Ts := Ts_in (in_t4 _ (List.mem_of_getElem? (i := 234) rfl)) rfl
theorem ml_11_213 : Cond.methodLink RX11 213 yX6_load ∈ Ts := Ts_in (in_t5 _ (List.mem_of_getElem? (i := 9) rfl)) rfl
theorem ml_11_216 : Cond.methodLink RX11 216 yX6_space ∈ Ts := Ts_in (in_t5 _ (List.mem_of_getElem? (i := 10) rfl)) rfl
theorem ml_11_219 : Cond.methodLink RX11 219 yX6_copiesOfPlan ∈ Ts := Ts_in (in_t5 _ (List.mem_of_getElem? (i := 11) rfl)) rfl
theorem ml_11_222 : Cond.methodLink RX11 222 yX6_worstSet ∈ Ts := Ts_in (in_t5 _ (List.mem_of_getElem? (i := 19) rfl)) rfl
theorem ml_11_225 : Cond.methodLink RX11 225 yX6_lackOf ∈ Ts := Ts_in (in_t5 _ (List.mem_of_getElem? (i := 37) rfl)) rfl
theorem ml_11_228 : Cond.methodLink RX11 228 yX6_scarceWorks ∈ Ts := Ts_in (in_t5 _ (List.mem_of_getElem? (i := 38) rfl)) rfl
theorem ml_11_234 : Cond.methodLink RX11 234 yX8_isLibrary ∈ Ts := Ts_in (in_t3 _ (List.mem_of_getElem? (i := 20) rfl)) rfl
theorem ml_11_238 : Cond.methodLink RX11 238 yX8_roomOf ∈ Ts := Ts_in (in_t5 _ (List.mem_of_getElem? (i := 154) rfl)) rfl
theorem ml_11_241 : Cond.methodLink RX11 241 yX8_wishOf ∈ Ts := Ts_in (in_t5 _ (List.mem_of_getElem? (i := 155) rfl)) rfl
theorem ml_11_244 : Cond.methodLink RX11 244 yX8_copiesIn ∈ Ts := Ts_in (in_t5 _ (List.mem_of_getElem? (i := 156) rfl)) rfl
theorem ml_11_247 : Cond.methodLink RX11 247 yX8_needOf ∈ Ts := Ts_in (in_t5 _ (List.mem_of_getElem? (i := 157) rfl)) rfl
theorem ml_11_253 : Cond.methodLink RX11 253 yX5_copiesFrom ∈ Ts := Ts_in (in_t5 _ (List.mem_of_getElem? (i := 158) rfl)) rfl
theorem ml_11_256 : Cond.methodLink RX11 256 yX5_wonBy ∈ Ts := Ts_in (in_t5 _ (List.mem_of_getElem? (i := 162) rfl)) rfl
theorem ml_11_260 : Cond.methodLink RX11 260 yX4_tighter ∈ Ts := Ts_in (in_t5 _ (List.mem_of_getElem? (i := 167) rfl)) rfl
theorem ml_11_264 : Cond.methodLink RX11 264 yX8_scarceWithout ∈ Ts := Ts_in (in_t5 _ (List.mem_of_getElem? (i := 176) rfl)) rfl
theorem ml_11_267 : Cond.methodLink RX11 267 yX8_lostWithout ∈ Ts := Ts_in (in_t5 _ (List.mem_of_getElem? (i := 180) rfl)) rfl
theorem ml_11_270 : Cond.methodLink RX11 270 yX10_goRound ∈ Ts := Ts_in (in_t5 _ (List.mem_of_getElem? (i := 184) rfl)) rfl
theorem ml_11_279 : Cond.methodLink RX11 279 yX4_apart ∈ Ts := Ts_in (in_t5 _ (List.mem_of_getElem? (i := 188) rfl)) rfl
theorem ml_11_282 : Cond.methodLink RX11 282 yX4_priceOfLibrary ∈ Ts := Ts_in (in_t5 _ (List.mem_of_getElem? (i := 192) rfl)) rfl
theorem ml_11_285 : Cond.methodLink RX11 285 yX8_isWork ∈ Ts := Ts_in (in_t3 _ (List.mem_of_getElem? (i := 11) rfl)) rfl
theorem ml_11_288 : Cond.methodLink RX11 288 yX8_sizeOf ∈ Ts := Ts_in (in_t5 _ (List.mem_of_getElem? (i := 205) rfl)) rfl
theorem ml_11_291 : Cond.methodLink RX11 291 yX8_keepOf ∈ Ts := Ts_in (in_t3 _ (List.mem_of_getElem? (i := 12) rfl)) rfl
theorem ml_11_294 : Cond.methodLink RX11 294 yX8_copiesOf ∈ Ts := Ts_in (in_t5 _ (List.mem_of_getElem? (i := 206) rfl)) rfl
theorem ml_11_297 : Cond.methodLink RX11 297 yX8_spareOf ∈ Ts := Ts_in (in_t3 _ (List.mem_of_getElem? (i := 51) rfl)) rfl
theorem ml_11_300 : Cond.methodLink RX11 300 yX8_shortOf ∈ Ts := Ts_in (in_t5 _ (List.mem_of_getElem? (i := 207) rfl)) rfl
theorem ml_11_303 : Cond.methodLink RX11 303 yX5_copiesOf ∈ Ts := Ts_in (in_t5 _ (List.mem_of_getElem? (i := 208) rfl)) rfl
theorem ml_11_304 : Cond.methodLink RX11 304 yX4_stricter ∈ Ts := Ts_in (in_t5 _ (List.mem_of_getElem? (i := 212) rfl)) rfl
theorem ml_11_307 : Cond.methodLink RX11 307 yX8_holdersOf ∈ Ts := Ts_in (in_t5 _ (List.mem_of_getElem? (i := 219) rfl)) rfl
theorem ml_11_310 : Cond.methodLink RX11 310 yX8_storedOf ∈ Ts := Ts_in (in_t5 _ (List.mem_of_getElem? (i := 223) rfl)) rfl
theorem ml_11_313 : Cond.methodLink RX11 313 yX8_safe ∈ Ts := Ts_in (in_t5 _ (List.mem_of_getElem? (i := 224) rfl)) rfl
theorem ml_11_316 : Cond.methodLink RX11 316 yX4_priceOfWork ∈ Ts := Ts_in (in_t5 _ (List.mem_of_getElem? (i := 228) rfl)) rfl
theorem ml_11_319 : Cond.methodLink RX11 319 yX8_isPair ∈ Ts := Ts_in (in_t2 _ (List.mem_of_getElem? (i := 204) rfl)) rfl
theorem ml_11_323 : Cond.methodLink RX11 323 yX8_heldIn ∈ Ts := Ts_in (in_t2 _ (List.mem_of_getElem? (i := 220) rfl)) rfl
theorem ml_11_327 : Cond.methodLink RX11 327 yX8_muchOf ∈ Ts := Ts_in (in_t3 _ (List.mem_of_getElem? (i := 3) rfl)) rfl
theorem ml_11_330 : Cond.methodLink RX11 330 yX8_untilOf ∈ Ts := Ts_in (in_t5 _ (List.mem_of_getElem? (i := 239) rfl)) rfl
theorem ml_11_333 : Cond.methodLink RX11 333 yX8_promiseCounts ∈ Ts := Ts_in (in_t6 _ (List.mem_of_getElem? (i := 3) rfl)) rfl
theorem ml_11_336 : Cond.methodLink RX11 336 yX8_offerOf ∈ Ts := Ts_in (in_t6 _ (List.mem_of_getElem? (i := 4) rfl)) rfl
theorem ml_11_342 : Cond.methodLink RX11 342 yX11_pairOf ∈ Ts := Ts_in (in_t2 _ (List.mem_of_getElem? (i := 224) rfl)) rfl
theorem ml_11_345 : Cond.methodLink RX11 345 yX8_whyNot ∈ Ts := Ts_in (in_t6 _ (List.mem_of_getElem? (i := 5) rfl)) rfl
theorem ml_11_357 : Cond.methodLink RX11 357 yX11_refuseAct ∈ Ts := Ts_in (in_t2 _ (List.mem_of_getElem? (i := 216) rfl)) rfl
theorem ml_11_360 : Cond.methodLink RX11 360 yX11_act ∈ Ts := Ts_in (in_t2 _ (List.mem_of_getElem? (i := 227) rfl)) rfl
theorem ml_11_364 : Cond.methodLink RX11 364 yX8_mayGo ∈ Ts := Ts_in (in_t3 _ (List.mem_of_getElem? (i := 25) rfl)) rfl
theorem ml_11_367 : Cond.methodLink RX11 367 yX8_mayGive ∈ Ts := Ts_in (in_t3 _ (List.mem_of_getElem? (i := 56) rfl)) rfl
theorem ml_11_371 : Cond.methodLink RX11 371 yX8_maySend ∈ Ts := Ts_in (in_t3 _ (List.mem_of_getElem? (i := 76) rfl)) rfl
theorem ml_11_374 : Cond.methodLink RX11 374 yX5_packed ∈ Ts := Ts_in (in_t3 _ (List.mem_of_getElem? (i := 165) rfl)) rfl
theorem ml_11_381 : Cond.methodLink RX11 381 yX0_add ∈ Ts := Ts_in (in_t2 _ (List.mem_of_getElem? (i := 231) rfl)) rfl
theorem ml_11_385 : Cond.methodLink RX11 385 yX8_withdraw ∈ Ts := Ts_in (in_t3 _ (List.mem_of_getElem? (i := 169) rfl)) rfl
theorem ml_11_389 : Cond.methodLink RX11 389 yX0_undoLast ∈ Ts := Ts_in (in_t3 _ (List.mem_of_getElem? (i := 181) rfl)) rfl
theorem ml_11_392 : Cond.methodLink RX11 392 yX7_addNoted ∈ Ts := Ts_in (in_t3 _ (List.mem_of_getElem? (i := 197) rfl)) rfl
theorem ml_11_395 : Cond.methodLink RX11 395 yX2_find ∈ Ts := Ts_in (in_t6 _ (List.mem_of_getElem? (i := 30) rfl)) rfl
theorem ml_11_402 : Cond.methodLink RX11 402 yX7_allNotedAre ∈ Ts := Ts_in (in_t6 _ (List.mem_of_getElem? (i := 63) rfl)) rfl
theorem ml_11_405 : Cond.methodLink RX11 405 yX2_lookNext ∈ Ts := Ts_in (in_t6 _ (List.mem_of_getElem? (i := 71) rfl)) rfl
theorem ml_11_414 : Cond.methodLink RX11 414 yX1_run ∈ Ts := Ts_in (in_t6 _ (List.mem_of_getElem? (i := 99) rfl)) rfl
theorem ml_11_424 : Cond.methodLink RX11 424 yX7_copyFrom ∈ Ts := Ts_in (in_t3 _ (List.mem_of_getElem? (i := 209) rfl)) rfl
theorem ml_11_426 : Cond.methodLink RX11 426 yX5_make ∈ Ts := Ts_in (in_t3 _ (List.mem_of_getElem? (i := 96) rfl)) rfl
theorem ml_12_87 : Cond.methodLink RX12 87 yX12_cell ∈ Ts := Ts_in (in_t7 _ (List.mem_of_getElem? (i := 123) rfl)) rfl
theorem ml_12_91 : Cond.methodLink RX12 91 yX12_counts ∈ Ts := Ts_in (in_t7 _ (List.mem_of_getElem? (i := 165) rfl)) rfl
theorem ml_12_95 : Cond.methodLink RX12 95 yX12_holds ∈ Ts := Ts_in (in_t7 _ (List.mem_of_getElem? (i := 145) rfl)) rfl
theorem ml_12_99 : Cond.methodLink RX12 99 yX12_greater ∈ Ts := Ts_in (in_t7 _ (List.mem_of_getElem? (i := 126) rfl)) rfl
theorem ml_12_108 : Cond.methodLink RX12 108 yX12_allOf ∈ Ts := Ts_in (in_t7 _ (List.mem_of_getElem? (i := 173) rfl)) rfl
theorem ml_12_111 : Cond.methodLink RX12 111 yX12_inAll ∈ Ts := Ts_in (in_t7 _ (List.mem_of_getElem? (i := 141) rfl)) rfl
theorem ml_12_114 : Cond.methodLink RX12 114 yX12_needOf ∈ Ts := Ts_in (in_t7 _ (List.mem_of_getElem? (i := 157) rfl)) rfl
theorem ml_12_117 : Cond.methodLink RX12 117 yX12_offerOf ∈ Ts := Ts_in (in_t7 _ (List.mem_of_getElem? (i := 161) rfl)) rfl
theorem ml_12_120 : Cond.methodLink RX12 120 yX12_spareOf ∈ Ts := Ts_in (in_t7 _ (List.mem_of_getElem? (i := 169) rfl)) rfl
theorem ml_12_123 : Cond.methodLink RX12 123 yX12_offersOf ∈ Ts := Ts_in (in_t7 _ (List.mem_of_getElem? (i := 189) rfl)) rfl
theorem ml_12_126 : Cond.methodLink RX12 126 yX12_lesser ∈ Ts := Ts_in (in_t7 _ (List.mem_of_getElem? (i := 193) rfl)) rfl
theorem ml_12_135 : Cond.methodLink RX12 135 yX12_lackOf ∈ Ts := Ts_in (in_t7 _ (List.mem_of_getElem? (i := 185) rfl)) rfl
theorem ml_12_139 : Cond.methodLink RX12 139 yX12_bits ∈ Ts := Ts_in (in_t7 _ (List.mem_of_getElem? (i := 196) rfl)) rfl
theorem ml_12_142 : Cond.methodLink RX12 142 yX12_laysShortage ∈ Ts := Ts_in (in_t7 _ (List.mem_of_getElem? (i := 181) rfl)) rfl
theorem ml_12_145 : Cond.methodLink RX12 145 yX12_asks ∈ Ts := Ts_in (in_t7 _ (List.mem_of_getElem? (i := 153) rfl)) rfl
theorem ml_12_149 : Cond.methodLink RX12 149 yX12_isPlan ∈ Ts := Ts_in (in_t7 _ (List.mem_of_getElem? (i := 177) rfl)) rfl
theorem ml_12_153 : Cond.methodLink RX12 153 yX12_turns ∈ Ts := Ts_in (in_t7 _ (List.mem_of_getElem? (i := 215) rfl)) rfl
theorem ml_12_157 : Cond.methodLink RX12 157 yX12_goesOne ∈ Ts := Ts_in (in_t7 _ (List.mem_of_getElem? (i := 211) rfl)) rfl
theorem ml_12_161 : Cond.methodLink RX12 161 yX12_laysMost ∈ Ts := Ts_in (in_t7 _ (List.mem_of_getElem? (i := 207) rfl)) rfl
theorem ml_12_165 : Cond.methodLink RX12 165 yX12_spaceBy ∈ Ts := Ts_in (in_t7 _ (List.mem_of_getElem? (i := 203) rfl)) rfl
theorem ml_12_168 : Cond.methodLink RX12 168 yX12_settles ∈ Ts := Ts_in (in_t7 _ (List.mem_of_getElem? (i := 231) rfl)) rfl
theorem ml_12_172 : Cond.methodLink RX12 172 yX12_spaceOf ∈ Ts := Ts_in (in_t7 _ (List.mem_of_getElem? (i := 199) rfl)) rfl
theorem ml_12_178 : Cond.methodLink RX12 178 yX12_canSettle ∈ Ts := Ts_in (in_t7 _ (List.mem_of_getElem? (i := 223) rfl)) rfl
theorem ml_12_181 : Cond.methodLink RX12 181 yX12_asksBut ∈ Ts := Ts_in (in_t7 _ (List.mem_of_getElem? (i := 227) rfl)) rfl
theorem ml_12_184 : Cond.methodLink RX12 184 yX12_settledSpace ∈ Ts := Ts_in (in_t7 _ (List.mem_of_getElem? (i := 235) rfl)) rfl
theorem ml_12_187 : Cond.methodLink RX12 187 yX12_plannedBy ∈ Ts := Ts_in (in_t8 _ (List.mem_of_getElem? (i := 3) rfl)) rfl
theorem ml_12_190 : Cond.methodLink RX12 190 yX12_plans ∈ Ts := Ts_in (in_t7 _ (List.mem_of_getElem? (i := 219) rfl)) rfl
theorem ml_12_193 : Cond.methodLink RX12 193 yX12_hasMore ∈ Ts := Ts_in (in_t8 _ (List.mem_of_getElem? (i := 11) rfl)) rfl
theorem ml_12_204 : Cond.methodLink RX12 204 yX12_byteAt ∈ Ts := Ts_in (in_t7 _ (List.mem_of_getElem? (i := 79) rfl)) rfl
theorem ml_12_222 : Cond.methodLink RX12 222 yX12_isLetter ∈ Ts := Ts_in (in_t7 _ (List.mem_of_getElem? (i := 83) rfl)) rfl
theorem ml_12_225 : Cond.methodLink RX12 225 yX12_wordFrom ∈ Ts := Ts_in (in_t7 _ (List.mem_of_getElem? (i := 86) rfl)) rfl
theorem ml_12_231 : Cond.methodLink RX12 231 yX12_wants ∈ Ts := Ts_in (in_t7 _ (List.mem_of_getElem? (i := 100) rfl)) rfl
theorem ml_12_235 : Cond.methodLink RX12 235 yX12_within ∈ Ts := Ts_in (in_t7 _ (List.mem_of_getElem? (i := 108) rfl)) rfl
theorem ml_12_238 : Cond.methodLink RX12 238 yX12_go ∈ Ts := Ts_in (in_t7 _ (List.mem_of_getElem? (i := 75) rfl)) rfl
theorem ml_12_244 : Cond.methodLink RX12 244 yX12_number ∈ Ts := Ts_in (in_t7 _ (List.mem_of_getElem? (i := 104) rfl)) rfl
theorem ml_12_253 : Cond.methodLink RX12 253 yX12_storeTold ∈ Ts := Ts_in (in_t7 _ (List.mem_of_getElem? (i := 96) rfl)) rfl
theorem ml_12_256 : Cond.methodLink RX12 256 yX12_library1 ∈ Ts := Ts_in (in_t7 _ (List.mem_of_getElem? (i := 111) rfl)) rfl
theorem ml_12_259 : Cond.methodLink RX12 259 yX12_work1 ∈ Ts := Ts_in (in_t7 _ (List.mem_of_getElem? (i := 115) rfl)) rfl
theorem ml_12_262 : Cond.methodLink RX12 262 yX12_cell1 ∈ Ts := Ts_in (in_t7 _ (List.mem_of_getElem? (i := 119) rfl)) rfl
theorem ml_12_269 : Cond.methodLink RX12 269 yX12_right ∈ Ts := Ts_in (in_t7 _ (List.mem_of_getElem? (i := 71) rfl)) rfl
theorem ml_12_272 : Cond.methodLink RX12 272 yX12_clause1 ∈ Ts := Ts_in (in_t7 _ (List.mem_of_getElem? (i := 92) rfl)) rfl
theorem ml_12_290 : Cond.methodLink RX12 290 yX12_copies ∈ Ts := Ts_in (in_t8 _ (List.mem_of_getElem? (i := 31) rfl)) rfl
theorem ml_12_293 : Cond.methodLink RX12 293 yX12_tries ∈ Ts := Ts_in (in_t8 _ (List.mem_of_getElem? (i := 27) rfl)) rfl
theorem ml_12_296 : Cond.methodLink RX12 296 yX12_isPlanOf ∈ Ts := Ts_in (in_t7 _ (List.mem_of_getElem? (i := 149) rfl)) rfl
theorem ml_12_299 : Cond.methodLink RX12 299 yX12_canGive ∈ Ts := Ts_in (in_t8 _ (List.mem_of_getElem? (i := 55) rfl)) rfl
theorem ml_12_303 : Cond.methodLink RX12 303 yX12_gives ∈ Ts := Ts_in (in_t8 _ (List.mem_of_getElem? (i := 59) rfl)) rfl
theorem ml_12_307 : Cond.methodLink RX12 307 yX12_hasGift ∈ Ts := Ts_in (in_t8 _ (List.mem_of_getElem? (i := 63) rfl)) rfl
theorem ml_12_310 : Cond.methodLink RX12 310 yX12_firstGift ∈ Ts := Ts_in (in_t8 _ (List.mem_of_getElem? (i := 51) rfl)) rfl
theorem ml_12_317 : Cond.methodLink RX12 317 yX12_greatestThatMay ∈ Ts := Ts_in (in_t8 _ (List.mem_of_getElem? (i := 83) rfl)) rfl
theorem ml_12_320 : Cond.methodLink RX12 320 yX12_inOrder ∈ Ts := Ts_in (in_t8 _ (List.mem_of_getElem? (i := 79) rfl)) rfl
theorem ml_12_329 : Cond.methodLink RX12 329 yX12_laysOrder ∈ Ts := Ts_in (in_t8 _ (List.mem_of_getElem? (i := 75) rfl)) rfl
theorem ml_12_332 : Cond.methodLink RX12 332 yX12_nthHeld ∈ Ts := Ts_in (in_t8 _ (List.mem_of_getElem? (i := 139) rfl)) rfl
theorem ml_12_335 : Cond.methodLink RX12 335 yX12_shortWorks ∈ Ts := Ts_in (in_t8 _ (List.mem_of_getElem? (i := 19) rfl)) rfl
theorem ml_12_338 : Cond.methodLink RX12 338 yX12_everything ∈ Ts := Ts_in (in_t7 _ (List.mem_of_getElem? (i := 137) rfl)) rfl
theorem ml_12_341 : Cond.methodLink RX12 341 yX12_planned ∈ Ts := Ts_in (in_t7 _ (List.mem_of_getElem? (i := 239) rfl)) rfl
theorem ml_12_344 : Cond.methodLink RX12 344 yX12_changes ∈ Ts := Ts_in (in_t8 _ (List.mem_of_getElem? (i := 7) rfl)) rfl
theorem ml_12_347 : Cond.methodLink RX12 347 yX12_shortageTold ∈ Ts := Ts_in (in_t8 _ (List.mem_of_getElem? (i := 15) rfl)) rfl
theorem ml_12_350 : Cond.methodLink RX12 350 yX12_late ∈ Ts := Ts_in (in_t8 _ (List.mem_of_getElem? (i := 23) rfl)) rfl
theorem ml_12_353 : Cond.methodLink RX12 353 yX12_inTheWay ∈ Ts := Ts_in (in_t8 _ (List.mem_of_getElem? (i := 35) rfl)) rfl
theorem ml_12_357 : Cond.methodLink RX12 357 yX12_lastOnes ∈ Ts := Ts_in (in_t8 _ (List.mem_of_getElem? (i := 39) rfl)) rfl
theorem ml_12_360 : Cond.methodLink RX12 360 yX12_shortOnes ∈ Ts := Ts_in (in_t8 _ (List.mem_of_getElem? (i := 43) rfl)) rfl
theorem ml_12_363 : Cond.methodLink RX12 363 yX12_help ∈ Ts := Ts_in (in_t8 _ (List.mem_of_getElem? (i := 47) rfl)) rfl
theorem ml_12_366 : Cond.methodLink RX12 366 yX12_stored ∈ Ts := Ts_in (in_t8 _ (List.mem_of_getElem? (i := 67) rfl)) rfl
theorem ml_12_369 : Cond.methodLink RX12 369 yX12_laysOrders ∈ Ts := Ts_in (in_t8 _ (List.mem_of_getElem? (i := 71) rfl)) rfl
theorem ml_12_372 : Cond.methodLink RX12 372 yX12_isLibrary ∈ Ts := Ts_in (in_t8 _ (List.mem_of_getElem? (i := 91) rfl)) rfl
theorem ml_12_375 : Cond.methodLink RX12 375 yX12_wonBy ∈ Ts := Ts_in (in_t8 _ (List.mem_of_getElem? (i := 95) rfl)) rfl
theorem ml_12_378 : Cond.methodLink RX12 378 yX12_tighter ∈ Ts := Ts_in (in_t8 _ (List.mem_of_getElem? (i := 99) rfl)) rfl
theorem ml_12_381 : Cond.methodLink RX12 381 yX12_lostWith ∈ Ts := Ts_in (in_t8 _ (List.mem_of_getElem? (i := 103) rfl)) rfl
theorem ml_12_385 : Cond.methodLink RX12 385 yX12_byTurns ∈ Ts := Ts_in (in_t8 _ (List.mem_of_getElem? (i := 107) rfl)) rfl
theorem ml_12_388 : Cond.methodLink RX12 388 yX12_priceBy ∈ Ts := Ts_in (in_t8 _ (List.mem_of_getElem? (i := 111) rfl)) rfl
theorem ml_12_391 : Cond.methodLink RX12 391 yX12_isWork ∈ Ts := Ts_in (in_t8 _ (List.mem_of_getElem? (i := 119) rfl)) rfl
theorem ml_12_394 : Cond.methodLink RX12 394 yX12_plannedOf ∈ Ts := Ts_in (in_t8 _ (List.mem_of_getElem? (i := 123) rfl)) rfl
theorem ml_12_397 : Cond.methodLink RX12 397 yX12_stricter ∈ Ts := Ts_in (in_t8 _ (List.mem_of_getElem? (i := 127) rfl)) rfl
theorem ml_12_400 : Cond.methodLink RX12 400 yX12_holders ∈ Ts := Ts_in (in_t8 _ (List.mem_of_getElem? (i := 131) rfl)) rfl
theorem ml_12_403 : Cond.methodLink RX12 403 yX12_safe ∈ Ts := Ts_in (in_t8 _ (List.mem_of_getElem? (i := 135) rfl)) rfl
theorem ml_12_406 : Cond.methodLink RX12 406 yX12_why ∈ Ts := Ts_in (in_t8 _ (List.mem_of_getElem? (i := 147) rfl)) rfl
theorem ml_12_409 : Cond.methodLink RX12 409 yX12_keptAt ∈ Ts := Ts_in (in_t8 _ (List.mem_of_getElem? (i := 179) rfl)) rfl
theorem ml_12_412 : Cond.methodLink RX12 412 yX12_keeps ∈ Ts := Ts_in (in_t8 _ (List.mem_of_getElem? (i := 175) rfl)) rfl
theorem ml_12_415 : Cond.methodLink RX12 415 yX12_isCell ∈ Ts := Ts_in (in_t8 _ (List.mem_of_getElem? (i := 163) rfl)) rfl
theorem ml_12_418 : Cond.methodLink RX12 418 yX12_refuses ∈ Ts := Ts_in (in_t8 _ (List.mem_of_getElem? (i := 167) rfl)) rfl
theorem ml_12_421 : Cond.methodLink RX12 421 yX12_tells ∈ Ts := Ts_in (in_t8 _ (List.mem_of_getElem? (i := 171) rfl)) rfl
theorem ml_12_424 : Cond.methodLink RX12 424 yX12_goes ∈ Ts := Ts_in (in_t8 _ (List.mem_of_getElem? (i := 198) rfl)) rfl
theorem ml_12_427 : Cond.methodLink RX12 427 yX12_carries ∈ Ts := Ts_in (in_t8 _ (List.mem_of_getElem? (i := 214) rfl)) rfl
theorem ml_12_433 : Cond.methodLink RX12 433 yX12_isNoted ∈ Ts := Ts_in (in_t8 _ (List.mem_of_getElem? (i := 234) rfl)) rfl
theorem ml_12_436 : Cond.methodLink RX12 436 yX12_laysFits ∈ Ts := Ts_in (in_t8 _ (List.mem_of_getElem? (i := 238) rfl)) rfl
theorem ml_12_439 : Cond.methodLink RX12 439 yX12_laysSpaces ∈ Ts := Ts_in (in_t9 _ (List.mem_of_getElem? (i := 6) rfl)) rfl
theorem ml_12_442 : Cond.methodLink RX12 442 yX12_unlike ∈ Ts := Ts_in (in_t9 _ (List.mem_of_getElem? (i := 10) rfl)) rfl
theorem ml_12_449 : Cond.methodLink RX12 449 yX12_draw ∈ Ts := Ts_in (in_t9 _ (List.mem_of_getElem? (i := 22) rfl)) rfl
theorem ml_12_455 : Cond.methodLink RX12 455 yX12_drawnOnes ∈ Ts := Ts_in (in_t9 _ (List.mem_of_getElem? (i := 27) rfl)) rfl
theorem mn_5_47 : Cond.methodLinkNest RX5 47 yX11_pairOf "CopyKeeper" ∈ lw_tbl := (in_t3 _ (List.mem_of_getElem? (i := 154) rfl))
theorem mn_8_73 : Cond.methodLinkNest RX8 73 yX11_pairOf "CopyKeeper" ∈ lw_tbl := (in_t5 _ (List.mem_of_getElem? (i := 111) rfl))
theorem mn_10_83 : Cond.methodLinkNest RX10 83 yX11_pairOf "CopyKeeper" ∈ lw_tbl := (in_t5 _ (List.mem_of_getElem? (i := 130) rfl))
theorem mn_1_62 : Cond.methodLinkNest RX1 62 yX11_pairOf "CopyKeeper" ∈ lw_tbl := (in_t6 _ (List.mem_of_getElem? (i := 123) rfl))
theorem mo_0_clear : MO m0_clear 0 false := ⟨Ts_in (in_t4 _ (List.mem_of_getElem? (i := 198) rfl)) rfl, Ts_in (in_t1 _ (List.mem_of_getElem? (i := 4) rfl)) rfl, ⟨by decide +kernel, by decide +kernel, by decide +kernel⟩, ⟨Ts_in (in_t4 _ (List.mem_of_getElem? (i := 196) rfl)) rfl, Ts_in (in_t4 _ (List.mem_of_getElem? (i := 197) rfl)) rfl⟩⟩
theorem mo_0_copyFrom : MO m0_copyFrom 1 false := ⟨Ts_in (in_t3 _ (List.mem_of_getElem? (i := 223) rfl)) rfl, Ts_in (in_t1 _ (List.mem_of_getElem? (i := 4) rfl)) rfl, ⟨by decide +kernel, by decide +kernel, by decide +kernel⟩, ⟨Ts_in (in_t3 _ (List.mem_of_getElem? (i := 221) rfl)) rfl, Ts_in (in_t3 _ (List.mem_of_getElem? (i := 222) rfl)) rfl⟩⟩
theorem mo_0_add : MO m0_add 5 false := ⟨Ts_in (in_t2 _ (List.mem_of_getElem? (i := 234) rfl)) rfl, Ts_in (in_t1 _ (List.mem_of_getElem? (i := 4) rfl)) rfl, ⟨by decide +kernel, by decide +kernel, by decide +kernel⟩, ⟨Ts_in (in_t2 _ (List.mem_of_getElem? (i := 232) rfl)) rfl, Ts_in (in_t2 _ (List.mem_of_getElem? (i := 233) rfl)) rfl⟩⟩
theorem mo_0_undoLast : MO m0_undoLast 1 false := ⟨Ts_in (in_t3 _ (List.mem_of_getElem? (i := 184) rfl)) rfl, Ts_in (in_t1 _ (List.mem_of_getElem? (i := 4) rfl)) rfl, ⟨by decide +kernel, by decide +kernel, by decide +kernel⟩, ⟨Ts_in (in_t3 _ (List.mem_of_getElem? (i := 182) rfl)) rfl, Ts_in (in_t3 _ (List.mem_of_getElem? (i := 183) rfl)) rfl⟩⟩
theorem mo_0_slot : MO m0_slot 1 false := ⟨Ts_in (in_t2 _ (List.mem_of_getElem? (i := 238) rfl)) rfl, Ts_in (in_t1 _ (List.mem_of_getElem? (i := 4) rfl)) rfl, ⟨by decide +kernel, by decide +kernel, by decide +kernel⟩, ⟨Ts_in (in_t2 _ (List.mem_of_getElem? (i := 237) rfl)) rfl, Ts_in (in_s1 _ (List.mem_of_getElem? (i := 3) rfl)) rfl⟩⟩
theorem mo_0_putBack : MO m0_putBack 2 false := ⟨Ts_in (in_t3 _ (List.mem_of_getElem? (i := 188) rfl)) rfl, Ts_in (in_t1 _ (List.mem_of_getElem? (i := 4) rfl)) rfl, ⟨by decide +kernel, by decide +kernel, by decide +kernel⟩, ⟨Ts_in (in_t3 _ (List.mem_of_getElem? (i := 187) rfl)) rfl, Ts_in (in_s1 _ (List.mem_of_getElem? (i := 10) rfl)) rfl⟩⟩
theorem mo_1_run : MO m1_run 3 false := ⟨Ts_in (in_t6 _ (List.mem_of_getElem? (i := 102) rfl)) rfl, Ts_in (in_t1 _ (List.mem_of_getElem? (i := 12) rfl)) rfl, ⟨by decide +kernel, by decide +kernel, by decide +kernel⟩, ⟨Ts_in (in_t6 _ (List.mem_of_getElem? (i := 100) rfl)) rfl, Ts_in (in_t6 _ (List.mem_of_getElem? (i := 101) rfl)) rfl⟩⟩
theorem mo_1_draw : MO m1_draw 1 false := ⟨Ts_in (in_t6 _ (List.mem_of_getElem? (i := 107) rfl)) rfl, Ts_in (in_t1 _ (List.mem_of_getElem? (i := 12) rfl)) rfl, ⟨by decide +kernel, by decide +kernel, by decide +kernel⟩, ⟨Ts_in (in_t6 _ (List.mem_of_getElem? (i := 106) rfl)) rfl, Ts_in (in_s3 _ (List.mem_of_getElem? (i := 14) rfl)) rfl⟩⟩
theorem mo_1_moveCopy : MO m1_moveCopy 1 false := ⟨Ts_in (in_t6 _ (List.mem_of_getElem? (i := 122) rfl)) rfl, Ts_in (in_t1 _ (List.mem_of_getElem? (i := 12) rfl)) rfl, ⟨by decide +kernel, by decide +kernel, by decide +kernel⟩, ⟨Ts_in (in_t6 _ (List.mem_of_getElem? (i := 121) rfl)) rfl, Ts_in (in_s4 _ (List.mem_of_getElem? (i := 0) rfl)) rfl⟩⟩
theorem mo_1_carryOut : MO m1_carryOut 0 false := ⟨Ts_in (in_t6 _ (List.mem_of_getElem? (i := 113) rfl)) rfl, Ts_in (in_t1 _ (List.mem_of_getElem? (i := 12) rfl)) rfl, ⟨by decide +kernel, by decide +kernel, by decide +kernel⟩, ⟨Ts_in (in_t6 _ (List.mem_of_getElem? (i := 112) rfl)) rfl, Ts_in (in_s3 _ (List.mem_of_getElem? (i := 15) rfl)) rfl⟩⟩
theorem mo_2_find : MO m2_find 1 false := ⟨Ts_in (in_t6 _ (List.mem_of_getElem? (i := 33) rfl)) rfl, Ts_in (in_t1 _ (List.mem_of_getElem? (i := 11) rfl)) rfl, ⟨by decide +kernel, by decide +kernel, by decide +kernel⟩, ⟨Ts_in (in_t6 _ (List.mem_of_getElem? (i := 31) rfl)) rfl, Ts_in (in_t6 _ (List.mem_of_getElem? (i := 32) rfl)) rfl⟩⟩
theorem mo_2_findOf : MO m2_findOf 2 false := ⟨Ts_in (in_t6 _ (List.mem_of_getElem? (i := 39) rfl)) rfl, Ts_in (in_t1 _ (List.mem_of_getElem? (i := 11) rfl)) rfl, ⟨by decide +kernel, by decide +kernel, by decide +kernel⟩, ⟨Ts_in (in_t6 _ (List.mem_of_getElem? (i := 38) rfl)) rfl, Ts_in (in_s3 _ (List.mem_of_getElem? (i := 8) rfl)) rfl⟩⟩
theorem mo_2_spareWith : MO m2_spareWith 3 false := ⟨Ts_in (in_t6 _ (List.mem_of_getElem? (i := 43) rfl)) rfl, Ts_in (in_t1 _ (List.mem_of_getElem? (i := 11) rfl)) rfl, ⟨by decide +kernel, by decide +kernel, by decide +kernel⟩, ⟨Ts_in (in_t6 _ (List.mem_of_getElem? (i := 42) rfl)) rfl, Ts_in (in_s3 _ (List.mem_of_getElem? (i := 9) rfl)) rfl⟩⟩
theorem mo_2_spaceWith : MO m2_spaceWith 2 false := ⟨Ts_in (in_t6 _ (List.mem_of_getElem? (i := 54) rfl)) rfl, Ts_in (in_t1 _ (List.mem_of_getElem? (i := 11) rfl)) rfl, ⟨by decide +kernel, by decide +kernel, by decide +kernel⟩, ⟨Ts_in (in_t6 _ (List.mem_of_getElem? (i := 53) rfl)) rfl, Ts_in (in_s3 _ (List.mem_of_getElem? (i := 10) rfl)) rfl⟩⟩
theorem mo_2_lookNext : MO m2_lookNext 1 false := ⟨Ts_in (in_t6 _ (List.mem_of_getElem? (i := 74) rfl)) rfl, Ts_in (in_t1 _ (List.mem_of_getElem? (i := 11) rfl)) rfl, ⟨by decide +kernel, by decide +kernel, by decide +kernel⟩, ⟨Ts_in (in_t6 _ (List.mem_of_getElem? (i := 72) rfl)) rfl, Ts_in (in_t6 _ (List.mem_of_getElem? (i := 73) rfl)) rfl⟩⟩
theorem mo_2_unlikeWith : MO m2_unlikeWith 2 false := ⟨Ts_in (in_t6 _ (List.mem_of_getElem? (i := 79) rfl)) rfl, Ts_in (in_t1 _ (List.mem_of_getElem? (i := 11) rfl)) rfl, ⟨by decide +kernel, by decide +kernel, by decide +kernel⟩, ⟨Ts_in (in_t6 _ (List.mem_of_getElem? (i := 78) rfl)) rfl, Ts_in (in_s3 _ (List.mem_of_getElem? (i := 11) rfl)) rfl⟩⟩
theorem mo_2_newWith : MO m2_newWith 2 false := ⟨Ts_in (in_t6 _ (List.mem_of_getElem? (i := 87) rfl)) rfl, Ts_in (in_t1 _ (List.mem_of_getElem? (i := 11) rfl)) rfl, ⟨by decide +kernel, by decide +kernel, by decide +kernel⟩, ⟨Ts_in (in_t6 _ (List.mem_of_getElem? (i := 86) rfl)) rfl, Ts_in (in_s3 _ (List.mem_of_getElem? (i := 12) rfl)) rfl⟩⟩
theorem mo_2_markNew : MO m2_markNew 1 false := ⟨Ts_in (in_t6 _ (List.mem_of_getElem? (i := 91) rfl)) rfl, Ts_in (in_t1 _ (List.mem_of_getElem? (i := 11) rfl)) rfl, ⟨by decide +kernel, by decide +kernel, by decide +kernel⟩, ⟨Ts_in (in_t6 _ (List.mem_of_getElem? (i := 90) rfl)) rfl, Ts_in (in_s3 _ (List.mem_of_getElem? (i := 13) rfl)) rfl⟩⟩
theorem mo_3_find : MO m3_find 1 false := ⟨Ts_in (in_t5 _ (List.mem_of_getElem? (i := 81) rfl)) rfl, Ts_in (in_t1 _ (List.mem_of_getElem? (i := 10) rfl)) rfl, ⟨by decide +kernel, by decide +kernel, by decide +kernel⟩, ⟨Ts_in (in_t5 _ (List.mem_of_getElem? (i := 79) rfl)) rfl, Ts_in (in_t5 _ (List.mem_of_getElem? (i := 80) rfl)) rfl⟩⟩
theorem mo_3_firstThatEnds : MO m3_firstThatEnds 0 false := ⟨Ts_in (in_t5 _ (List.mem_of_getElem? (i := 89) rfl)) rfl, Ts_in (in_t1 _ (List.mem_of_getElem? (i := 10) rfl)) rfl, ⟨by decide +kernel, by decide +kernel, by decide +kernel⟩, ⟨Ts_in (in_t5 _ (List.mem_of_getElem? (i := 88) rfl)) rfl, Ts_in (in_s3 _ (List.mem_of_getElem? (i := 1) rfl)) rfl⟩⟩
theorem mo_3_ends : MO m3_ends 3 false := ⟨Ts_in (in_t5 _ (List.mem_of_getElem? (i := 95) rfl)) rfl, Ts_in (in_t1 _ (List.mem_of_getElem? (i := 10) rfl)) rfl, ⟨by decide +kernel, by decide +kernel, by decide +kernel⟩, ⟨Ts_in (in_t5 _ (List.mem_of_getElem? (i := 94) rfl)) rfl, Ts_in (in_s3 _ (List.mem_of_getElem? (i := 2) rfl)) rfl⟩⟩
theorem mo_3_lackThen : MO m3_lackThen 3 false := ⟨Ts_in (in_t5 _ (List.mem_of_getElem? (i := 99) rfl)) rfl, Ts_in (in_t1 _ (List.mem_of_getElem? (i := 10) rfl)) rfl, ⟨by decide +kernel, by decide +kernel, by decide +kernel⟩, ⟨Ts_in (in_t5 _ (List.mem_of_getElem? (i := 98) rfl)) rfl, Ts_in (in_s3 _ (List.mem_of_getElem? (i := 3) rfl)) rfl⟩⟩
theorem mo_3_firstOfTwo : MO m3_firstOfTwo 0 false := ⟨Ts_in (in_t5 _ (List.mem_of_getElem? (i := 104) rfl)) rfl, Ts_in (in_t1 _ (List.mem_of_getElem? (i := 10) rfl)) rfl, ⟨by decide +kernel, by decide +kernel, by decide +kernel⟩, ⟨Ts_in (in_t5 _ (List.mem_of_getElem? (i := 103) rfl)) rfl, Ts_in (in_s3 _ (List.mem_of_getElem? (i := 4) rfl)) rfl⟩⟩
theorem mo_4_late : MO m4_late 1 false := ⟨Ts_in (in_t5 _ (List.mem_of_getElem? (i := 45) rfl)) rfl, Ts_in (in_t1 _ (List.mem_of_getElem? (i := 8) rfl)) rfl, ⟨by decide +kernel, by decide +kernel, by decide +kernel⟩, ⟨Ts_in (in_t5 _ (List.mem_of_getElem? (i := 43) rfl)) rfl, Ts_in (in_t5 _ (List.mem_of_getElem? (i := 44) rfl)) rfl⟩⟩
theorem mo_4_findInTheWay : MO m4_findInTheWay 1 false := ⟨Ts_in (in_t5 _ (List.mem_of_getElem? (i := 59) rfl)) rfl, Ts_in (in_t1 _ (List.mem_of_getElem? (i := 8) rfl)) rfl, ⟨by decide +kernel, by decide +kernel, by decide +kernel⟩, ⟨Ts_in (in_t5 _ (List.mem_of_getElem? (i := 57) rfl)) rfl, Ts_in (in_t5 _ (List.mem_of_getElem? (i := 58) rfl)) rfl⟩⟩
theorem mo_4_spaceWithout : MO m4_spaceWithout 3 false := ⟨Ts_in (in_t5 _ (List.mem_of_getElem? (i := 67) rfl)) rfl, Ts_in (in_t1 _ (List.mem_of_getElem? (i := 8) rfl)) rfl, ⟨by decide +kernel, by decide +kernel, by decide +kernel⟩, ⟨Ts_in (in_t5 _ (List.mem_of_getElem? (i := 66) rfl)) rfl, Ts_in (in_s2 _ (List.mem_of_getElem? (i := 15) rfl)) rfl⟩⟩
theorem mo_4_stricter : MO m4_stricter 2 false := ⟨Ts_in (in_t5 _ (List.mem_of_getElem? (i := 215) rfl)) rfl, Ts_in (in_t1 _ (List.mem_of_getElem? (i := 8) rfl)) rfl, ⟨by decide +kernel, by decide +kernel, by decide +kernel⟩, ⟨Ts_in (in_t5 _ (List.mem_of_getElem? (i := 213) rfl)) rfl, Ts_in (in_t5 _ (List.mem_of_getElem? (i := 214) rfl)) rfl⟩⟩
theorem mo_4_tighter : MO m4_tighter 2 false := ⟨Ts_in (in_t5 _ (List.mem_of_getElem? (i := 170) rfl)) rfl, Ts_in (in_t1 _ (List.mem_of_getElem? (i := 8) rfl)) rfl, ⟨by decide +kernel, by decide +kernel, by decide +kernel⟩, ⟨Ts_in (in_t5 _ (List.mem_of_getElem? (i := 168) rfl)) rfl, Ts_in (in_t5 _ (List.mem_of_getElem? (i := 169) rfl)) rfl⟩⟩
theorem mo_4_apart : MO m4_apart 2 false := ⟨Ts_in (in_t5 _ (List.mem_of_getElem? (i := 191) rfl)) rfl, Ts_in (in_t1 _ (List.mem_of_getElem? (i := 8) rfl)) rfl, ⟨by decide +kernel, by decide +kernel, by decide +kernel⟩, ⟨Ts_in (in_t5 _ (List.mem_of_getElem? (i := 189) rfl)) rfl, Ts_in (in_t5 _ (List.mem_of_getElem? (i := 190) rfl)) rfl⟩⟩
theorem mo_4_priceOfWork : MO m4_priceOfWork 2 false := ⟨Ts_in (in_t5 _ (List.mem_of_getElem? (i := 231) rfl)) rfl, Ts_in (in_t1 _ (List.mem_of_getElem? (i := 8) rfl)) rfl, ⟨by decide +kernel, by decide +kernel, by decide +kernel⟩, ⟨Ts_in (in_t5 _ (List.mem_of_getElem? (i := 229) rfl)) rfl, Ts_in (in_t5 _ (List.mem_of_getElem? (i := 230) rfl)) rfl⟩⟩
theorem mo_4_priceOfLibrary : MO m4_priceOfLibrary 2 false := ⟨Ts_in (in_t5 _ (List.mem_of_getElem? (i := 195) rfl)) rfl, Ts_in (in_t1 _ (List.mem_of_getElem? (i := 8) rfl)) rfl, ⟨by decide +kernel, by decide +kernel, by decide +kernel⟩, ⟨Ts_in (in_t5 _ (List.mem_of_getElem? (i := 193) rfl)) rfl, Ts_in (in_t5 _ (List.mem_of_getElem? (i := 194) rfl)) rfl⟩⟩
theorem mo_5_make : MO m5_make 1 false := ⟨Ts_in (in_t3 _ (List.mem_of_getElem? (i := 99) rfl)) rfl, Ts_in (in_t1 _ (List.mem_of_getElem? (i := 7) rfl)) rfl, ⟨by decide +kernel, by decide +kernel, by decide +kernel⟩, ⟨Ts_in (in_t3 _ (List.mem_of_getElem? (i := 97) rfl)) rfl, Ts_in (in_t3 _ (List.mem_of_getElem? (i := 98) rfl)) rfl⟩⟩
theorem mo_5_takeMost : MO m5_takeMost 3 false := ⟨Ts_in (in_t3 _ (List.mem_of_getElem? (i := 153) rfl)) rfl, Ts_in (in_t1 _ (List.mem_of_getElem? (i := 7) rfl)) rfl, ⟨by decide +kernel, by decide +kernel, by decide +kernel⟩, ⟨Ts_in (in_t3 _ (List.mem_of_getElem? (i := 152) rfl)) rfl, Ts_in (in_s1 _ (List.mem_of_getElem? (i := 9) rfl)) rfl⟩⟩
theorem mo_5_copiesFrom : MO m5_copiesFrom 1 false := ⟨Ts_in (in_t5 _ (List.mem_of_getElem? (i := 161) rfl)) rfl, Ts_in (in_t1 _ (List.mem_of_getElem? (i := 7) rfl)) rfl, ⟨by decide +kernel, by decide +kernel, by decide +kernel⟩, ⟨Ts_in (in_t5 _ (List.mem_of_getElem? (i := 159) rfl)) rfl, Ts_in (in_t5 _ (List.mem_of_getElem? (i := 160) rfl)) rfl⟩⟩
theorem mo_5_copiesOf : MO m5_copiesOf 1 false := ⟨Ts_in (in_t5 _ (List.mem_of_getElem? (i := 211) rfl)) rfl, Ts_in (in_t1 _ (List.mem_of_getElem? (i := 7) rfl)) rfl, ⟨by decide +kernel, by decide +kernel, by decide +kernel⟩, ⟨Ts_in (in_t5 _ (List.mem_of_getElem? (i := 209) rfl)) rfl, Ts_in (in_t5 _ (List.mem_of_getElem? (i := 210) rfl)) rfl⟩⟩
theorem mo_5_wonBy : MO m5_wonBy 2 false := ⟨Ts_in (in_t5 _ (List.mem_of_getElem? (i := 165) rfl)) rfl, Ts_in (in_t1 _ (List.mem_of_getElem? (i := 7) rfl)) rfl, ⟨by decide +kernel, by decide +kernel, by decide +kernel⟩, ⟨Ts_in (in_t5 _ (List.mem_of_getElem? (i := 163) rfl)) rfl, Ts_in (in_t5 _ (List.mem_of_getElem? (i := 164) rfl)) rfl⟩⟩
theorem mo_5_packed : MO m5_packed 0 false := ⟨Ts_in (in_t3 _ (List.mem_of_getElem? (i := 168) rfl)) rfl, Ts_in (in_t1 _ (List.mem_of_getElem? (i := 7) rfl)) rfl, ⟨by decide +kernel, by decide +kernel, by decide +kernel⟩, ⟨Ts_in (in_t3 _ (List.mem_of_getElem? (i := 166) rfl)) rfl, Ts_in (in_t3 _ (List.mem_of_getElem? (i := 167) rfl)) rfl⟩⟩
theorem mo_5_changes : MO m5_changes 1 false := ⟨Ts_in (in_t4 _ (List.mem_of_getElem? (i := 237) rfl)) rfl, Ts_in (in_t1 _ (List.mem_of_getElem? (i := 7) rfl)) rfl, ⟨by decide +kernel, by decide +kernel, by decide +kernel⟩, ⟨Ts_in (in_t4 _ (List.mem_of_getElem? (i := 235) rfl)) rfl, Ts_in (in_t4 _ (List.mem_of_getElem? (i := 236) rfl)) rfl⟩⟩
theorem mo_5_changesOf : MO m5_changesOf 3 false := ⟨Ts_in (in_t5 _ (List.mem_of_getElem? (i := 2) rfl)) rfl, Ts_in (in_t1 _ (List.mem_of_getElem? (i := 7) rfl)) rfl, ⟨by decide +kernel, by decide +kernel, by decide +kernel⟩, ⟨Ts_in (in_t5 _ (List.mem_of_getElem? (i := 1) rfl)) rfl, Ts_in (in_s2 _ (List.mem_of_getElem? (i := 12) rfl)) rfl⟩⟩
theorem mo_5_mayMove : MO m5_mayMove 4 false := ⟨Ts_in (in_t5 _ (List.mem_of_getElem? (i := 7) rfl)) rfl, Ts_in (in_t1 _ (List.mem_of_getElem? (i := 7) rfl)) rfl, ⟨by decide +kernel, by decide +kernel, by decide +kernel⟩, ⟨Ts_in (in_t5 _ (List.mem_of_getElem? (i := 6) rfl)) rfl, Ts_in (in_s2 _ (List.mem_of_getElem? (i := 13) rfl)) rfl⟩⟩
theorem mo_6_load : MO m6_load 1 false := ⟨Ts_in (in_t3 _ (List.mem_of_getElem? (i := 103) rfl)) rfl, Ts_in (in_t1 _ (List.mem_of_getElem? (i := 6) rfl)) rfl, ⟨by decide +kernel, by decide +kernel, by decide +kernel⟩, ⟨Ts_in (in_t3 _ (List.mem_of_getElem? (i := 101) rfl)) rfl, Ts_in (in_t3 _ (List.mem_of_getElem? (i := 102) rfl)) rfl⟩⟩
theorem mo_6_rank : MO m6_rank 1 false := ⟨Ts_in (in_t3 _ (List.mem_of_getElem? (i := 141) rfl)) rfl, Ts_in (in_t1 _ (List.mem_of_getElem? (i := 6) rfl)) rfl, ⟨by decide +kernel, by decide +kernel, by decide +kernel⟩, ⟨Ts_in (in_t3 _ (List.mem_of_getElem? (i := 140) rfl)) rfl, Ts_in (in_s1 _ (List.mem_of_getElem? (i := 7) rfl)) rfl⟩⟩
theorem mo_6_sumNeeds : MO m6_sumNeeds 0 false := ⟨Ts_in (in_t3 _ (List.mem_of_getElem? (i := 128) rfl)) rfl, Ts_in (in_t1 _ (List.mem_of_getElem? (i := 6) rfl)) rfl, ⟨by decide +kernel, by decide +kernel, by decide +kernel⟩, ⟨Ts_in (in_t3 _ (List.mem_of_getElem? (i := 127) rfl)) rfl, Ts_in (in_s1 _ (List.mem_of_getElem? (i := 5) rfl)) rfl⟩⟩
theorem mo_6_sumOffers : MO m6_sumOffers 1 false := ⟨Ts_in (in_t3 _ (List.mem_of_getElem? (i := 137) rfl)) rfl, Ts_in (in_t1 _ (List.mem_of_getElem? (i := 6) rfl)) rfl, ⟨by decide +kernel, by decide +kernel, by decide +kernel⟩, ⟨Ts_in (in_t3 _ (List.mem_of_getElem? (i := 136) rfl)) rfl, Ts_in (in_s1 _ (List.mem_of_getElem? (i := 6) rfl)) rfl⟩⟩
theorem mo_6_setSpare : MO m6_setSpare 2 false := ⟨Ts_in (in_t3 _ (List.mem_of_getElem? (i := 159) rfl)) rfl, Ts_in (in_t1 _ (List.mem_of_getElem? (i := 6) rfl)) rfl, ⟨by decide +kernel, by decide +kernel, by decide +kernel⟩, ⟨Ts_in (in_t3 _ (List.mem_of_getElem? (i := 157) rfl)) rfl, Ts_in (in_t3 _ (List.mem_of_getElem? (i := 158) rfl)) rfl⟩⟩
theorem mo_6_setOffer : MO m6_setOffer 3 false := ⟨Ts_in (in_t5 _ (List.mem_of_getElem? (i := 72) rfl)) rfl, Ts_in (in_t1 _ (List.mem_of_getElem? (i := 6) rfl)) rfl, ⟨by decide +kernel, by decide +kernel, by decide +kernel⟩, ⟨Ts_in (in_t5 _ (List.mem_of_getElem? (i := 70) rfl)) rfl, Ts_in (in_t5 _ (List.mem_of_getElem? (i := 71) rfl)) rfl⟩⟩
theorem mo_6_setLibrary : MO m6_setLibrary 3 false := ⟨Ts_in (in_t3 _ (List.mem_of_getElem? (i := 164) rfl)) rfl, Ts_in (in_t1 _ (List.mem_of_getElem? (i := 6) rfl)) rfl, ⟨by decide +kernel, by decide +kernel, by decide +kernel⟩, ⟨Ts_in (in_t3 _ (List.mem_of_getElem? (i := 162) rfl)) rfl, Ts_in (in_t3 _ (List.mem_of_getElem? (i := 163) rfl)) rfl⟩⟩
theorem mo_6_allOffers : MO m6_allOffers 1 false := ⟨Ts_in (in_t6 _ (List.mem_of_getElem? (i := 47) rfl)) rfl, Ts_in (in_t1 _ (List.mem_of_getElem? (i := 6) rfl)) rfl, ⟨by decide +kernel, by decide +kernel, by decide +kernel⟩, ⟨Ts_in (in_t6 _ (List.mem_of_getElem? (i := 45) rfl)) rfl, Ts_in (in_t6 _ (List.mem_of_getElem? (i := 46) rfl)) rfl⟩⟩
theorem mo_6_canTake : MO m6_canTake 1 false := ⟨Ts_in (in_t5 _ (List.mem_of_getElem? (i := 30) rfl)) rfl, Ts_in (in_t1 _ (List.mem_of_getElem? (i := 6) rfl)) rfl, ⟨by decide +kernel, by decide +kernel, by decide +kernel⟩, ⟨Ts_in (in_t5 _ (List.mem_of_getElem? (i := 28) rfl)) rfl, Ts_in (in_t5 _ (List.mem_of_getElem? (i := 29) rfl)) rfl⟩⟩
theorem mo_6_lackOf : MO m6_lackOf 1 false := ⟨Ts_in (in_t5 _ (List.mem_of_getElem? (i := 26) rfl)) rfl, Ts_in (in_t1 _ (List.mem_of_getElem? (i := 6) rfl)) rfl, ⟨by decide +kernel, by decide +kernel, by decide +kernel⟩, ⟨Ts_in (in_t5 _ (List.mem_of_getElem? (i := 24) rfl)) rfl, Ts_in (in_t5 _ (List.mem_of_getElem? (i := 25) rfl)) rfl⟩⟩
theorem mo_6_hasPlan : MO m6_hasPlan 0 false := ⟨Ts_in (in_t5 _ (List.mem_of_getElem? (i := 55) rfl)) rfl, Ts_in (in_t1 _ (List.mem_of_getElem? (i := 6) rfl)) rfl, ⟨by decide +kernel, by decide +kernel, by decide +kernel⟩, ⟨Ts_in (in_t5 _ (List.mem_of_getElem? (i := 53) rfl)) rfl, Ts_in (in_t5 _ (List.mem_of_getElem? (i := 54) rfl)) rfl⟩⟩
theorem mo_6_worstSet : MO m6_worstSet 0 false := ⟨Ts_in (in_t5 _ (List.mem_of_getElem? (i := 22) rfl)) rfl, Ts_in (in_t1 _ (List.mem_of_getElem? (i := 6) rfl)) rfl, ⟨by decide +kernel, by decide +kernel, by decide +kernel⟩, ⟨Ts_in (in_t5 _ (List.mem_of_getElem? (i := 20) rfl)) rfl, Ts_in (in_t5 _ (List.mem_of_getElem? (i := 21) rfl)) rfl⟩⟩
theorem mo_6_scarceWorks : MO m6_scarceWorks 1 false := ⟨Ts_in (in_t5 _ (List.mem_of_getElem? (i := 41) rfl)) rfl, Ts_in (in_t1 _ (List.mem_of_getElem? (i := 6) rfl)) rfl, ⟨by decide +kernel, by decide +kernel, by decide +kernel⟩, ⟨Ts_in (in_t5 _ (List.mem_of_getElem? (i := 39) rfl)) rfl, Ts_in (in_t5 _ (List.mem_of_getElem? (i := 40) rfl)) rfl⟩⟩
theorem mo_6_space : MO m6_space 1 false := ⟨Ts_in (in_t3 _ (List.mem_of_getElem? (i := 145) rfl)) rfl, Ts_in (in_t1 _ (List.mem_of_getElem? (i := 6) rfl)) rfl, ⟨by decide +kernel, by decide +kernel, by decide +kernel⟩, ⟨Ts_in (in_t3 _ (List.mem_of_getElem? (i := 143) rfl)) rfl, Ts_in (in_t3 _ (List.mem_of_getElem? (i := 144) rfl)) rfl⟩⟩
theorem mo_6_weighMost : MO m6_weighMost 0 false := ⟨Ts_in (in_t3 _ (List.mem_of_getElem? (i := 149) rfl)) rfl, Ts_in (in_t1 _ (List.mem_of_getElem? (i := 6) rfl)) rfl, ⟨by decide +kernel, by decide +kernel, by decide +kernel⟩, ⟨Ts_in (in_t3 _ (List.mem_of_getElem? (i := 148) rfl)) rfl, Ts_in (in_s1 _ (List.mem_of_getElem? (i := 8) rfl)) rfl⟩⟩
theorem mo_6_copiesOfPlan : MO m6_copiesOfPlan 0 false := ⟨Ts_in (in_t5 _ (List.mem_of_getElem? (i := 14) rfl)) rfl, Ts_in (in_t1 _ (List.mem_of_getElem? (i := 6) rfl)) rfl, ⟨by decide +kernel, by decide +kernel, by decide +kernel⟩, ⟨Ts_in (in_t5 _ (List.mem_of_getElem? (i := 12) rfl)) rfl, Ts_in (in_t5 _ (List.mem_of_getElem? (i := 13) rfl)) rfl⟩⟩
theorem mo_7_copyFrom : MO m7_copyFrom 1 false := ⟨Ts_in (in_t3 _ (List.mem_of_getElem? (i := 212) rfl)) rfl, Ts_in (in_t1 _ (List.mem_of_getElem? (i := 2) rfl)) rfl, ⟨by decide +kernel, by decide +kernel, by decide +kernel⟩, ⟨Ts_in (in_t3 _ (List.mem_of_getElem? (i := 210) rfl)) rfl, Ts_in (in_t3 _ (List.mem_of_getElem? (i := 211) rfl)) rfl⟩⟩
theorem mo_7_addNoted : MO m7_addNoted 1 false := ⟨Ts_in (in_t3 _ (List.mem_of_getElem? (i := 200) rfl)) rfl, Ts_in (in_t1 _ (List.mem_of_getElem? (i := 2) rfl)) rfl, ⟨by decide +kernel, by decide +kernel, by decide +kernel⟩, ⟨Ts_in (in_t3 _ (List.mem_of_getElem? (i := 198) rfl)) rfl, Ts_in (in_t3 _ (List.mem_of_getElem? (i := 199) rfl)) rfl⟩⟩
theorem mo_7_allNotedAre : MO m7_allNotedAre 1 false := ⟨Ts_in (in_t6 _ (List.mem_of_getElem? (i := 61) rfl)) rfl, Ts_in (in_t1 _ (List.mem_of_getElem? (i := 2) rfl)) rfl, ⟨by decide +kernel, by decide +kernel, by decide +kernel⟩, ⟨Ts_in (in_t6 _ (List.mem_of_getElem? (i := 59) rfl)) rfl, Ts_in (in_t6 _ (List.mem_of_getElem? (i := 60) rfl)) rfl⟩⟩
theorem mo_8_clear : MO m8_clear 0 false := ⟨Ts_in (in_t4 _ (List.mem_of_getElem? (i := 68) rfl)) rfl, Ts_in (in_t1 _ (List.mem_of_getElem? (i := 3) rfl)) rfl, ⟨by decide +kernel, by decide +kernel, by decide +kernel⟩, ⟨Ts_in (in_t4 _ (List.mem_of_getElem? (i := 66) rfl)) rfl, Ts_in (in_t4 _ (List.mem_of_getElem? (i := 67) rfl)) rfl⟩⟩
theorem mo_8_copyFrom : MO m8_copyFrom 1 false := ⟨Ts_in (in_t3 _ (List.mem_of_getElem? (i := 216) rfl)) rfl, Ts_in (in_t1 _ (List.mem_of_getElem? (i := 3) rfl)) rfl, ⟨by decide +kernel, by decide +kernel, by decide +kernel⟩, ⟨Ts_in (in_t3 _ (List.mem_of_getElem? (i := 214) rfl)) rfl, Ts_in (in_t3 _ (List.mem_of_getElem? (i := 215) rfl)) rfl⟩⟩
theorem mo_8_libraries : MO m8_libraries 0 false := ⟨Ts_in (in_t3 _ (List.mem_of_getElem? (i := 107) rfl)) rfl, Ts_in (in_t1 _ (List.mem_of_getElem? (i := 3) rfl)) rfl, ⟨by decide +kernel, by decide +kernel, by decide +kernel⟩, ⟨Ts_in (in_t3 _ (List.mem_of_getElem? (i := 105) rfl)) rfl, Ts_in (in_t3 _ (List.mem_of_getElem? (i := 106) rfl)) rfl⟩⟩
theorem mo_8_works : MO m8_works 0 false := ⟨Ts_in (in_t3 _ (List.mem_of_getElem? (i := 114) rfl)) rfl, Ts_in (in_t1 _ (List.mem_of_getElem? (i := 3) rfl)) rfl, ⟨by decide +kernel, by decide +kernel, by decide +kernel⟩, ⟨Ts_in (in_t3 _ (List.mem_of_getElem? (i := 112) rfl)) rfl, Ts_in (in_t3 _ (List.mem_of_getElem? (i := 113) rfl)) rfl⟩⟩
theorem mo_8_addLibrary : MO m8_addLibrary 2 false := ⟨Ts_in (in_t4 _ (List.mem_of_getElem? (i := 164) rfl)) rfl, Ts_in (in_t1 _ (List.mem_of_getElem? (i := 3) rfl)) rfl, ⟨by decide +kernel, by decide +kernel, by decide +kernel⟩, ⟨Ts_in (in_t4 _ (List.mem_of_getElem? (i := 162) rfl)) rfl, Ts_in (in_t4 _ (List.mem_of_getElem? (i := 163) rfl)) rfl⟩⟩
theorem mo_8_addWork : MO m8_addWork 2 false := ⟨Ts_in (in_t4 _ (List.mem_of_getElem? (i := 174) rfl)) rfl, Ts_in (in_t1 _ (List.mem_of_getElem? (i := 3) rfl)) rfl, ⟨by decide +kernel, by decide +kernel, by decide +kernel⟩, ⟨Ts_in (in_t4 _ (List.mem_of_getElem? (i := 172) rfl)) rfl, Ts_in (in_t4 _ (List.mem_of_getElem? (i := 173) rfl)) rfl⟩⟩
theorem mo_8_isLibrary : MO m8_isLibrary 1 false := ⟨Ts_in (in_t2 _ (List.mem_of_getElem? (i := 211) rfl)) rfl, Ts_in (in_t1 _ (List.mem_of_getElem? (i := 3) rfl)) rfl, ⟨by decide +kernel, by decide +kernel, by decide +kernel⟩, ⟨Ts_in (in_t2 _ (List.mem_of_getElem? (i := 209) rfl)) rfl, Ts_in (in_t2 _ (List.mem_of_getElem? (i := 210) rfl)) rfl⟩⟩
theorem mo_8_isWork : MO m8_isWork 1 false := ⟨Ts_in (in_t2 _ (List.mem_of_getElem? (i := 215) rfl)) rfl, Ts_in (in_t1 _ (List.mem_of_getElem? (i := 3) rfl)) rfl, ⟨by decide +kernel, by decide +kernel, by decide +kernel⟩, ⟨Ts_in (in_t2 _ (List.mem_of_getElem? (i := 213) rfl)) rfl, Ts_in (in_t2 _ (List.mem_of_getElem? (i := 214) rfl)) rfl⟩⟩
theorem mo_8_isPair : MO m8_isPair 2 false := ⟨Ts_in (in_t2 _ (List.mem_of_getElem? (i := 207) rfl)) rfl, Ts_in (in_t1 _ (List.mem_of_getElem? (i := 3) rfl)) rfl, ⟨by decide +kernel, by decide +kernel, by decide +kernel⟩, ⟨Ts_in (in_t2 _ (List.mem_of_getElem? (i := 205) rfl)) rfl, Ts_in (in_t2 _ (List.mem_of_getElem? (i := 206) rfl)) rfl⟩⟩
theorem mo_8_roomOf : MO m8_roomOf 1 false := ⟨Ts_in (in_t3 _ (List.mem_of_getElem? (i := 71) rfl)) rfl, Ts_in (in_t1 _ (List.mem_of_getElem? (i := 3) rfl)) rfl, ⟨by decide +kernel, by decide +kernel, by decide +kernel⟩, ⟨Ts_in (in_t3 _ (List.mem_of_getElem? (i := 69) rfl)) rfl, Ts_in (in_t3 _ (List.mem_of_getElem? (i := 70) rfl)) rfl⟩⟩
theorem mo_8_wishOf : MO m8_wishOf 1 false := ⟨Ts_in (in_t3 _ (List.mem_of_getElem? (i := 122) rfl)) rfl, Ts_in (in_t1 _ (List.mem_of_getElem? (i := 3) rfl)) rfl, ⟨by decide +kernel, by decide +kernel, by decide +kernel⟩, ⟨Ts_in (in_t3 _ (List.mem_of_getElem? (i := 120) rfl)) rfl, Ts_in (in_t3 _ (List.mem_of_getElem? (i := 121) rfl)) rfl⟩⟩
theorem mo_8_sizeOf : MO m8_sizeOf 1 false := ⟨Ts_in (in_t3 _ (List.mem_of_getElem? (i := 132) rfl)) rfl, Ts_in (in_t1 _ (List.mem_of_getElem? (i := 3) rfl)) rfl, ⟨by decide +kernel, by decide +kernel, by decide +kernel⟩, ⟨Ts_in (in_t3 _ (List.mem_of_getElem? (i := 130) rfl)) rfl, Ts_in (in_t3 _ (List.mem_of_getElem? (i := 131) rfl)) rfl⟩⟩
theorem mo_8_keepOf : MO m8_keepOf 1 false := ⟨Ts_in (in_t3 _ (List.mem_of_getElem? (i := 15) rfl)) rfl, Ts_in (in_t1 _ (List.mem_of_getElem? (i := 3) rfl)) rfl, ⟨by decide +kernel, by decide +kernel, by decide +kernel⟩, ⟨Ts_in (in_t3 _ (List.mem_of_getElem? (i := 13) rfl)) rfl, Ts_in (in_t3 _ (List.mem_of_getElem? (i := 14) rfl)) rfl⟩⟩
theorem mo_8_storedOf : MO m8_storedOf 1 false := ⟨Ts_in (in_t3 _ (List.mem_of_getElem? (i := 87) rfl)) rfl, Ts_in (in_t1 _ (List.mem_of_getElem? (i := 3) rfl)) rfl, ⟨by decide +kernel, by decide +kernel, by decide +kernel⟩, ⟨Ts_in (in_t3 _ (List.mem_of_getElem? (i := 85) rfl)) rfl, Ts_in (in_t3 _ (List.mem_of_getElem? (i := 86) rfl)) rfl⟩⟩
theorem mo_8_heldIn : MO m8_heldIn 2 false := ⟨Ts_in (in_t2 _ (List.mem_of_getElem? (i := 223) rfl)) rfl, Ts_in (in_t1 _ (List.mem_of_getElem? (i := 3) rfl)) rfl, ⟨by decide +kernel, by decide +kernel, by decide +kernel⟩, ⟨Ts_in (in_t2 _ (List.mem_of_getElem? (i := 221) rfl)) rfl, Ts_in (in_t2 _ (List.mem_of_getElem? (i := 222) rfl)) rfl⟩⟩
theorem mo_8_muchOf : MO m8_muchOf 2 false := ⟨Ts_in (in_t3 _ (List.mem_of_getElem? (i := 6) rfl)) rfl, Ts_in (in_t1 _ (List.mem_of_getElem? (i := 3) rfl)) rfl, ⟨by decide +kernel, by decide +kernel, by decide +kernel⟩, ⟨Ts_in (in_t3 _ (List.mem_of_getElem? (i := 4) rfl)) rfl, Ts_in (in_t3 _ (List.mem_of_getElem? (i := 5) rfl)) rfl⟩⟩
theorem mo_8_untilOf : MO m8_untilOf 2 false := ⟨Ts_in (in_t6 _ (List.mem_of_getElem? (i := 2) rfl)) rfl, Ts_in (in_t1 _ (List.mem_of_getElem? (i := 3) rfl)) rfl, ⟨by decide +kernel, by decide +kernel, by decide +kernel⟩, ⟨Ts_in (in_t6 _ (List.mem_of_getElem? (i := 0) rfl)) rfl, Ts_in (in_t6 _ (List.mem_of_getElem? (i := 1) rfl)) rfl⟩⟩
theorem mo_8_promiseCounts : MO m8_promiseCounts 2 false := ⟨Ts_in (in_t3 _ (List.mem_of_getElem? (i := 37) rfl)) rfl, Ts_in (in_t1 _ (List.mem_of_getElem? (i := 3) rfl)) rfl, ⟨by decide +kernel, by decide +kernel, by decide +kernel⟩, ⟨Ts_in (in_t3 _ (List.mem_of_getElem? (i := 35) rfl)) rfl, Ts_in (in_t3 _ (List.mem_of_getElem? (i := 36) rfl)) rfl⟩⟩
theorem mo_8_offerOf : MO m8_offerOf 2 false := ⟨Ts_in (in_t3 _ (List.mem_of_getElem? (i := 32) rfl)) rfl, Ts_in (in_t1 _ (List.mem_of_getElem? (i := 3) rfl)) rfl, ⟨by decide +kernel, by decide +kernel, by decide +kernel⟩, ⟨Ts_in (in_t3 _ (List.mem_of_getElem? (i := 30) rfl)) rfl, Ts_in (in_t3 _ (List.mem_of_getElem? (i := 31) rfl)) rfl⟩⟩
theorem mo_8_copiesIn : MO m8_copiesIn 1 false := ⟨Ts_in (in_t3 _ (List.mem_of_getElem? (i := 67) rfl)) rfl, Ts_in (in_t1 _ (List.mem_of_getElem? (i := 3) rfl)) rfl, ⟨by decide +kernel, by decide +kernel, by decide +kernel⟩, ⟨Ts_in (in_t3 _ (List.mem_of_getElem? (i := 65) rfl)) rfl, Ts_in (in_t3 _ (List.mem_of_getElem? (i := 66) rfl)) rfl⟩⟩
theorem mo_8_copiesHeld : MO m8_copiesHeld 0 false := ⟨Ts_in (in_t4 _ (List.mem_of_getElem? (i := 216) rfl)) rfl, Ts_in (in_t1 _ (List.mem_of_getElem? (i := 3) rfl)) rfl, ⟨by decide +kernel, by decide +kernel, by decide +kernel⟩, ⟨Ts_in (in_t4 _ (List.mem_of_getElem? (i := 214) rfl)) rfl, Ts_in (in_t4 _ (List.mem_of_getElem? (i := 215) rfl)) rfl⟩⟩
theorem mo_8_copiesStored : MO m8_copiesStored 0 false := ⟨Ts_in (in_t3 _ (List.mem_of_getElem? (i := 83) rfl)) rfl, Ts_in (in_t1 _ (List.mem_of_getElem? (i := 3) rfl)) rfl, ⟨by decide +kernel, by decide +kernel, by decide +kernel⟩, ⟨Ts_in (in_t3 _ (List.mem_of_getElem? (i := 81) rfl)) rfl, Ts_in (in_t3 _ (List.mem_of_getElem? (i := 82) rfl)) rfl⟩⟩
theorem mo_8_copiesOf : MO m8_copiesOf 1 false := ⟨Ts_in (in_t3 _ (List.mem_of_getElem? (i := 46) rfl)) rfl, Ts_in (in_t1 _ (List.mem_of_getElem? (i := 3) rfl)) rfl, ⟨by decide +kernel, by decide +kernel, by decide +kernel⟩, ⟨Ts_in (in_t3 _ (List.mem_of_getElem? (i := 44) rfl)) rfl, Ts_in (in_t3 _ (List.mem_of_getElem? (i := 45) rfl)) rfl⟩⟩
theorem mo_8_spareOf : MO m8_spareOf 1 false := ⟨Ts_in (in_t3 _ (List.mem_of_getElem? (i := 42) rfl)) rfl, Ts_in (in_t1 _ (List.mem_of_getElem? (i := 3) rfl)) rfl, ⟨by decide +kernel, by decide +kernel, by decide +kernel⟩, ⟨Ts_in (in_t3 _ (List.mem_of_getElem? (i := 40) rfl)) rfl, Ts_in (in_t3 _ (List.mem_of_getElem? (i := 41) rfl)) rfl⟩⟩
theorem mo_8_shortOf : MO m8_shortOf 1 false := ⟨Ts_in (in_t4 _ (List.mem_of_getElem? (i := 228) rfl)) rfl, Ts_in (in_t1 _ (List.mem_of_getElem? (i := 3) rfl)) rfl, ⟨by decide +kernel, by decide +kernel, by decide +kernel⟩, ⟨Ts_in (in_t4 _ (List.mem_of_getElem? (i := 226) rfl)) rfl, Ts_in (in_t4 _ (List.mem_of_getElem? (i := 227) rfl)) rfl⟩⟩
theorem mo_8_needOf : MO m8_needOf 1 false := ⟨Ts_in (in_t3 _ (List.mem_of_getElem? (i := 118) rfl)) rfl, Ts_in (in_t1 _ (List.mem_of_getElem? (i := 3) rfl)) rfl, ⟨by decide +kernel, by decide +kernel, by decide +kernel⟩, ⟨Ts_in (in_t3 _ (List.mem_of_getElem? (i := 116) rfl)) rfl, Ts_in (in_t3 _ (List.mem_of_getElem? (i := 117) rfl)) rfl⟩⟩
theorem mo_8_mayGo : MO m8_mayGo 2 false := ⟨Ts_in (in_t3 _ (List.mem_of_getElem? (i := 28) rfl)) rfl, Ts_in (in_t1 _ (List.mem_of_getElem? (i := 3) rfl)) rfl, ⟨by decide +kernel, by decide +kernel, by decide +kernel⟩, ⟨Ts_in (in_t3 _ (List.mem_of_getElem? (i := 26) rfl)) rfl, Ts_in (in_t3 _ (List.mem_of_getElem? (i := 27) rfl)) rfl⟩⟩
theorem mo_8_whyNot : MO m8_whyNot 2 false := ⟨Ts_in (in_t6 _ (List.mem_of_getElem? (i := 8) rfl)) rfl, Ts_in (in_t1 _ (List.mem_of_getElem? (i := 3) rfl)) rfl, ⟨by decide +kernel, by decide +kernel, by decide +kernel⟩, ⟨Ts_in (in_t6 _ (List.mem_of_getElem? (i := 6) rfl)) rfl, Ts_in (in_t6 _ (List.mem_of_getElem? (i := 7) rfl)) rfl⟩⟩
theorem mo_8_hasRoom : MO m8_hasRoom 1 false := ⟨Ts_in (in_t3 _ (List.mem_of_getElem? (i := 63) rfl)) rfl, Ts_in (in_t1 _ (List.mem_of_getElem? (i := 3) rfl)) rfl, ⟨by decide +kernel, by decide +kernel, by decide +kernel⟩, ⟨Ts_in (in_t3 _ (List.mem_of_getElem? (i := 61) rfl)) rfl, Ts_in (in_t3 _ (List.mem_of_getElem? (i := 62) rfl)) rfl⟩⟩
theorem mo_8_mayGive : MO m8_mayGive 3 false := ⟨Ts_in (in_t3 _ (List.mem_of_getElem? (i := 59) rfl)) rfl, Ts_in (in_t1 _ (List.mem_of_getElem? (i := 3) rfl)) rfl, ⟨by decide +kernel, by decide +kernel, by decide +kernel⟩, ⟨Ts_in (in_t3 _ (List.mem_of_getElem? (i := 57) rfl)) rfl, Ts_in (in_t3 _ (List.mem_of_getElem? (i := 58) rfl)) rfl⟩⟩
theorem mo_8_maySend : MO m8_maySend 2 false := ⟨Ts_in (in_t3 _ (List.mem_of_getElem? (i := 79) rfl)) rfl, Ts_in (in_t1 _ (List.mem_of_getElem? (i := 3) rfl)) rfl, ⟨by decide +kernel, by decide +kernel, by decide +kernel⟩, ⟨Ts_in (in_t3 _ (List.mem_of_getElem? (i := 77) rfl)) rfl, Ts_in (in_t3 _ (List.mem_of_getElem? (i := 78) rfl)) rfl⟩⟩
theorem mo_8_moveOne : MO m8_moveOne 3 false := ⟨Ts_in (in_t5 _ (List.mem_of_getElem? (i := 110) rfl)) rfl, Ts_in (in_t1 _ (List.mem_of_getElem? (i := 3) rfl)) rfl, ⟨by decide +kernel, by decide +kernel, by decide +kernel⟩, ⟨Ts_in (in_t5 _ (List.mem_of_getElem? (i := 108) rfl)) rfl, Ts_in (in_t5 _ (List.mem_of_getElem? (i := 109) rfl)) rfl⟩⟩
theorem mo_8_holdersOf : MO m8_holdersOf 1 false := ⟨Ts_in (in_t5 _ (List.mem_of_getElem? (i := 222) rfl)) rfl, Ts_in (in_t1 _ (List.mem_of_getElem? (i := 3) rfl)) rfl, ⟨by decide +kernel, by decide +kernel, by decide +kernel⟩, ⟨Ts_in (in_t5 _ (List.mem_of_getElem? (i := 220) rfl)) rfl, Ts_in (in_t5 _ (List.mem_of_getElem? (i := 221) rfl)) rfl⟩⟩
theorem mo_8_lastWorks : MO m8_lastWorks 0 false := ⟨Ts_in (in_t4 _ (List.mem_of_getElem? (i := 220) rfl)) rfl, Ts_in (in_t1 _ (List.mem_of_getElem? (i := 3) rfl)) rfl, ⟨by decide +kernel, by decide +kernel, by decide +kernel⟩, ⟨Ts_in (in_t4 _ (List.mem_of_getElem? (i := 218) rfl)) rfl, Ts_in (in_t4 _ (List.mem_of_getElem? (i := 219) rfl)) rfl⟩⟩
theorem mo_8_shortWorks : MO m8_shortWorks 0 false := ⟨Ts_in (in_t4 _ (List.mem_of_getElem? (i := 224) rfl)) rfl, Ts_in (in_t1 _ (List.mem_of_getElem? (i := 3) rfl)) rfl, ⟨by decide +kernel, by decide +kernel, by decide +kernel⟩, ⟨Ts_in (in_t4 _ (List.mem_of_getElem? (i := 222) rfl)) rfl, Ts_in (in_t4 _ (List.mem_of_getElem? (i := 223) rfl)) rfl⟩⟩
theorem mo_8_scarceWithout : MO m8_scarceWithout 1 false := ⟨Ts_in (in_t5 _ (List.mem_of_getElem? (i := 179) rfl)) rfl, Ts_in (in_t1 _ (List.mem_of_getElem? (i := 3) rfl)) rfl, ⟨by decide +kernel, by decide +kernel, by decide +kernel⟩, ⟨Ts_in (in_t5 _ (List.mem_of_getElem? (i := 177) rfl)) rfl, Ts_in (in_t5 _ (List.mem_of_getElem? (i := 178) rfl)) rfl⟩⟩
theorem mo_8_lostWithout : MO m8_lostWithout 1 false := ⟨Ts_in (in_t5 _ (List.mem_of_getElem? (i := 183) rfl)) rfl, Ts_in (in_t1 _ (List.mem_of_getElem? (i := 3) rfl)) rfl, ⟨by decide +kernel, by decide +kernel, by decide +kernel⟩, ⟨Ts_in (in_t5 _ (List.mem_of_getElem? (i := 181) rfl)) rfl, Ts_in (in_t5 _ (List.mem_of_getElem? (i := 182) rfl)) rfl⟩⟩
theorem mo_8_safe : MO m8_safe 1 false := ⟨Ts_in (in_t5 _ (List.mem_of_getElem? (i := 227) rfl)) rfl, Ts_in (in_t1 _ (List.mem_of_getElem? (i := 3) rfl)) rfl, ⟨by decide +kernel, by decide +kernel, by decide +kernel⟩, ⟨Ts_in (in_t5 _ (List.mem_of_getElem? (i := 225) rfl)) rfl, Ts_in (in_t5 _ (List.mem_of_getElem? (i := 226) rfl)) rfl⟩⟩
theorem mo_8_promiseEndsWith : MO m8_promiseEndsWith 1 false := ⟨Ts_in (in_t5 _ (List.mem_of_getElem? (i := 50) rfl)) rfl, Ts_in (in_t1 _ (List.mem_of_getElem? (i := 3) rfl)) rfl, ⟨by decide +kernel, by decide +kernel, by decide +kernel⟩, ⟨Ts_in (in_t5 _ (List.mem_of_getElem? (i := 48) rfl)) rfl, Ts_in (in_t5 _ (List.mem_of_getElem? (i := 49) rfl)) rfl⟩⟩
theorem mo_8_withdraw : MO m8_withdraw 1 false := ⟨Ts_in (in_t3 _ (List.mem_of_getElem? (i := 172) rfl)) rfl, Ts_in (in_t1 _ (List.mem_of_getElem? (i := 3) rfl)) rfl, ⟨by decide +kernel, by decide +kernel, by decide +kernel⟩, ⟨Ts_in (in_t3 _ (List.mem_of_getElem? (i := 170) rfl)) rfl, Ts_in (in_t3 _ (List.mem_of_getElem? (i := 171) rfl)) rfl⟩⟩
theorem mo_8_putBack : MO m8_putBack 1 false := ⟨Ts_in (in_t3 _ (List.mem_of_getElem? (i := 192) rfl)) rfl, Ts_in (in_t1 _ (List.mem_of_getElem? (i := 3) rfl)) rfl, ⟨by decide +kernel, by decide +kernel, by decide +kernel⟩, ⟨Ts_in (in_t3 _ (List.mem_of_getElem? (i := 190) rfl)) rfl, Ts_in (in_t3 _ (List.mem_of_getElem? (i := 191) rfl)) rfl⟩⟩
theorem mo_9_read : MO m9_read 3 false := ⟨Ts_in (in_t4 _ (List.mem_of_getElem? (i := 63) rfl)) rfl, Ts_in (in_t1 _ (List.mem_of_getElem? (i := 5) rfl)) rfl, ⟨by decide +kernel, by decide +kernel, by decide +kernel⟩, ⟨Ts_in (in_t4 _ (List.mem_of_getElem? (i := 61) rfl)) rfl, Ts_in (in_t4 _ (List.mem_of_getElem? (i := 62) rfl)) rfl⟩⟩
theorem mo_9_refuse : MO m9_refuse 1 false := ⟨Ts_in (in_t4 _ (List.mem_of_getElem? (i := 148) rfl)) rfl, Ts_in (in_t1 _ (List.mem_of_getElem? (i := 5) rfl)) rfl, ⟨by decide +kernel, by decide +kernel, by decide +kernel⟩, ⟨Ts_in (in_t4 _ (List.mem_of_getElem? (i := 147) rfl)) rfl, Ts_in (in_s2 _ (List.mem_of_getElem? (i := 1) rfl)) rfl⟩⟩
theorem mo_9_byteAt : MO m9_byteAt 1 false := ⟨Ts_in (in_t4 _ (List.mem_of_getElem? (i := 76) rfl)) rfl, Ts_in (in_t1 _ (List.mem_of_getElem? (i := 5) rfl)) rfl, ⟨by decide +kernel, by decide +kernel, by decide +kernel⟩, ⟨Ts_in (in_t4 _ (List.mem_of_getElem? (i := 75) rfl)) rfl, Ts_in (in_s1 _ (List.mem_of_getElem? (i := 13) rfl)) rfl⟩⟩
theorem mo_9_isLetter : MO m9_isLetter 1 true := ⟨Ts_in (in_t4 _ (List.mem_of_getElem? (i := 79) rfl)) rfl, Ts_in (in_t1 _ (List.mem_of_getElem? (i := 5) rfl)) rfl, ⟨by decide +kernel, by decide +kernel, by decide +kernel⟩, Ts_in (in_t4 _ (List.mem_of_getElem? (i := 78) rfl)) rfl⟩
theorem mo_9_isDigit : MO m9_isDigit 1 true := ⟨Ts_in (in_t4 _ (List.mem_of_getElem? (i := 82) rfl)) rfl, Ts_in (in_t1 _ (List.mem_of_getElem? (i := 5) rfl)) rfl, ⟨by decide +kernel, by decide +kernel, by decide +kernel⟩, Ts_in (in_t4 _ (List.mem_of_getElem? (i := 81) rfl)) rfl⟩
theorem mo_9_next : MO m9_next 0 false := ⟨Ts_in (in_t4 _ (List.mem_of_getElem? (i := 72) rfl)) rfl, Ts_in (in_t1 _ (List.mem_of_getElem? (i := 5) rfl)) rfl, ⟨by decide +kernel, by decide +kernel, by decide +kernel⟩, ⟨Ts_in (in_t4 _ (List.mem_of_getElem? (i := 71) rfl)) rfl, Ts_in (in_s1 _ (List.mem_of_getElem? (i := 12) rfl)) rfl⟩⟩
theorem mo_9_wordIs : MO m9_wordIs 1 false := ⟨Ts_in (in_t4 _ (List.mem_of_getElem? (i := 91) rfl)) rfl, Ts_in (in_t1 _ (List.mem_of_getElem? (i := 5) rfl)) rfl, ⟨by decide +kernel, by decide +kernel, by decide +kernel⟩, ⟨Ts_in (in_t4 _ (List.mem_of_getElem? (i := 90) rfl)) rfl, Ts_in (in_s1 _ (List.mem_of_getElem? (i := 15) rfl)) rfl⟩⟩
theorem mo_9_readClause : MO m9_readClause 0 false := ⟨Ts_in (in_t4 _ (List.mem_of_getElem? (i := 86) rfl)) rfl, Ts_in (in_t1 _ (List.mem_of_getElem? (i := 5) rfl)) rfl, ⟨by decide +kernel, by decide +kernel, by decide +kernel⟩, ⟨Ts_in (in_t4 _ (List.mem_of_getElem? (i := 85) rfl)) rfl, Ts_in (in_s1 _ (List.mem_of_getElem? (i := 14) rfl)) rfl⟩⟩
theorem mo_9_readLibraryClause : MO m9_readLibraryClause 0 false := ⟨Ts_in (in_t4 _ (List.mem_of_getElem? (i := 143) rfl)) rfl, Ts_in (in_t1 _ (List.mem_of_getElem? (i := 5) rfl)) rfl, ⟨by decide +kernel, by decide +kernel, by decide +kernel⟩, ⟨Ts_in (in_t4 _ (List.mem_of_getElem? (i := 142) rfl)) rfl, Ts_in (in_s2 _ (List.mem_of_getElem? (i := 0) rfl)) rfl⟩⟩
theorem mo_9_readWorkClause : MO m9_readWorkClause 0 false := ⟨Ts_in (in_t4 _ (List.mem_of_getElem? (i := 169) rfl)) rfl, Ts_in (in_t1 _ (List.mem_of_getElem? (i := 5) rfl)) rfl, ⟨by decide +kernel, by decide +kernel, by decide +kernel⟩, ⟨Ts_in (in_t4 _ (List.mem_of_getElem? (i := 168) rfl)) rfl, Ts_in (in_s2 _ (List.mem_of_getElem? (i := 5) rfl)) rfl⟩⟩
theorem mo_9_readHoldsClause : MO m9_readHoldsClause 0 false := ⟨Ts_in (in_t4 _ (List.mem_of_getElem? (i := 179) rfl)) rfl, Ts_in (in_t1 _ (List.mem_of_getElem? (i := 5) rfl)) rfl, ⟨by decide +kernel, by decide +kernel, by decide +kernel⟩, ⟨Ts_in (in_t4 _ (List.mem_of_getElem? (i := 178) rfl)) rfl, Ts_in (in_s2 _ (List.mem_of_getElem? (i := 6) rfl)) rfl⟩⟩
theorem mo_9_readPromiseClause : MO m9_readPromiseClause 0 false := ⟨Ts_in (in_t4 _ (List.mem_of_getElem? (i := 188) rfl)) rfl, Ts_in (in_t1 _ (List.mem_of_getElem? (i := 5) rfl)) rfl, ⟨by decide +kernel, by decide +kernel, by decide +kernel⟩, ⟨Ts_in (in_t4 _ (List.mem_of_getElem? (i := 187) rfl)) rfl, Ts_in (in_s2 _ (List.mem_of_getElem? (i := 8) rfl)) rfl⟩⟩
theorem mo_9_readStoreClause : MO m9_readStoreClause 0 false := ⟨Ts_in (in_t4 _ (List.mem_of_getElem? (i := 193) rfl)) rfl, Ts_in (in_t1 _ (List.mem_of_getElem? (i := 5) rfl)) rfl, ⟨by decide +kernel, by decide +kernel, by decide +kernel⟩, ⟨Ts_in (in_t4 _ (List.mem_of_getElem? (i := 192) rfl)) rfl, Ts_in (in_s2 _ (List.mem_of_getElem? (i := 9) rfl)) rfl⟩⟩
theorem mo_9_readNumberOf : MO m9_readNumberOf 3 false := ⟨Ts_in (in_t4 _ (List.mem_of_getElem? (i := 183) rfl)) rfl, Ts_in (in_t1 _ (List.mem_of_getElem? (i := 5) rfl)) rfl, ⟨by decide +kernel, by decide +kernel, by decide +kernel⟩, ⟨Ts_in (in_t4 _ (List.mem_of_getElem? (i := 182) rfl)) rfl, Ts_in (in_s2 _ (List.mem_of_getElem? (i := 7) rfl)) rfl⟩⟩
theorem mo_9_readNumber : MO m9_readNumber 2 false := ⟨Ts_in (in_t4 _ (List.mem_of_getElem? (i := 152) rfl)) rfl, Ts_in (in_t1 _ (List.mem_of_getElem? (i := 5) rfl)) rfl, ⟨by decide +kernel, by decide +kernel, by decide +kernel⟩, ⟨Ts_in (in_t4 _ (List.mem_of_getElem? (i := 151) rfl)) rfl, Ts_in (in_s2 _ (List.mem_of_getElem? (i := 2) rfl)) rfl⟩⟩
theorem mo_9_checkNumber : MO m9_checkNumber 2 false := ⟨Ts_in (in_t4 _ (List.mem_of_getElem? (i := 156) rfl)) rfl, Ts_in (in_t1 _ (List.mem_of_getElem? (i := 5) rfl)) rfl, ⟨by decide +kernel, by decide +kernel, by decide +kernel⟩, ⟨Ts_in (in_t4 _ (List.mem_of_getElem? (i := 155) rfl)) rfl, Ts_in (in_s2 _ (List.mem_of_getElem? (i := 3) rfl)) rfl⟩⟩
theorem mo_9_readSign : MO m9_readSign 0 false := ⟨Ts_in (in_t4 _ (List.mem_of_getElem? (i := 160) rfl)) rfl, Ts_in (in_t1 _ (List.mem_of_getElem? (i := 5) rfl)) rfl, ⟨by decide +kernel, by decide +kernel, by decide +kernel⟩, ⟨Ts_in (in_t4 _ (List.mem_of_getElem? (i := 159) rfl)) rfl, Ts_in (in_s2 _ (List.mem_of_getElem? (i := 4) rfl)) rfl⟩⟩
theorem mo_10_begin : MO m10_begin 1 false := ⟨Ts_in (in_t5 _ (List.mem_of_getElem? (i := 119) rfl)) rfl, Ts_in (in_t1 _ (List.mem_of_getElem? (i := 9) rfl)) rfl, ⟨by decide +kernel, by decide +kernel, by decide +kernel⟩, ⟨Ts_in (in_t5 _ (List.mem_of_getElem? (i := 118) rfl)) rfl, Ts_in (in_s3 _ (List.mem_of_getElem? (i := 5) rfl)) rfl⟩⟩
theorem mo_10_goRound : MO m10_goRound 2 false := ⟨Ts_in (in_t5 _ (List.mem_of_getElem? (i := 187) rfl)) rfl, Ts_in (in_t1 _ (List.mem_of_getElem? (i := 9) rfl)) rfl, ⟨by decide +kernel, by decide +kernel, by decide +kernel⟩, ⟨Ts_in (in_t5 _ (List.mem_of_getElem? (i := 185) rfl)) rfl, Ts_in (in_t5 _ (List.mem_of_getElem? (i := 186) rfl)) rfl⟩⟩
theorem mo_10_findOrders : MO m10_findOrders 1 false := ⟨Ts_in (in_t5 _ (List.mem_of_getElem? (i := 115) rfl)) rfl, Ts_in (in_t1 _ (List.mem_of_getElem? (i := 9) rfl)) rfl, ⟨by decide +kernel, by decide +kernel, by decide +kernel⟩, ⟨Ts_in (in_t5 _ (List.mem_of_getElem? (i := 113) rfl)) rfl, Ts_in (in_t5 _ (List.mem_of_getElem? (i := 114) rfl)) rfl⟩⟩
theorem mo_10_lineUp : MO m10_lineUp 3 false := ⟨Ts_in (in_t5 _ (List.mem_of_getElem? (i := 124) rfl)) rfl, Ts_in (in_t1 _ (List.mem_of_getElem? (i := 9) rfl)) rfl, ⟨by decide +kernel, by decide +kernel, by decide +kernel⟩, ⟨Ts_in (in_t5 _ (List.mem_of_getElem? (i := 123) rfl)) rfl, Ts_in (in_s3 _ (List.mem_of_getElem? (i := 6) rfl)) rfl⟩⟩
theorem mo_10_withdraw : MO m10_withdraw 2 false := ⟨Ts_in (in_t5 _ (List.mem_of_getElem? (i := 129) rfl)) rfl, Ts_in (in_t1 _ (List.mem_of_getElem? (i := 9) rfl)) rfl, ⟨by decide +kernel, by decide +kernel, by decide +kernel⟩, ⟨Ts_in (in_t5 _ (List.mem_of_getElem? (i := 128) rfl)) rfl, Ts_in (in_s3 _ (List.mem_of_getElem? (i := 7) rfl)) rfl⟩⟩
theorem mo_11_feed : MO m11_feed 5 false := ⟨Ts_in (in_t2 _ (List.mem_of_getElem? (i := 191) rfl)) rfl, Ts_in (in_t1 _ (List.mem_of_getElem? (i := 1) rfl)) rfl, ⟨by decide +kernel, by decide +kernel, by decide +kernel⟩, ⟨Ts_in (in_t2 _ (List.mem_of_getElem? (i := 189) rfl)) rfl, Ts_in (in_t2 _ (List.mem_of_getElem? (i := 190) rfl)) rfl⟩⟩
theorem mo_11_putOnTape : MO m11_putOnTape 1 false := ⟨Ts_in (in_t2 _ (List.mem_of_getElem? (i := 195) rfl)) rfl, Ts_in (in_t1 _ (List.mem_of_getElem? (i := 1) rfl)) rfl, ⟨by decide +kernel, by decide +kernel, by decide +kernel⟩, ⟨Ts_in (in_t2 _ (List.mem_of_getElem? (i := 194) rfl)) rfl, Ts_in (in_s1 _ (List.mem_of_getElem? (i := 0) rfl)) rfl⟩⟩
theorem mo_11_desk : MO m11_desk 1 false := ⟨Ts_in (in_t3 _ (List.mem_of_getElem? (i := 237) rfl)) rfl, Ts_in (in_t1 _ (List.mem_of_getElem? (i := 1) rfl)) rfl, ⟨by decide +kernel, by decide +kernel, by decide +kernel⟩, ⟨Ts_in (in_t3 _ (List.mem_of_getElem? (i := 235) rfl)) rfl, Ts_in (in_t3 _ (List.mem_of_getElem? (i := 236) rfl)) rfl⟩⟩
theorem mo_11_fault : MO m11_fault 0 false := ⟨Ts_in (in_t2 _ (List.mem_of_getElem? (i := 199) rfl)) rfl, Ts_in (in_t1 _ (List.mem_of_getElem? (i := 1) rfl)) rfl, ⟨by decide +kernel, by decide +kernel, by decide +kernel⟩, ⟨Ts_in (in_t2 _ (List.mem_of_getElem? (i := 197) rfl)) rfl, Ts_in (in_t2 _ (List.mem_of_getElem? (i := 198) rfl)) rfl⟩⟩
theorem mo_11_count : MO m11_count 1 false := ⟨Ts_in (in_t4 _ (List.mem_of_getElem? (i := 206) rfl)) rfl, Ts_in (in_t1 _ (List.mem_of_getElem? (i := 1) rfl)) rfl, ⟨by decide +kernel, by decide +kernel, by decide +kernel⟩, ⟨Ts_in (in_t4 _ (List.mem_of_getElem? (i := 204) rfl)) rfl, Ts_in (in_t4 _ (List.mem_of_getElem? (i := 205) rfl)) rfl⟩⟩
theorem mo_11_countInStock : MO m11_countInStock 1 false := ⟨Ts_in (in_t4 _ (List.mem_of_getElem? (i := 210) rfl)) rfl, Ts_in (in_t1 _ (List.mem_of_getElem? (i := 1) rfl)) rfl, ⟨by decide +kernel, by decide +kernel, by decide +kernel⟩, ⟨Ts_in (in_t4 _ (List.mem_of_getElem? (i := 209) rfl)) rfl, Ts_in (in_s2 _ (List.mem_of_getElem? (i := 10) rfl)) rfl⟩⟩
theorem mo_11_countOfPlan : MO m11_countOfPlan 1 false := ⟨Ts_in (in_t4 _ (List.mem_of_getElem? (i := 233) rfl)) rfl, Ts_in (in_t1 _ (List.mem_of_getElem? (i := 1) rfl)) rfl, ⟨by decide +kernel, by decide +kernel, by decide +kernel⟩, ⟨Ts_in (in_t4 _ (List.mem_of_getElem? (i := 232) rfl)) rfl, Ts_in (in_s2 _ (List.mem_of_getElem? (i := 11) rfl)) rfl⟩⟩
theorem mo_11_countOfShortage : MO m11_countOfShortage 1 false := ⟨Ts_in (in_t5 _ (List.mem_of_getElem? (i := 18) rfl)) rfl, Ts_in (in_t1 _ (List.mem_of_getElem? (i := 1) rfl)) rfl, ⟨by decide +kernel, by decide +kernel, by decide +kernel⟩, ⟨Ts_in (in_t5 _ (List.mem_of_getElem? (i := 17) rfl)) rfl, Ts_in (in_s2 _ (List.mem_of_getElem? (i := 14) rfl)) rfl⟩⟩
theorem mo_11_countOfDesk : MO m11_countOfDesk 1 false := ⟨Ts_in (in_t5 _ (List.mem_of_getElem? (i := 77) rfl)) rfl, Ts_in (in_t1 _ (List.mem_of_getElem? (i := 1) rfl)) rfl, ⟨by decide +kernel, by decide +kernel, by decide +kernel⟩, ⟨Ts_in (in_t5 _ (List.mem_of_getElem? (i := 76) rfl)) rfl, Ts_in (in_s3 _ (List.mem_of_getElem? (i := 0) rfl)) rfl⟩⟩
theorem mo_11_library : MO m11_library 2 false := ⟨Ts_in (in_t5 _ (List.mem_of_getElem? (i := 153) rfl)) rfl, Ts_in (in_t1 _ (List.mem_of_getElem? (i := 1) rfl)) rfl, ⟨by decide +kernel, by decide +kernel, by decide +kernel⟩, ⟨Ts_in (in_t5 _ (List.mem_of_getElem? (i := 151) rfl)) rfl, Ts_in (in_t5 _ (List.mem_of_getElem? (i := 152) rfl)) rfl⟩⟩
theorem mo_11_work : MO m11_work 2 false := ⟨Ts_in (in_t5 _ (List.mem_of_getElem? (i := 204) rfl)) rfl, Ts_in (in_t1 _ (List.mem_of_getElem? (i := 1) rfl)) rfl, ⟨by decide +kernel, by decide +kernel, by decide +kernel⟩, ⟨Ts_in (in_t5 _ (List.mem_of_getElem? (i := 202) rfl)) rfl, Ts_in (in_t5 _ (List.mem_of_getElem? (i := 203) rfl)) rfl⟩⟩
theorem mo_11_held : MO m11_held 3 false := ⟨Ts_in (in_t5 _ (List.mem_of_getElem? (i := 238) rfl)) rfl, Ts_in (in_t1 _ (List.mem_of_getElem? (i := 1) rfl)) rfl, ⟨by decide +kernel, by decide +kernel, by decide +kernel⟩, ⟨Ts_in (in_t5 _ (List.mem_of_getElem? (i := 236) rfl)) rfl, Ts_in (in_t5 _ (List.mem_of_getElem? (i := 237) rfl)) rfl⟩⟩
theorem mo_11_lack : MO m11_lack 1 false := ⟨Ts_in (in_t6 _ (List.mem_of_getElem? (i := 15) rfl)) rfl, Ts_in (in_t1 _ (List.mem_of_getElem? (i := 1) rfl)) rfl, ⟨by decide +kernel, by decide +kernel, by decide +kernel⟩, ⟨Ts_in (in_t6 _ (List.mem_of_getElem? (i := 13) rfl)) rfl, Ts_in (in_t6 _ (List.mem_of_getElem? (i := 14) rfl)) rfl⟩⟩
theorem mo_11_order : MO m11_order 1 false := ⟨Ts_in (in_t6 _ (List.mem_of_getElem? (i := 22) rfl)) rfl, Ts_in (in_t1 _ (List.mem_of_getElem? (i := 1) rfl)) rfl, ⟨by decide +kernel, by decide +kernel, by decide +kernel⟩, ⟨Ts_in (in_t6 _ (List.mem_of_getElem? (i := 20) rfl)) rfl, Ts_in (in_t6 _ (List.mem_of_getElem? (i := 21) rfl)) rfl⟩⟩
theorem mo_11_own : MO m11_own 3 false := ⟨Ts_in (in_t2 _ (List.mem_of_getElem? (i := 203) rfl)) rfl, Ts_in (in_t1 _ (List.mem_of_getElem? (i := 1) rfl)) rfl, ⟨by decide +kernel, by decide +kernel, by decide +kernel⟩, ⟨Ts_in (in_t2 _ (List.mem_of_getElem? (i := 201) rfl)) rfl, Ts_in (in_t2 _ (List.mem_of_getElem? (i := 202) rfl)) rfl⟩⟩
theorem mo_11_promise : MO m11_promise 4 false := ⟨Ts_in (in_t3 _ (List.mem_of_getElem? (i := 2) rfl)) rfl, Ts_in (in_t1 _ (List.mem_of_getElem? (i := 1) rfl)) rfl, ⟨by decide +kernel, by decide +kernel, by decide +kernel⟩, ⟨Ts_in (in_t3 _ (List.mem_of_getElem? (i := 0) rfl)) rfl, Ts_in (in_t3 _ (List.mem_of_getElem? (i := 1) rfl)) rfl⟩⟩
theorem mo_11_keep : MO m11_keep 2 false := ⟨Ts_in (in_t3 _ (List.mem_of_getElem? (i := 10) rfl)) rfl, Ts_in (in_t1 _ (List.mem_of_getElem? (i := 1) rfl)) rfl, ⟨by decide +kernel, by decide +kernel, by decide +kernel⟩, ⟨Ts_in (in_t3 _ (List.mem_of_getElem? (i := 8) rfl)) rfl, Ts_in (in_t3 _ (List.mem_of_getElem? (i := 9) rfl)) rfl⟩⟩
theorem mo_11_room : MO m11_room 3 false := ⟨Ts_in (in_t3 _ (List.mem_of_getElem? (i := 19) rfl)) rfl, Ts_in (in_t1 _ (List.mem_of_getElem? (i := 1) rfl)) rfl, ⟨by decide +kernel, by decide +kernel, by decide +kernel⟩, ⟨Ts_in (in_t3 _ (List.mem_of_getElem? (i := 17) rfl)) rfl, Ts_in (in_t3 _ (List.mem_of_getElem? (i := 18) rfl)) rfl⟩⟩
theorem mo_11_go : MO m11_go 2 false := ⟨Ts_in (in_t3 _ (List.mem_of_getElem? (i := 24) rfl)) rfl, Ts_in (in_t1 _ (List.mem_of_getElem? (i := 1) rfl)) rfl, ⟨by decide +kernel, by decide +kernel, by decide +kernel⟩, ⟨Ts_in (in_t3 _ (List.mem_of_getElem? (i := 22) rfl)) rfl, Ts_in (in_t3 _ (List.mem_of_getElem? (i := 23) rfl)) rfl⟩⟩
theorem mo_11_give : MO m11_give 3 false := ⟨Ts_in (in_t3 _ (List.mem_of_getElem? (i := 55) rfl)) rfl, Ts_in (in_t1 _ (List.mem_of_getElem? (i := 1) rfl)) rfl, ⟨by decide +kernel, by decide +kernel, by decide +kernel⟩, ⟨Ts_in (in_t3 _ (List.mem_of_getElem? (i := 53) rfl)) rfl, Ts_in (in_t3 _ (List.mem_of_getElem? (i := 54) rfl)) rfl⟩⟩
theorem mo_11_send : MO m11_send 2 false := ⟨Ts_in (in_t3 _ (List.mem_of_getElem? (i := 75) rfl)) rfl, Ts_in (in_t1 _ (List.mem_of_getElem? (i := 1) rfl)) rfl, ⟨by decide +kernel, by decide +kernel, by decide +kernel⟩, ⟨Ts_in (in_t3 _ (List.mem_of_getElem? (i := 73) rfl)) rfl, Ts_in (in_t3 _ (List.mem_of_getElem? (i := 74) rfl)) rfl⟩⟩
theorem mo_11_carry : MO m11_carry 0 false := ⟨Ts_in (in_t3 _ (List.mem_of_getElem? (i := 91) rfl)) rfl, Ts_in (in_t1 _ (List.mem_of_getElem? (i := 1) rfl)) rfl, ⟨by decide +kernel, by decide +kernel, by decide +kernel⟩, ⟨Ts_in (in_t3 _ (List.mem_of_getElem? (i := 89) rfl)) rfl, Ts_in (in_t3 _ (List.mem_of_getElem? (i := 90) rfl)) rfl⟩⟩
theorem mo_11_years : MO m11_years 1 false := ⟨Ts_in (in_t3 _ (List.mem_of_getElem? (i := 176) rfl)) rfl, Ts_in (in_t1 _ (List.mem_of_getElem? (i := 1) rfl)) rfl, ⟨by decide +kernel, by decide +kernel, by decide +kernel⟩, ⟨Ts_in (in_t3 _ (List.mem_of_getElem? (i := 174) rfl)) rfl, Ts_in (in_t3 _ (List.mem_of_getElem? (i := 175) rfl)) rfl⟩⟩
theorem mo_11_undo : MO m11_undo 0 false := ⟨Ts_in (in_t3 _ (List.mem_of_getElem? (i := 180) rfl)) rfl, Ts_in (in_t1 _ (List.mem_of_getElem? (i := 1) rfl)) rfl, ⟨by decide +kernel, by decide +kernel, by decide +kernel⟩, ⟨Ts_in (in_t3 _ (List.mem_of_getElem? (i := 178) rfl)) rfl, Ts_in (in_t3 _ (List.mem_of_getElem? (i := 179) rfl)) rfl⟩⟩
theorem mo_11_note : MO m11_note 1 false := ⟨Ts_in (in_t3 _ (List.mem_of_getElem? (i := 196) rfl)) rfl, Ts_in (in_t1 _ (List.mem_of_getElem? (i := 1) rfl)) rfl, ⟨by decide +kernel, by decide +kernel, by decide +kernel⟩, ⟨Ts_in (in_t3 _ (List.mem_of_getElem? (i := 194) rfl)) rfl, Ts_in (in_t3 _ (List.mem_of_getElem? (i := 195) rfl)) rfl⟩⟩
theorem mo_11_fits : MO m11_fits 1 false := ⟨Ts_in (in_t6 _ (List.mem_of_getElem? (i := 29) rfl)) rfl, Ts_in (in_t1 _ (List.mem_of_getElem? (i := 1) rfl)) rfl, ⟨by decide +kernel, by decide +kernel, by decide +kernel⟩, ⟨Ts_in (in_t6 _ (List.mem_of_getElem? (i := 27) rfl)) rfl, Ts_in (in_t6 _ (List.mem_of_getElem? (i := 28) rfl)) rfl⟩⟩
theorem mo_11_look : MO m11_look 1 false := ⟨Ts_in (in_t6 _ (List.mem_of_getElem? (i := 70) rfl)) rfl, Ts_in (in_t1 _ (List.mem_of_getElem? (i := 1) rfl)) rfl, ⟨by decide +kernel, by decide +kernel, by decide +kernel⟩, ⟨Ts_in (in_t6 _ (List.mem_of_getElem? (i := 68) rfl)) rfl, Ts_in (in_t6 _ (List.mem_of_getElem? (i := 69) rfl)) rfl⟩⟩
theorem mo_11_forget : MO m11_forget 0 false := ⟨Ts_in (in_t3 _ (List.mem_of_getElem? (i := 204) rfl)) rfl, Ts_in (in_t1 _ (List.mem_of_getElem? (i := 1) rfl)) rfl, ⟨by decide +kernel, by decide +kernel, by decide +kernel⟩, ⟨Ts_in (in_t3 _ (List.mem_of_getElem? (i := 202) rfl)) rfl, Ts_in (in_t3 _ (List.mem_of_getElem? (i := 203) rfl)) rfl⟩⟩
theorem mo_11_drawn : MO m11_drawn 3 false := ⟨Ts_in (in_t6 _ (List.mem_of_getElem? (i := 98) rfl)) rfl, Ts_in (in_t1 _ (List.mem_of_getElem? (i := 1) rfl)) rfl, ⟨by decide +kernel, by decide +kernel, by decide +kernel⟩, ⟨Ts_in (in_t6 _ (List.mem_of_getElem? (i := 96) rfl)) rfl, Ts_in (in_t6 _ (List.mem_of_getElem? (i := 97) rfl)) rfl⟩⟩
theorem mo_11_image : MO m11_image 0 false := ⟨Ts_in (in_t3 _ (List.mem_of_getElem? (i := 208) rfl)) rfl, Ts_in (in_t1 _ (List.mem_of_getElem? (i := 1) rfl)) rfl, ⟨by decide +kernel, by decide +kernel, by decide +kernel⟩, ⟨Ts_in (in_t3 _ (List.mem_of_getElem? (i := 206) rfl)) rfl, Ts_in (in_t3 _ (List.mem_of_getElem? (i := 207) rfl)) rfl⟩⟩
theorem mo_11_restore : MO m11_restore 0 false := ⟨Ts_in (in_t3 _ (List.mem_of_getElem? (i := 229) rfl)) rfl, Ts_in (in_t1 _ (List.mem_of_getElem? (i := 1) rfl)) rfl, ⟨by decide +kernel, by decide +kernel, by decide +kernel⟩, ⟨Ts_in (in_t3 _ (List.mem_of_getElem? (i := 227) rfl)) rfl, Ts_in (in_t3 _ (List.mem_of_getElem? (i := 228) rfl)) rfl⟩⟩
theorem mo_11_refuseAct : MO m11_refuseAct 0 false := ⟨Ts_in (in_t2 _ (List.mem_of_getElem? (i := 219) rfl)) rfl, Ts_in (in_t1 _ (List.mem_of_getElem? (i := 1) rfl)) rfl, ⟨by decide +kernel, by decide +kernel, by decide +kernel⟩, ⟨Ts_in (in_t2 _ (List.mem_of_getElem? (i := 218) rfl)) rfl, Ts_in (in_s1 _ (List.mem_of_getElem? (i := 1) rfl)) rfl⟩⟩
theorem mo_11_act : MO m11_act 4 false := ⟨Ts_in (in_t2 _ (List.mem_of_getElem? (i := 230) rfl)) rfl, Ts_in (in_t1 _ (List.mem_of_getElem? (i := 1) rfl)) rfl, ⟨by decide +kernel, by decide +kernel, by decide +kernel⟩, ⟨Ts_in (in_t2 _ (List.mem_of_getElem? (i := 229) rfl)) rfl, Ts_in (in_s1 _ (List.mem_of_getElem? (i := 2) rfl)) rfl⟩⟩
theorem mo_11_refreshPlan : MO m11_refreshPlan 0 false := ⟨Ts_in (in_t3 _ (List.mem_of_getElem? (i := 95) rfl)) rfl, Ts_in (in_t1 _ (List.mem_of_getElem? (i := 1) rfl)) rfl, ⟨by decide +kernel, by decide +kernel, by decide +kernel⟩, ⟨Ts_in (in_t3 _ (List.mem_of_getElem? (i := 94) rfl)) rfl, Ts_in (in_s1 _ (List.mem_of_getElem? (i := 4) rfl)) rfl⟩⟩
theorem mo_11_pairOf : MO m11_pairOf 2 true := ⟨Ts_in (in_t2 _ (List.mem_of_getElem? (i := 226) rfl)) rfl, Ts_in (in_t1 _ (List.mem_of_getElem? (i := 1) rfl)) rfl, ⟨by decide +kernel, by decide +kernel, by decide +kernel⟩, Ts_in (in_t2 _ (List.mem_of_getElem? (i := 225) rfl)) rfl⟩
theorem mo_12_thrown : MO m12_thrown 0 false := ⟨Ts_in (in_t7 _ (List.mem_of_getElem? (i := 62) rfl)) rfl, Ts_in (in_t1 _ (List.mem_of_getElem? (i := 13) rfl)) rfl, ⟨by decide +kernel, by decide +kernel, by decide +kernel⟩, ⟨Ts_in (in_t7 _ (List.mem_of_getElem? (i := 60) rfl)) rfl, Ts_in (in_t7 _ (List.mem_of_getElem? (i := 61) rfl)) rfl⟩⟩
theorem mo_12_right : MO m12_right 2 false := ⟨Ts_in (in_t7 _ (List.mem_of_getElem? (i := 74) rfl)) rfl, Ts_in (in_t1 _ (List.mem_of_getElem? (i := 13) rfl)) rfl, ⟨by decide +kernel, by decide +kernel, by decide +kernel⟩, ⟨Ts_in (in_t7 _ (List.mem_of_getElem? (i := 73) rfl)) rfl, Ts_in (in_s4 _ (List.mem_of_getElem? (i := 1) rfl)) rfl⟩⟩
theorem mo_12_within : MO m12_within 3 true := ⟨Ts_in (in_t7 _ (List.mem_of_getElem? (i := 110) rfl)) rfl, Ts_in (in_t1 _ (List.mem_of_getElem? (i := 13) rfl)) rfl, ⟨by decide +kernel, by decide +kernel, by decide +kernel⟩, Ts_in (in_t7 _ (List.mem_of_getElem? (i := 109) rfl)) rfl⟩
theorem mo_12_greater : MO m12_greater 2 true := ⟨Ts_in (in_t7 _ (List.mem_of_getElem? (i := 128) rfl)) rfl, Ts_in (in_t1 _ (List.mem_of_getElem? (i := 13) rfl)) rfl, ⟨by decide +kernel, by decide +kernel, by decide +kernel⟩, Ts_in (in_t7 _ (List.mem_of_getElem? (i := 127) rfl)) rfl⟩
theorem mo_12_lesser : MO m12_lesser 2 true := ⟨Ts_in (in_t7 _ (List.mem_of_getElem? (i := 195) rfl)) rfl, Ts_in (in_t1 _ (List.mem_of_getElem? (i := 13) rfl)) rfl, ⟨by decide +kernel, by decide +kernel, by decide +kernel⟩, Ts_in (in_t7 _ (List.mem_of_getElem? (i := 194) rfl)) rfl⟩
theorem mo_12_copies : MO m12_copies 3 false := ⟨Ts_in (in_t8 _ (List.mem_of_getElem? (i := 34) rfl)) rfl, Ts_in (in_t1 _ (List.mem_of_getElem? (i := 13) rfl)) rfl, ⟨by decide +kernel, by decide +kernel, by decide +kernel⟩, ⟨Ts_in (in_t8 _ (List.mem_of_getElem? (i := 33) rfl)) rfl, Ts_in (in_s6 _ (List.mem_of_getElem? (i := 12) rfl)) rfl⟩⟩
theorem mo_12_cell : MO m12_cell 2 true := ⟨Ts_in (in_t7 _ (List.mem_of_getElem? (i := 125) rfl)) rfl, Ts_in (in_t1 _ (List.mem_of_getElem? (i := 13) rfl)) rfl, ⟨by decide +kernel, by decide +kernel, by decide +kernel⟩, Ts_in (in_t7 _ (List.mem_of_getElem? (i := 124) rfl)) rfl⟩
theorem mo_12_holds : MO m12_holds 3 false := ⟨Ts_in (in_t7 _ (List.mem_of_getElem? (i := 148) rfl)) rfl, Ts_in (in_t1 _ (List.mem_of_getElem? (i := 13) rfl)) rfl, ⟨by decide +kernel, by decide +kernel, by decide +kernel⟩, ⟨Ts_in (in_t7 _ (List.mem_of_getElem? (i := 147) rfl)) rfl, Ts_in (in_s4 _ (List.mem_of_getElem? (i := 14) rfl)) rfl⟩⟩
theorem mo_12_counts : MO m12_counts 3 false := ⟨Ts_in (in_t7 _ (List.mem_of_getElem? (i := 168) rfl)) rfl, Ts_in (in_t1 _ (List.mem_of_getElem? (i := 13) rfl)) rfl, ⟨by decide +kernel, by decide +kernel, by decide +kernel⟩, ⟨Ts_in (in_t7 _ (List.mem_of_getElem? (i := 167) rfl)) rfl, Ts_in (in_s5 _ (List.mem_of_getElem? (i := 3) rfl)) rfl⟩⟩
theorem mo_12_offerOf : MO m12_offerOf 3 false := ⟨Ts_in (in_t7 _ (List.mem_of_getElem? (i := 164) rfl)) rfl, Ts_in (in_t1 _ (List.mem_of_getElem? (i := 13) rfl)) rfl, ⟨by decide +kernel, by decide +kernel, by decide +kernel⟩, ⟨Ts_in (in_t7 _ (List.mem_of_getElem? (i := 163) rfl)) rfl, Ts_in (in_s5 _ (List.mem_of_getElem? (i := 2) rfl)) rfl⟩⟩
theorem mo_12_stored : MO m12_stored 1 false := ⟨Ts_in (in_t8 _ (List.mem_of_getElem? (i := 70) rfl)) rfl, Ts_in (in_t1 _ (List.mem_of_getElem? (i := 13) rfl)) rfl, ⟨by decide +kernel, by decide +kernel, by decide +kernel⟩, ⟨Ts_in (in_t8 _ (List.mem_of_getElem? (i := 69) rfl)) rfl, Ts_in (in_s7 _ (List.mem_of_getElem? (i := 5) rfl)) rfl⟩⟩
theorem mo_12_allOf : MO m12_allOf 2 false := ⟨Ts_in (in_t7 _ (List.mem_of_getElem? (i := 176) rfl)) rfl, Ts_in (in_t1 _ (List.mem_of_getElem? (i := 13) rfl)) rfl, ⟨by decide +kernel, by decide +kernel, by decide +kernel⟩, ⟨Ts_in (in_t7 _ (List.mem_of_getElem? (i := 175) rfl)) rfl, Ts_in (in_s5 _ (List.mem_of_getElem? (i := 5) rfl)) rfl⟩⟩
theorem mo_12_spareOf : MO m12_spareOf 2 false := ⟨Ts_in (in_t7 _ (List.mem_of_getElem? (i := 172) rfl)) rfl, Ts_in (in_t1 _ (List.mem_of_getElem? (i := 13) rfl)) rfl, ⟨by decide +kernel, by decide +kernel, by decide +kernel⟩, ⟨Ts_in (in_t7 _ (List.mem_of_getElem? (i := 171) rfl)) rfl, Ts_in (in_s5 _ (List.mem_of_getElem? (i := 4) rfl)) rfl⟩⟩
theorem mo_12_inAll : MO m12_inAll 2 false := ⟨Ts_in (in_t7 _ (List.mem_of_getElem? (i := 144) rfl)) rfl, Ts_in (in_t1 _ (List.mem_of_getElem? (i := 13) rfl)) rfl, ⟨by decide +kernel, by decide +kernel, by decide +kernel⟩, ⟨Ts_in (in_t7 _ (List.mem_of_getElem? (i := 143) rfl)) rfl, Ts_in (in_s4 _ (List.mem_of_getElem? (i := 13) rfl)) rfl⟩⟩
theorem mo_12_needOf : MO m12_needOf 2 false := ⟨Ts_in (in_t7 _ (List.mem_of_getElem? (i := 160) rfl)) rfl, Ts_in (in_t1 _ (List.mem_of_getElem? (i := 13) rfl)) rfl, ⟨by decide +kernel, by decide +kernel, by decide +kernel⟩, ⟨Ts_in (in_t7 _ (List.mem_of_getElem? (i := 159) rfl)) rfl, Ts_in (in_s5 _ (List.mem_of_getElem? (i := 1) rfl)) rfl⟩⟩
theorem mo_12_everything : MO m12_everything 1 false := ⟨Ts_in (in_t7 _ (List.mem_of_getElem? (i := 140) rfl)) rfl, Ts_in (in_t1 _ (List.mem_of_getElem? (i := 13) rfl)) rfl, ⟨by decide +kernel, by decide +kernel, by decide +kernel⟩, ⟨Ts_in (in_t7 _ (List.mem_of_getElem? (i := 139) rfl)) rfl, Ts_in (in_s4 _ (List.mem_of_getElem? (i := 12) rfl)) rfl⟩⟩
theorem mo_12_asks : MO m12_asks 2 false := ⟨Ts_in (in_t7 _ (List.mem_of_getElem? (i := 156) rfl)) rfl, Ts_in (in_t1 _ (List.mem_of_getElem? (i := 13) rfl)) rfl, ⟨by decide +kernel, by decide +kernel, by decide +kernel⟩, ⟨Ts_in (in_t7 _ (List.mem_of_getElem? (i := 155) rfl)) rfl, Ts_in (in_s5 _ (List.mem_of_getElem? (i := 0) rfl)) rfl⟩⟩
theorem mo_12_offersOf : MO m12_offersOf 2 false := ⟨Ts_in (in_t7 _ (List.mem_of_getElem? (i := 192) rfl)) rfl, Ts_in (in_t1 _ (List.mem_of_getElem? (i := 13) rfl)) rfl, ⟨by decide +kernel, by decide +kernel, by decide +kernel⟩, ⟨Ts_in (in_t7 _ (List.mem_of_getElem? (i := 191) rfl)) rfl, Ts_in (in_s5 _ (List.mem_of_getElem? (i := 9) rfl)) rfl⟩⟩
theorem mo_12_lackOf : MO m12_lackOf 1 false := ⟨Ts_in (in_t7 _ (List.mem_of_getElem? (i := 188) rfl)) rfl, Ts_in (in_t1 _ (List.mem_of_getElem? (i := 13) rfl)) rfl, ⟨by decide +kernel, by decide +kernel, by decide +kernel⟩, ⟨Ts_in (in_t7 _ (List.mem_of_getElem? (i := 187) rfl)) rfl, Ts_in (in_s5 _ (List.mem_of_getElem? (i := 8) rfl)) rfl⟩⟩
theorem mo_12_bits : MO m12_bits 1 true := ⟨Ts_in (in_t7 _ (List.mem_of_getElem? (i := 198) rfl)) rfl, Ts_in (in_t1 _ (List.mem_of_getElem? (i := 13) rfl)) rfl, ⟨by decide +kernel, by decide +kernel, by decide +kernel⟩, Ts_in (in_t7 _ (List.mem_of_getElem? (i := 197) rfl)) rfl⟩
theorem mo_12_laysShortage : MO m12_laysShortage 0 false := ⟨Ts_in (in_t7 _ (List.mem_of_getElem? (i := 184) rfl)) rfl, Ts_in (in_t1 _ (List.mem_of_getElem? (i := 13) rfl)) rfl, ⟨by decide +kernel, by decide +kernel, by decide +kernel⟩, ⟨Ts_in (in_t7 _ (List.mem_of_getElem? (i := 183) rfl)) rfl, Ts_in (in_s5 _ (List.mem_of_getElem? (i := 7) rfl)) rfl⟩⟩
theorem mo_12_shortWorks : MO m12_shortWorks 0 false := ⟨Ts_in (in_t8 _ (List.mem_of_getElem? (i := 22) rfl)) rfl, Ts_in (in_t1 _ (List.mem_of_getElem? (i := 13) rfl)) rfl, ⟨by decide +kernel, by decide +kernel, by decide +kernel⟩, ⟨Ts_in (in_t8 _ (List.mem_of_getElem? (i := 21) rfl)) rfl, Ts_in (in_s6 _ (List.mem_of_getElem? (i := 9) rfl)) rfl⟩⟩
theorem mo_12_isPlan : MO m12_isPlan 0 false := ⟨Ts_in (in_t7 _ (List.mem_of_getElem? (i := 180) rfl)) rfl, Ts_in (in_t1 _ (List.mem_of_getElem? (i := 13) rfl)) rfl, ⟨by decide +kernel, by decide +kernel, by decide +kernel⟩, ⟨Ts_in (in_t7 _ (List.mem_of_getElem? (i := 179) rfl)) rfl, Ts_in (in_s5 _ (List.mem_of_getElem? (i := 6) rfl)) rfl⟩⟩
theorem mo_12_isPlanOf : MO m12_isPlanOf 1 false := ⟨Ts_in (in_t7 _ (List.mem_of_getElem? (i := 152) rfl)) rfl, Ts_in (in_t1 _ (List.mem_of_getElem? (i := 13) rfl)) rfl, ⟨by decide +kernel, by decide +kernel, by decide +kernel⟩, ⟨Ts_in (in_t7 _ (List.mem_of_getElem? (i := 151) rfl)) rfl, Ts_in (in_s4 _ (List.mem_of_getElem? (i := 15) rfl)) rfl⟩⟩
theorem mo_12_goesOne : MO m12_goesOne 1 false := ⟨Ts_in (in_t7 _ (List.mem_of_getElem? (i := 214) rfl)) rfl, Ts_in (in_t1 _ (List.mem_of_getElem? (i := 13) rfl)) rfl, ⟨by decide +kernel, by decide +kernel, by decide +kernel⟩, ⟨Ts_in (in_t7 _ (List.mem_of_getElem? (i := 213) rfl)) rfl, Ts_in (in_s5 _ (List.mem_of_getElem? (i := 13) rfl)) rfl⟩⟩
theorem mo_12_turns : MO m12_turns 1 false := ⟨Ts_in (in_t7 _ (List.mem_of_getElem? (i := 218) rfl)) rfl, Ts_in (in_t1 _ (List.mem_of_getElem? (i := 13) rfl)) rfl, ⟨by decide +kernel, by decide +kernel, by decide +kernel⟩, ⟨Ts_in (in_t7 _ (List.mem_of_getElem? (i := 217) rfl)) rfl, Ts_in (in_s5 _ (List.mem_of_getElem? (i := 14) rfl)) rfl⟩⟩
theorem mo_12_laysMost : MO m12_laysMost 0 false := ⟨Ts_in (in_t7 _ (List.mem_of_getElem? (i := 210) rfl)) rfl, Ts_in (in_t1 _ (List.mem_of_getElem? (i := 13) rfl)) rfl, ⟨by decide +kernel, by decide +kernel, by decide +kernel⟩, ⟨Ts_in (in_t7 _ (List.mem_of_getElem? (i := 209) rfl)) rfl, Ts_in (in_s5 _ (List.mem_of_getElem? (i := 12) rfl)) rfl⟩⟩
theorem mo_12_spaceBy : MO m12_spaceBy 2 false := ⟨Ts_in (in_t7 _ (List.mem_of_getElem? (i := 206) rfl)) rfl, Ts_in (in_t1 _ (List.mem_of_getElem? (i := 13) rfl)) rfl, ⟨by decide +kernel, by decide +kernel, by decide +kernel⟩, ⟨Ts_in (in_t7 _ (List.mem_of_getElem? (i := 205) rfl)) rfl, Ts_in (in_s5 _ (List.mem_of_getElem? (i := 11) rfl)) rfl⟩⟩
theorem mo_12_spaceOf : MO m12_spaceOf 1 false := ⟨Ts_in (in_t7 _ (List.mem_of_getElem? (i := 202) rfl)) rfl, Ts_in (in_t1 _ (List.mem_of_getElem? (i := 13) rfl)) rfl, ⟨by decide +kernel, by decide +kernel, by decide +kernel⟩, ⟨Ts_in (in_t7 _ (List.mem_of_getElem? (i := 201) rfl)) rfl, Ts_in (in_s5 _ (List.mem_of_getElem? (i := 10) rfl)) rfl⟩⟩
theorem mo_12_settles : MO m12_settles 3 false := ⟨Ts_in (in_t7 _ (List.mem_of_getElem? (i := 234) rfl)) rfl, Ts_in (in_t1 _ (List.mem_of_getElem? (i := 13) rfl)) rfl, ⟨by decide +kernel, by decide +kernel, by decide +kernel⟩, ⟨Ts_in (in_t7 _ (List.mem_of_getElem? (i := 233) rfl)) rfl, Ts_in (in_s6 _ (List.mem_of_getElem? (i := 2) rfl)) rfl⟩⟩
theorem mo_12_asksBut : MO m12_asksBut 2 false := ⟨Ts_in (in_t7 _ (List.mem_of_getElem? (i := 230) rfl)) rfl, Ts_in (in_t1 _ (List.mem_of_getElem? (i := 13) rfl)) rfl, ⟨by decide +kernel, by decide +kernel, by decide +kernel⟩, ⟨Ts_in (in_t7 _ (List.mem_of_getElem? (i := 229) rfl)) rfl, Ts_in (in_s6 _ (List.mem_of_getElem? (i := 1) rfl)) rfl⟩⟩
theorem mo_12_settledSpace : MO m12_settledSpace 1 false := ⟨Ts_in (in_t7 _ (List.mem_of_getElem? (i := 238) rfl)) rfl, Ts_in (in_t1 _ (List.mem_of_getElem? (i := 13) rfl)) rfl, ⟨by decide +kernel, by decide +kernel, by decide +kernel⟩, ⟨Ts_in (in_t7 _ (List.mem_of_getElem? (i := 237) rfl)) rfl, Ts_in (in_s6 _ (List.mem_of_getElem? (i := 3) rfl)) rfl⟩⟩
theorem mo_12_plans : MO m12_plans 1 false := ⟨Ts_in (in_t7 _ (List.mem_of_getElem? (i := 222) rfl)) rfl, Ts_in (in_t1 _ (List.mem_of_getElem? (i := 13) rfl)) rfl, ⟨by decide +kernel, by decide +kernel, by decide +kernel⟩, ⟨Ts_in (in_t7 _ (List.mem_of_getElem? (i := 221) rfl)) rfl, Ts_in (in_s5 _ (List.mem_of_getElem? (i := 15) rfl)) rfl⟩⟩
theorem mo_12_canSettle : MO m12_canSettle 3 false := ⟨Ts_in (in_t7 _ (List.mem_of_getElem? (i := 226) rfl)) rfl, Ts_in (in_t1 _ (List.mem_of_getElem? (i := 13) rfl)) rfl, ⟨by decide +kernel, by decide +kernel, by decide +kernel⟩, ⟨Ts_in (in_t7 _ (List.mem_of_getElem? (i := 225) rfl)) rfl, Ts_in (in_s6 _ (List.mem_of_getElem? (i := 0) rfl)) rfl⟩⟩
theorem mo_12_plannedBy : MO m12_plannedBy 1 false := ⟨Ts_in (in_t8 _ (List.mem_of_getElem? (i := 6) rfl)) rfl, Ts_in (in_t1 _ (List.mem_of_getElem? (i := 13) rfl)) rfl, ⟨by decide +kernel, by decide +kernel, by decide +kernel⟩, ⟨Ts_in (in_t8 _ (List.mem_of_getElem? (i := 5) rfl)) rfl, Ts_in (in_s6 _ (List.mem_of_getElem? (i := 5) rfl)) rfl⟩⟩
theorem mo_12_plannedOf : MO m12_plannedOf 1 false := ⟨Ts_in (in_t8 _ (List.mem_of_getElem? (i := 126) rfl)) rfl, Ts_in (in_t1 _ (List.mem_of_getElem? (i := 13) rfl)) rfl, ⟨by decide +kernel, by decide +kernel, by decide +kernel⟩, ⟨Ts_in (in_t8 _ (List.mem_of_getElem? (i := 125) rfl)) rfl, Ts_in (in_s8 _ (List.mem_of_getElem? (i := 1) rfl)) rfl⟩⟩
theorem mo_12_planned : MO m12_planned 0 false := ⟨Ts_in (in_t8 _ (List.mem_of_getElem? (i := 2) rfl)) rfl, Ts_in (in_t1 _ (List.mem_of_getElem? (i := 13) rfl)) rfl, ⟨by decide +kernel, by decide +kernel, by decide +kernel⟩, ⟨Ts_in (in_t8 _ (List.mem_of_getElem? (i := 1) rfl)) rfl, Ts_in (in_s6 _ (List.mem_of_getElem? (i := 4) rfl)) rfl⟩⟩
theorem mo_12_wonBy : MO m12_wonBy 1 false := ⟨Ts_in (in_t8 _ (List.mem_of_getElem? (i := 98) rfl)) rfl, Ts_in (in_t1 _ (List.mem_of_getElem? (i := 13) rfl)) rfl, ⟨by decide +kernel, by decide +kernel, by decide +kernel⟩, ⟨Ts_in (in_t8 _ (List.mem_of_getElem? (i := 97) rfl)) rfl, Ts_in (in_s7 _ (List.mem_of_getElem? (i := 11) rfl)) rfl⟩⟩
theorem mo_12_hasMore : MO m12_hasMore 2 false := ⟨Ts_in (in_t8 _ (List.mem_of_getElem? (i := 14) rfl)) rfl, Ts_in (in_t1 _ (List.mem_of_getElem? (i := 13) rfl)) rfl, ⟨by decide +kernel, by decide +kernel, by decide +kernel⟩, ⟨Ts_in (in_t8 _ (List.mem_of_getElem? (i := 13) rfl)) rfl, Ts_in (in_s6 _ (List.mem_of_getElem? (i := 7) rfl)) rfl⟩⟩
theorem mo_12_changes : MO m12_changes 0 false := ⟨Ts_in (in_t8 _ (List.mem_of_getElem? (i := 10) rfl)) rfl, Ts_in (in_t1 _ (List.mem_of_getElem? (i := 13) rfl)) rfl, ⟨by decide +kernel, by decide +kernel, by decide +kernel⟩, ⟨Ts_in (in_t8 _ (List.mem_of_getElem? (i := 9) rfl)) rfl, Ts_in (in_s6 _ (List.mem_of_getElem? (i := 6) rfl)) rfl⟩⟩
theorem mo_12_isLetter : MO m12_isLetter 1 true := ⟨Ts_in (in_t7 _ (List.mem_of_getElem? (i := 85) rfl)) rfl, Ts_in (in_t1 _ (List.mem_of_getElem? (i := 13) rfl)) rfl, ⟨by decide +kernel, by decide +kernel, by decide +kernel⟩, Ts_in (in_t7 _ (List.mem_of_getElem? (i := 84) rfl)) rfl⟩
theorem mo_12_byteAt : MO m12_byteAt 1 false := ⟨Ts_in (in_t7 _ (List.mem_of_getElem? (i := 82) rfl)) rfl, Ts_in (in_t1 _ (List.mem_of_getElem? (i := 13) rfl)) rfl, ⟨by decide +kernel, by decide +kernel, by decide +kernel⟩, ⟨Ts_in (in_t7 _ (List.mem_of_getElem? (i := 81) rfl)) rfl, Ts_in (in_s4 _ (List.mem_of_getElem? (i := 3) rfl)) rfl⟩⟩
theorem mo_12_wordFrom : MO m12_wordFrom 2 false := ⟨Ts_in (in_t7 _ (List.mem_of_getElem? (i := 89) rfl)) rfl, Ts_in (in_t1 _ (List.mem_of_getElem? (i := 13) rfl)) rfl, ⟨by decide +kernel, by decide +kernel, by decide +kernel⟩, ⟨Ts_in (in_t7 _ (List.mem_of_getElem? (i := 88) rfl)) rfl, Ts_in (in_s4 _ (List.mem_of_getElem? (i := 4) rfl)) rfl⟩⟩
theorem mo_12_go : MO m12_go 0 false := ⟨Ts_in (in_t7 _ (List.mem_of_getElem? (i := 78) rfl)) rfl, Ts_in (in_t1 _ (List.mem_of_getElem? (i := 13) rfl)) rfl, ⟨by decide +kernel, by decide +kernel, by decide +kernel⟩, ⟨Ts_in (in_t7 _ (List.mem_of_getElem? (i := 77) rfl)) rfl, Ts_in (in_s4 _ (List.mem_of_getElem? (i := 2) rfl)) rfl⟩⟩
theorem mo_12_wants : MO m12_wants 2 false := ⟨Ts_in (in_t7 _ (List.mem_of_getElem? (i := 103) rfl)) rfl, Ts_in (in_t1 _ (List.mem_of_getElem? (i := 13) rfl)) rfl, ⟨by decide +kernel, by decide +kernel, by decide +kernel⟩, ⟨Ts_in (in_t7 _ (List.mem_of_getElem? (i := 102) rfl)) rfl, Ts_in (in_s4 _ (List.mem_of_getElem? (i := 7) rfl)) rfl⟩⟩
theorem mo_12_number : MO m12_number 2 false := ⟨Ts_in (in_t7 _ (List.mem_of_getElem? (i := 107) rfl)) rfl, Ts_in (in_t1 _ (List.mem_of_getElem? (i := 13) rfl)) rfl, ⟨by decide +kernel, by decide +kernel, by decide +kernel⟩, ⟨Ts_in (in_t7 _ (List.mem_of_getElem? (i := 106) rfl)) rfl, Ts_in (in_s4 _ (List.mem_of_getElem? (i := 8) rfl)) rfl⟩⟩
theorem mo_12_library1 : MO m12_library1 0 false := ⟨Ts_in (in_t7 _ (List.mem_of_getElem? (i := 114) rfl)) rfl, Ts_in (in_t1 _ (List.mem_of_getElem? (i := 13) rfl)) rfl, ⟨by decide +kernel, by decide +kernel, by decide +kernel⟩, ⟨Ts_in (in_t7 _ (List.mem_of_getElem? (i := 113) rfl)) rfl, Ts_in (in_s4 _ (List.mem_of_getElem? (i := 9) rfl)) rfl⟩⟩
theorem mo_12_work1 : MO m12_work1 0 false := ⟨Ts_in (in_t7 _ (List.mem_of_getElem? (i := 118) rfl)) rfl, Ts_in (in_t1 _ (List.mem_of_getElem? (i := 13) rfl)) rfl, ⟨by decide +kernel, by decide +kernel, by decide +kernel⟩, ⟨Ts_in (in_t7 _ (List.mem_of_getElem? (i := 117) rfl)) rfl, Ts_in (in_s4 _ (List.mem_of_getElem? (i := 10) rfl)) rfl⟩⟩
theorem mo_12_cell1 : MO m12_cell1 1 false := ⟨Ts_in (in_t7 _ (List.mem_of_getElem? (i := 122) rfl)) rfl, Ts_in (in_t1 _ (List.mem_of_getElem? (i := 13) rfl)) rfl, ⟨by decide +kernel, by decide +kernel, by decide +kernel⟩, ⟨Ts_in (in_t7 _ (List.mem_of_getElem? (i := 121) rfl)) rfl, Ts_in (in_s4 _ (List.mem_of_getElem? (i := 11) rfl)) rfl⟩⟩
theorem mo_12_storeTold : MO m12_storeTold 0 false := ⟨Ts_in (in_t7 _ (List.mem_of_getElem? (i := 99) rfl)) rfl, Ts_in (in_t1 _ (List.mem_of_getElem? (i := 13) rfl)) rfl, ⟨by decide +kernel, by decide +kernel, by decide +kernel⟩, ⟨Ts_in (in_t7 _ (List.mem_of_getElem? (i := 98) rfl)) rfl, Ts_in (in_s4 _ (List.mem_of_getElem? (i := 6) rfl)) rfl⟩⟩
theorem mo_12_clause1 : MO m12_clause1 0 false := ⟨Ts_in (in_t7 _ (List.mem_of_getElem? (i := 95) rfl)) rfl, Ts_in (in_t1 _ (List.mem_of_getElem? (i := 13) rfl)) rfl, ⟨by decide +kernel, by decide +kernel, by decide +kernel⟩, ⟨Ts_in (in_t7 _ (List.mem_of_getElem? (i := 94) rfl)) rfl, Ts_in (in_s4 _ (List.mem_of_getElem? (i := 5) rfl)) rfl⟩⟩
theorem mo_12_feed : MO m12_feed 5 false := ⟨Ts_in (in_t7 _ (List.mem_of_getElem? (i := 66) rfl)) rfl, Ts_in (in_t1 _ (List.mem_of_getElem? (i := 13) rfl)) rfl, ⟨by decide +kernel, by decide +kernel, by decide +kernel⟩, ⟨Ts_in (in_t7 _ (List.mem_of_getElem? (i := 64) rfl)) rfl, Ts_in (in_t7 _ (List.mem_of_getElem? (i := 65) rfl)) rfl⟩⟩
theorem mo_12_desk : MO m12_desk 1 false := ⟨Ts_in (in_t7 _ (List.mem_of_getElem? (i := 70) rfl)) rfl, Ts_in (in_t1 _ (List.mem_of_getElem? (i := 13) rfl)) rfl, ⟨by decide +kernel, by decide +kernel, by decide +kernel⟩, ⟨Ts_in (in_t7 _ (List.mem_of_getElem? (i := 68) rfl)) rfl, Ts_in (in_t7 _ (List.mem_of_getElem? (i := 69) rfl)) rfl⟩⟩
theorem mo_12_fault : MO m12_fault 0 false := ⟨Ts_in (in_t7 _ (List.mem_of_getElem? (i := 132) rfl)) rfl, Ts_in (in_t1 _ (List.mem_of_getElem? (i := 13) rfl)) rfl, ⟨by decide +kernel, by decide +kernel, by decide +kernel⟩, ⟨Ts_in (in_t7 _ (List.mem_of_getElem? (i := 130) rfl)) rfl, Ts_in (in_t7 _ (List.mem_of_getElem? (i := 131) rfl)) rfl⟩⟩
theorem mo_12_tries : MO m12_tries 0 false := ⟨Ts_in (in_t8 _ (List.mem_of_getElem? (i := 30) rfl)) rfl, Ts_in (in_t1 _ (List.mem_of_getElem? (i := 13) rfl)) rfl, ⟨by decide +kernel, by decide +kernel, by decide +kernel⟩, ⟨Ts_in (in_t8 _ (List.mem_of_getElem? (i := 29) rfl)) rfl, Ts_in (in_s6 _ (List.mem_of_getElem? (i := 11) rfl)) rfl⟩⟩
theorem mo_12_late : MO m12_late 0 false := ⟨Ts_in (in_t8 _ (List.mem_of_getElem? (i := 26) rfl)) rfl, Ts_in (in_t1 _ (List.mem_of_getElem? (i := 13) rfl)) rfl, ⟨by decide +kernel, by decide +kernel, by decide +kernel⟩, ⟨Ts_in (in_t8 _ (List.mem_of_getElem? (i := 25) rfl)) rfl, Ts_in (in_s6 _ (List.mem_of_getElem? (i := 10) rfl)) rfl⟩⟩
theorem mo_12_stricter : MO m12_stricter 1 false := ⟨Ts_in (in_t8 _ (List.mem_of_getElem? (i := 130) rfl)) rfl, Ts_in (in_t1 _ (List.mem_of_getElem? (i := 13) rfl)) rfl, ⟨by decide +kernel, by decide +kernel, by decide +kernel⟩, ⟨Ts_in (in_t8 _ (List.mem_of_getElem? (i := 129) rfl)) rfl, Ts_in (in_s8 _ (List.mem_of_getElem? (i := 2) rfl)) rfl⟩⟩
theorem mo_12_tighter : MO m12_tighter 1 false := ⟨Ts_in (in_t8 _ (List.mem_of_getElem? (i := 102) rfl)) rfl, Ts_in (in_t1 _ (List.mem_of_getElem? (i := 13) rfl)) rfl, ⟨by decide +kernel, by decide +kernel, by decide +kernel⟩, ⟨Ts_in (in_t8 _ (List.mem_of_getElem? (i := 101) rfl)) rfl, Ts_in (in_s7 _ (List.mem_of_getElem? (i := 12) rfl)) rfl⟩⟩
theorem mo_12_inTheWay : MO m12_inTheWay 1 false := ⟨Ts_in (in_t8 _ (List.mem_of_getElem? (i := 38) rfl)) rfl, Ts_in (in_t1 _ (List.mem_of_getElem? (i := 13) rfl)) rfl, ⟨by decide +kernel, by decide +kernel, by decide +kernel⟩, ⟨Ts_in (in_t8 _ (List.mem_of_getElem? (i := 37) rfl)) rfl, Ts_in (in_s6 _ (List.mem_of_getElem? (i := 13) rfl)) rfl⟩⟩
theorem mo_12_lastOnes : MO m12_lastOnes 0 false := ⟨Ts_in (in_t8 _ (List.mem_of_getElem? (i := 42) rfl)) rfl, Ts_in (in_t1 _ (List.mem_of_getElem? (i := 13) rfl)) rfl, ⟨by decide +kernel, by decide +kernel, by decide +kernel⟩, ⟨Ts_in (in_t8 _ (List.mem_of_getElem? (i := 41) rfl)) rfl, Ts_in (in_s6 _ (List.mem_of_getElem? (i := 14) rfl)) rfl⟩⟩
theorem mo_12_shortOnes : MO m12_shortOnes 0 false := ⟨Ts_in (in_t8 _ (List.mem_of_getElem? (i := 46) rfl)) rfl, Ts_in (in_t1 _ (List.mem_of_getElem? (i := 13) rfl)) rfl, ⟨by decide +kernel, by decide +kernel, by decide +kernel⟩, ⟨Ts_in (in_t8 _ (List.mem_of_getElem? (i := 45) rfl)) rfl, Ts_in (in_s6 _ (List.mem_of_getElem? (i := 15) rfl)) rfl⟩⟩
theorem mo_12_lostWith : MO m12_lostWith 2 false := ⟨Ts_in (in_t8 _ (List.mem_of_getElem? (i := 106) rfl)) rfl, Ts_in (in_t1 _ (List.mem_of_getElem? (i := 13) rfl)) rfl, ⟨by decide +kernel, by decide +kernel, by decide +kernel⟩, ⟨Ts_in (in_t8 _ (List.mem_of_getElem? (i := 105) rfl)) rfl, Ts_in (in_s7 _ (List.mem_of_getElem? (i := 13) rfl)) rfl⟩⟩
theorem mo_12_canGive : MO m12_canGive 4 false := ⟨Ts_in (in_t8 _ (List.mem_of_getElem? (i := 58) rfl)) rfl, Ts_in (in_t1 _ (List.mem_of_getElem? (i := 13) rfl)) rfl, ⟨by decide +kernel, by decide +kernel, by decide +kernel⟩, ⟨Ts_in (in_t8 _ (List.mem_of_getElem? (i := 57) rfl)) rfl, Ts_in (in_s7 _ (List.mem_of_getElem? (i := 2) rfl)) rfl⟩⟩
theorem mo_12_gives : MO m12_gives 4 false := ⟨Ts_in (in_t8 _ (List.mem_of_getElem? (i := 62) rfl)) rfl, Ts_in (in_t1 _ (List.mem_of_getElem? (i := 13) rfl)) rfl, ⟨by decide +kernel, by decide +kernel, by decide +kernel⟩, ⟨Ts_in (in_t8 _ (List.mem_of_getElem? (i := 61) rfl)) rfl, Ts_in (in_s7 _ (List.mem_of_getElem? (i := 3) rfl)) rfl⟩⟩
theorem mo_12_firstGift : MO m12_firstGift 3 false := ⟨Ts_in (in_t8 _ (List.mem_of_getElem? (i := 54) rfl)) rfl, Ts_in (in_t1 _ (List.mem_of_getElem? (i := 13) rfl)) rfl, ⟨by decide +kernel, by decide +kernel, by decide +kernel⟩, ⟨Ts_in (in_t8 _ (List.mem_of_getElem? (i := 53) rfl)) rfl, Ts_in (in_s7 _ (List.mem_of_getElem? (i := 1) rfl)) rfl⟩⟩
theorem mo_12_hasGift : MO m12_hasGift 1 false := ⟨Ts_in (in_t8 _ (List.mem_of_getElem? (i := 66) rfl)) rfl, Ts_in (in_t1 _ (List.mem_of_getElem? (i := 13) rfl)) rfl, ⟨by decide +kernel, by decide +kernel, by decide +kernel⟩, ⟨Ts_in (in_t8 _ (List.mem_of_getElem? (i := 65) rfl)) rfl, Ts_in (in_s7 _ (List.mem_of_getElem? (i := 4) rfl)) rfl⟩⟩
theorem mo_12_help : MO m12_help 1 false := ⟨Ts_in (in_t8 _ (List.mem_of_getElem? (i := 50) rfl)) rfl, Ts_in (in_t1 _ (List.mem_of_getElem? (i := 13) rfl)) rfl, ⟨by decide +kernel, by decide +kernel, by decide +kernel⟩, ⟨Ts_in (in_t8 _ (List.mem_of_getElem? (i := 49) rfl)) rfl, Ts_in (in_s7 _ (List.mem_of_getElem? (i := 0) rfl)) rfl⟩⟩
theorem mo_12_inOrder : MO m12_inOrder 0 false := ⟨Ts_in (in_t8 _ (List.mem_of_getElem? (i := 82) rfl)) rfl, Ts_in (in_t1 _ (List.mem_of_getElem? (i := 13) rfl)) rfl, ⟨by decide +kernel, by decide +kernel, by decide +kernel⟩, ⟨Ts_in (in_t8 _ (List.mem_of_getElem? (i := 81) rfl)) rfl, Ts_in (in_s7 _ (List.mem_of_getElem? (i := 8) rfl)) rfl⟩⟩
theorem mo_12_byTurns : MO m12_byTurns 1 false := ⟨Ts_in (in_t8 _ (List.mem_of_getElem? (i := 110) rfl)) rfl, Ts_in (in_t1 _ (List.mem_of_getElem? (i := 13) rfl)) rfl, ⟨by decide +kernel, by decide +kernel, by decide +kernel⟩, ⟨Ts_in (in_t8 _ (List.mem_of_getElem? (i := 109) rfl)) rfl, Ts_in (in_s7 _ (List.mem_of_getElem? (i := 14) rfl)) rfl⟩⟩
theorem mo_12_laysOrder : MO m12_laysOrder 1 false := ⟨Ts_in (in_t8 _ (List.mem_of_getElem? (i := 78) rfl)) rfl, Ts_in (in_t1 _ (List.mem_of_getElem? (i := 13) rfl)) rfl, ⟨by decide +kernel, by decide +kernel, by decide +kernel⟩, ⟨Ts_in (in_t8 _ (List.mem_of_getElem? (i := 77) rfl)) rfl, Ts_in (in_s7 _ (List.mem_of_getElem? (i := 7) rfl)) rfl⟩⟩
theorem mo_12_laysOrders : MO m12_laysOrders 0 false := ⟨Ts_in (in_t8 _ (List.mem_of_getElem? (i := 74) rfl)) rfl, Ts_in (in_t1 _ (List.mem_of_getElem? (i := 13) rfl)) rfl, ⟨by decide +kernel, by decide +kernel, by decide +kernel⟩, ⟨Ts_in (in_t8 _ (List.mem_of_getElem? (i := 73) rfl)) rfl, Ts_in (in_s7 _ (List.mem_of_getElem? (i := 6) rfl)) rfl⟩⟩
theorem mo_12_priceBy : MO m12_priceBy 2 false := ⟨Ts_in (in_t8 _ (List.mem_of_getElem? (i := 114) rfl)) rfl, Ts_in (in_t1 _ (List.mem_of_getElem? (i := 13) rfl)) rfl, ⟨by decide +kernel, by decide +kernel, by decide +kernel⟩, ⟨Ts_in (in_t8 _ (List.mem_of_getElem? (i := 113) rfl)) rfl, Ts_in (in_s7 _ (List.mem_of_getElem? (i := 15) rfl)) rfl⟩⟩
theorem mo_12_safe : MO m12_safe 1 false := ⟨Ts_in (in_t8 _ (List.mem_of_getElem? (i := 138) rfl)) rfl, Ts_in (in_t1 _ (List.mem_of_getElem? (i := 13) rfl)) rfl, ⟨by decide +kernel, by decide +kernel, by decide +kernel⟩, ⟨Ts_in (in_t8 _ (List.mem_of_getElem? (i := 137) rfl)) rfl, Ts_in (in_s8 _ (List.mem_of_getElem? (i := 4) rfl)) rfl⟩⟩
theorem mo_12_nthHeld : MO m12_nthHeld 2 false := ⟨Ts_in (in_t8 _ (List.mem_of_getElem? (i := 142) rfl)) rfl, Ts_in (in_t1 _ (List.mem_of_getElem? (i := 13) rfl)) rfl, ⟨by decide +kernel, by decide +kernel, by decide +kernel⟩, ⟨Ts_in (in_t8 _ (List.mem_of_getElem? (i := 141) rfl)) rfl, Ts_in (in_s8 _ (List.mem_of_getElem? (i := 5) rfl)) rfl⟩⟩
theorem mo_12_greatestThatMay : MO m12_greatestThatMay 1 false := ⟨Ts_in (in_t8 _ (List.mem_of_getElem? (i := 86) rfl)) rfl, Ts_in (in_t1 _ (List.mem_of_getElem? (i := 13) rfl)) rfl, ⟨by decide +kernel, by decide +kernel, by decide +kernel⟩, ⟨Ts_in (in_t8 _ (List.mem_of_getElem? (i := 85) rfl)) rfl, Ts_in (in_s7 _ (List.mem_of_getElem? (i := 9) rfl)) rfl⟩⟩
theorem mo_12_shortageTold : MO m12_shortageTold 1 false := ⟨Ts_in (in_t8 _ (List.mem_of_getElem? (i := 18) rfl)) rfl, Ts_in (in_t1 _ (List.mem_of_getElem? (i := 13) rfl)) rfl, ⟨by decide +kernel, by decide +kernel, by decide +kernel⟩, ⟨Ts_in (in_t8 _ (List.mem_of_getElem? (i := 17) rfl)) rfl, Ts_in (in_s6 _ (List.mem_of_getElem? (i := 8) rfl)) rfl⟩⟩
theorem mo_12_count : MO m12_count 1 false := ⟨Ts_in (in_t7 _ (List.mem_of_getElem? (i := 136) rfl)) rfl, Ts_in (in_t1 _ (List.mem_of_getElem? (i := 13) rfl)) rfl, ⟨by decide +kernel, by decide +kernel, by decide +kernel⟩, ⟨Ts_in (in_t7 _ (List.mem_of_getElem? (i := 134) rfl)) rfl, Ts_in (in_t7 _ (List.mem_of_getElem? (i := 135) rfl)) rfl⟩⟩
theorem mo_12_isLibrary : MO m12_isLibrary 1 false := ⟨Ts_in (in_t8 _ (List.mem_of_getElem? (i := 94) rfl)) rfl, Ts_in (in_t1 _ (List.mem_of_getElem? (i := 13) rfl)) rfl, ⟨by decide +kernel, by decide +kernel, by decide +kernel⟩, ⟨Ts_in (in_t8 _ (List.mem_of_getElem? (i := 93) rfl)) rfl, Ts_in (in_s7 _ (List.mem_of_getElem? (i := 10) rfl)) rfl⟩⟩
theorem mo_12_isWork : MO m12_isWork 1 false := ⟨Ts_in (in_t8 _ (List.mem_of_getElem? (i := 122) rfl)) rfl, Ts_in (in_t1 _ (List.mem_of_getElem? (i := 13) rfl)) rfl, ⟨by decide +kernel, by decide +kernel, by decide +kernel⟩, ⟨Ts_in (in_t8 _ (List.mem_of_getElem? (i := 121) rfl)) rfl, Ts_in (in_s8 _ (List.mem_of_getElem? (i := 0) rfl)) rfl⟩⟩
theorem mo_12_library : MO m12_library 2 false := ⟨Ts_in (in_t8 _ (List.mem_of_getElem? (i := 90) rfl)) rfl, Ts_in (in_t1 _ (List.mem_of_getElem? (i := 13) rfl)) rfl, ⟨by decide +kernel, by decide +kernel, by decide +kernel⟩, ⟨Ts_in (in_t8 _ (List.mem_of_getElem? (i := 88) rfl)) rfl, Ts_in (in_t8 _ (List.mem_of_getElem? (i := 89) rfl)) rfl⟩⟩
theorem mo_12_holders : MO m12_holders 1 false := ⟨Ts_in (in_t8 _ (List.mem_of_getElem? (i := 134) rfl)) rfl, Ts_in (in_t1 _ (List.mem_of_getElem? (i := 13) rfl)) rfl, ⟨by decide +kernel, by decide +kernel, by decide +kernel⟩, ⟨Ts_in (in_t8 _ (List.mem_of_getElem? (i := 133) rfl)) rfl, Ts_in (in_s8 _ (List.mem_of_getElem? (i := 3) rfl)) rfl⟩⟩
theorem mo_12_work : MO m12_work 2 false := ⟨Ts_in (in_t8 _ (List.mem_of_getElem? (i := 118) rfl)) rfl, Ts_in (in_t1 _ (List.mem_of_getElem? (i := 13) rfl)) rfl, ⟨by decide +kernel, by decide +kernel, by decide +kernel⟩, ⟨Ts_in (in_t8 _ (List.mem_of_getElem? (i := 116) rfl)) rfl, Ts_in (in_t8 _ (List.mem_of_getElem? (i := 117) rfl)) rfl⟩⟩
theorem mo_12_why : MO m12_why 3 false := ⟨Ts_in (in_t8 _ (List.mem_of_getElem? (i := 150) rfl)) rfl, Ts_in (in_t1 _ (List.mem_of_getElem? (i := 13) rfl)) rfl, ⟨by decide +kernel, by decide +kernel, by decide +kernel⟩, ⟨Ts_in (in_t8 _ (List.mem_of_getElem? (i := 149) rfl)) rfl, Ts_in (in_s8 _ (List.mem_of_getElem? (i := 6) rfl)) rfl⟩⟩
theorem mo_12_held : MO m12_held 3 false := ⟨Ts_in (in_t8 _ (List.mem_of_getElem? (i := 146) rfl)) rfl, Ts_in (in_t1 _ (List.mem_of_getElem? (i := 13) rfl)) rfl, ⟨by decide +kernel, by decide +kernel, by decide +kernel⟩, ⟨Ts_in (in_t8 _ (List.mem_of_getElem? (i := 144) rfl)) rfl, Ts_in (in_t8 _ (List.mem_of_getElem? (i := 145) rfl)) rfl⟩⟩
theorem mo_12_lack : MO m12_lack 1 false := ⟨Ts_in (in_t8 _ (List.mem_of_getElem? (i := 154) rfl)) rfl, Ts_in (in_t1 _ (List.mem_of_getElem? (i := 13) rfl)) rfl, ⟨by decide +kernel, by decide +kernel, by decide +kernel⟩, ⟨Ts_in (in_t8 _ (List.mem_of_getElem? (i := 152) rfl)) rfl, Ts_in (in_t8 _ (List.mem_of_getElem? (i := 153) rfl)) rfl⟩⟩
theorem mo_12_order : MO m12_order 1 false := ⟨Ts_in (in_t8 _ (List.mem_of_getElem? (i := 158) rfl)) rfl, Ts_in (in_t1 _ (List.mem_of_getElem? (i := 13) rfl)) rfl, ⟨by decide +kernel, by decide +kernel, by decide +kernel⟩, ⟨Ts_in (in_t8 _ (List.mem_of_getElem? (i := 156) rfl)) rfl, Ts_in (in_t8 _ (List.mem_of_getElem? (i := 157) rfl)) rfl⟩⟩
theorem mo_12_keptAt : MO m12_keptAt 2 true := ⟨Ts_in (in_t8 _ (List.mem_of_getElem? (i := 181) rfl)) rfl, Ts_in (in_t1 _ (List.mem_of_getElem? (i := 13) rfl)) rfl, ⟨by decide +kernel, by decide +kernel, by decide +kernel⟩, Ts_in (in_t8 _ (List.mem_of_getElem? (i := 180) rfl)) rfl⟩
theorem mo_12_refuses : MO m12_refuses 1 false := ⟨Ts_in (in_t8 _ (List.mem_of_getElem? (i := 170) rfl)) rfl, Ts_in (in_t1 _ (List.mem_of_getElem? (i := 13) rfl)) rfl, ⟨by decide +kernel, by decide +kernel, by decide +kernel⟩, ⟨Ts_in (in_t8 _ (List.mem_of_getElem? (i := 169) rfl)) rfl, Ts_in (in_s8 _ (List.mem_of_getElem? (i := 8) rfl)) rfl⟩⟩
theorem mo_12_keeps : MO m12_keeps 0 false := ⟨Ts_in (in_t8 _ (List.mem_of_getElem? (i := 178) rfl)) rfl, Ts_in (in_t1 _ (List.mem_of_getElem? (i := 13) rfl)) rfl, ⟨by decide +kernel, by decide +kernel, by decide +kernel⟩, ⟨Ts_in (in_t8 _ (List.mem_of_getElem? (i := 177) rfl)) rfl, Ts_in (in_s8 _ (List.mem_of_getElem? (i := 10) rfl)) rfl⟩⟩
theorem mo_12_isCell : MO m12_isCell 2 false := ⟨Ts_in (in_t8 _ (List.mem_of_getElem? (i := 166) rfl)) rfl, Ts_in (in_t1 _ (List.mem_of_getElem? (i := 13) rfl)) rfl, ⟨by decide +kernel, by decide +kernel, by decide +kernel⟩, ⟨Ts_in (in_t8 _ (List.mem_of_getElem? (i := 165) rfl)) rfl, Ts_in (in_s8 _ (List.mem_of_getElem? (i := 7) rfl)) rfl⟩⟩
theorem mo_12_tells : MO m12_tells 2 false := ⟨Ts_in (in_t8 _ (List.mem_of_getElem? (i := 174) rfl)) rfl, Ts_in (in_t1 _ (List.mem_of_getElem? (i := 13) rfl)) rfl, ⟨by decide +kernel, by decide +kernel, by decide +kernel⟩, ⟨Ts_in (in_t8 _ (List.mem_of_getElem? (i := 173) rfl)) rfl, Ts_in (in_s8 _ (List.mem_of_getElem? (i := 9) rfl)) rfl⟩⟩
theorem mo_12_own : MO m12_own 3 false := ⟨Ts_in (in_t8 _ (List.mem_of_getElem? (i := 162) rfl)) rfl, Ts_in (in_t1 _ (List.mem_of_getElem? (i := 13) rfl)) rfl, ⟨by decide +kernel, by decide +kernel, by decide +kernel⟩, ⟨Ts_in (in_t8 _ (List.mem_of_getElem? (i := 160) rfl)) rfl, Ts_in (in_t8 _ (List.mem_of_getElem? (i := 161) rfl)) rfl⟩⟩
theorem mo_12_promise : MO m12_promise 4 false := ⟨Ts_in (in_t8 _ (List.mem_of_getElem? (i := 185) rfl)) rfl, Ts_in (in_t1 _ (List.mem_of_getElem? (i := 13) rfl)) rfl, ⟨by decide +kernel, by decide +kernel, by decide +kernel⟩, ⟨Ts_in (in_t8 _ (List.mem_of_getElem? (i := 183) rfl)) rfl, Ts_in (in_t8 _ (List.mem_of_getElem? (i := 184) rfl)) rfl⟩⟩
theorem mo_12_keep : MO m12_keep 2 false := ⟨Ts_in (in_t8 _ (List.mem_of_getElem? (i := 189) rfl)) rfl, Ts_in (in_t1 _ (List.mem_of_getElem? (i := 13) rfl)) rfl, ⟨by decide +kernel, by decide +kernel, by decide +kernel⟩, ⟨Ts_in (in_t8 _ (List.mem_of_getElem? (i := 187) rfl)) rfl, Ts_in (in_t8 _ (List.mem_of_getElem? (i := 188) rfl)) rfl⟩⟩
theorem mo_12_room : MO m12_room 3 false := ⟨Ts_in (in_t8 _ (List.mem_of_getElem? (i := 193) rfl)) rfl, Ts_in (in_t1 _ (List.mem_of_getElem? (i := 13) rfl)) rfl, ⟨by decide +kernel, by decide +kernel, by decide +kernel⟩, ⟨Ts_in (in_t8 _ (List.mem_of_getElem? (i := 191) rfl)) rfl, Ts_in (in_t8 _ (List.mem_of_getElem? (i := 192) rfl)) rfl⟩⟩
theorem mo_12_goes : MO m12_goes 4 false := ⟨Ts_in (in_t8 _ (List.mem_of_getElem? (i := 201) rfl)) rfl, Ts_in (in_t1 _ (List.mem_of_getElem? (i := 13) rfl)) rfl, ⟨by decide +kernel, by decide +kernel, by decide +kernel⟩, ⟨Ts_in (in_t8 _ (List.mem_of_getElem? (i := 200) rfl)) rfl, Ts_in (in_s8 _ (List.mem_of_getElem? (i := 11) rfl)) rfl⟩⟩
theorem mo_12_go_ : MO m12_go_ 2 false := ⟨Ts_in (in_t8 _ (List.mem_of_getElem? (i := 197) rfl)) rfl, Ts_in (in_t1 _ (List.mem_of_getElem? (i := 13) rfl)) rfl, ⟨by decide +kernel, by decide +kernel, by decide +kernel⟩, ⟨Ts_in (in_t8 _ (List.mem_of_getElem? (i := 195) rfl)) rfl, Ts_in (in_t8 _ (List.mem_of_getElem? (i := 196) rfl)) rfl⟩⟩
theorem mo_12_give : MO m12_give 3 false := ⟨Ts_in (in_t8 _ (List.mem_of_getElem? (i := 205) rfl)) rfl, Ts_in (in_t1 _ (List.mem_of_getElem? (i := 13) rfl)) rfl, ⟨by decide +kernel, by decide +kernel, by decide +kernel⟩, ⟨Ts_in (in_t8 _ (List.mem_of_getElem? (i := 203) rfl)) rfl, Ts_in (in_t8 _ (List.mem_of_getElem? (i := 204) rfl)) rfl⟩⟩
theorem mo_12_send : MO m12_send 2 false := ⟨Ts_in (in_t8 _ (List.mem_of_getElem? (i := 209) rfl)) rfl, Ts_in (in_t1 _ (List.mem_of_getElem? (i := 13) rfl)) rfl, ⟨by decide +kernel, by decide +kernel, by decide +kernel⟩, ⟨Ts_in (in_t8 _ (List.mem_of_getElem? (i := 207) rfl)) rfl, Ts_in (in_t8 _ (List.mem_of_getElem? (i := 208) rfl)) rfl⟩⟩
theorem mo_12_carries : MO m12_carries 1 false := ⟨Ts_in (in_t8 _ (List.mem_of_getElem? (i := 217) rfl)) rfl, Ts_in (in_t1 _ (List.mem_of_getElem? (i := 13) rfl)) rfl, ⟨by decide +kernel, by decide +kernel, by decide +kernel⟩, ⟨Ts_in (in_t8 _ (List.mem_of_getElem? (i := 216) rfl)) rfl, Ts_in (in_s8 _ (List.mem_of_getElem? (i := 12) rfl)) rfl⟩⟩
theorem mo_12_carry : MO m12_carry 0 false := ⟨Ts_in (in_t8 _ (List.mem_of_getElem? (i := 213) rfl)) rfl, Ts_in (in_t1 _ (List.mem_of_getElem? (i := 13) rfl)) rfl, ⟨by decide +kernel, by decide +kernel, by decide +kernel⟩, ⟨Ts_in (in_t8 _ (List.mem_of_getElem? (i := 211) rfl)) rfl, Ts_in (in_t8 _ (List.mem_of_getElem? (i := 212) rfl)) rfl⟩⟩
theorem mo_12_years : MO m12_years 1 false := ⟨Ts_in (in_t8 _ (List.mem_of_getElem? (i := 221) rfl)) rfl, Ts_in (in_t1 _ (List.mem_of_getElem? (i := 13) rfl)) rfl, ⟨by decide +kernel, by decide +kernel, by decide +kernel⟩, ⟨Ts_in (in_t8 _ (List.mem_of_getElem? (i := 219) rfl)) rfl, Ts_in (in_t8 _ (List.mem_of_getElem? (i := 220) rfl)) rfl⟩⟩
theorem mo_12_undo : MO m12_undo 0 false := ⟨Ts_in (in_t8 _ (List.mem_of_getElem? (i := 225) rfl)) rfl, Ts_in (in_t1 _ (List.mem_of_getElem? (i := 13) rfl)) rfl, ⟨by decide +kernel, by decide +kernel, by decide +kernel⟩, ⟨Ts_in (in_t8 _ (List.mem_of_getElem? (i := 223) rfl)) rfl, Ts_in (in_t8 _ (List.mem_of_getElem? (i := 224) rfl)) rfl⟩⟩
theorem mo_12_note : MO m12_note 1 false := ⟨Ts_in (in_t8 _ (List.mem_of_getElem? (i := 229) rfl)) rfl, Ts_in (in_t1 _ (List.mem_of_getElem? (i := 13) rfl)) rfl, ⟨by decide +kernel, by decide +kernel, by decide +kernel⟩, ⟨Ts_in (in_t8 _ (List.mem_of_getElem? (i := 227) rfl)) rfl, Ts_in (in_t8 _ (List.mem_of_getElem? (i := 228) rfl)) rfl⟩⟩
theorem mo_12_isNoted : MO m12_isNoted 1 false := ⟨Ts_in (in_t8 _ (List.mem_of_getElem? (i := 237) rfl)) rfl, Ts_in (in_t1 _ (List.mem_of_getElem? (i := 13) rfl)) rfl, ⟨by decide +kernel, by decide +kernel, by decide +kernel⟩, ⟨Ts_in (in_t8 _ (List.mem_of_getElem? (i := 236) rfl)) rfl, Ts_in (in_s8 _ (List.mem_of_getElem? (i := 13) rfl)) rfl⟩⟩
theorem mo_12_laysFits : MO m12_laysFits 0 false := ⟨Ts_in (in_t9 _ (List.mem_of_getElem? (i := 1) rfl)) rfl, Ts_in (in_t1 _ (List.mem_of_getElem? (i := 13) rfl)) rfl, ⟨by decide +kernel, by decide +kernel, by decide +kernel⟩, ⟨Ts_in (in_t9 _ (List.mem_of_getElem? (i := 0) rfl)) rfl, Ts_in (in_s8 _ (List.mem_of_getElem? (i := 14) rfl)) rfl⟩⟩
theorem mo_12_fits : MO m12_fits 1 false := ⟨Ts_in (in_t8 _ (List.mem_of_getElem? (i := 233) rfl)) rfl, Ts_in (in_t1 _ (List.mem_of_getElem? (i := 13) rfl)) rfl, ⟨by decide +kernel, by decide +kernel, by decide +kernel⟩, ⟨Ts_in (in_t8 _ (List.mem_of_getElem? (i := 231) rfl)) rfl, Ts_in (in_t8 _ (List.mem_of_getElem? (i := 232) rfl)) rfl⟩⟩
theorem mo_12_unlike : MO m12_unlike 1 false := ⟨Ts_in (in_t9 _ (List.mem_of_getElem? (i := 13) rfl)) rfl, Ts_in (in_t1 _ (List.mem_of_getElem? (i := 13) rfl)) rfl, ⟨by decide +kernel, by decide +kernel, by decide +kernel⟩, ⟨Ts_in (in_t9 _ (List.mem_of_getElem? (i := 12) rfl)) rfl, Ts_in (in_s9 _ (List.mem_of_getElem? (i := 0) rfl)) rfl⟩⟩
theorem mo_12_laysSpaces : MO m12_laysSpaces 0 false := ⟨Ts_in (in_t9 _ (List.mem_of_getElem? (i := 9) rfl)) rfl, Ts_in (in_t1 _ (List.mem_of_getElem? (i := 13) rfl)) rfl, ⟨by decide +kernel, by decide +kernel, by decide +kernel⟩, ⟨Ts_in (in_t9 _ (List.mem_of_getElem? (i := 8) rfl)) rfl, Ts_in (in_s8 _ (List.mem_of_getElem? (i := 15) rfl)) rfl⟩⟩
theorem mo_12_look : MO m12_look 1 false := ⟨Ts_in (in_t9 _ (List.mem_of_getElem? (i := 5) rfl)) rfl, Ts_in (in_t1 _ (List.mem_of_getElem? (i := 13) rfl)) rfl, ⟨by decide +kernel, by decide +kernel, by decide +kernel⟩, ⟨Ts_in (in_t9 _ (List.mem_of_getElem? (i := 3) rfl)) rfl, Ts_in (in_t9 _ (List.mem_of_getElem? (i := 4) rfl)) rfl⟩⟩
theorem mo_12_forget : MO m12_forget 0 false := ⟨Ts_in (in_t9 _ (List.mem_of_getElem? (i := 17) rfl)) rfl, Ts_in (in_t1 _ (List.mem_of_getElem? (i := 13) rfl)) rfl, ⟨by decide +kernel, by decide +kernel, by decide +kernel⟩, ⟨Ts_in (in_t9 _ (List.mem_of_getElem? (i := 15) rfl)) rfl, Ts_in (in_t9 _ (List.mem_of_getElem? (i := 16) rfl)) rfl⟩⟩
theorem mo_12_draw : MO m12_draw 1 false := ⟨Ts_in (in_t9 _ (List.mem_of_getElem? (i := 25) rfl)) rfl, Ts_in (in_t1 _ (List.mem_of_getElem? (i := 13) rfl)) rfl, ⟨by decide +kernel, by decide +kernel, by decide +kernel⟩, ⟨Ts_in (in_t9 _ (List.mem_of_getElem? (i := 24) rfl)) rfl, Ts_in (in_s9 _ (List.mem_of_getElem? (i := 1) rfl)) rfl⟩⟩
theorem mo_12_drawnOnes : MO m12_drawnOnes 1 false := ⟨Ts_in (in_t9 _ (List.mem_of_getElem? (i := 30) rfl)) rfl, Ts_in (in_t1 _ (List.mem_of_getElem? (i := 13) rfl)) rfl, ⟨by decide +kernel, by decide +kernel, by decide +kernel⟩, ⟨Ts_in (in_t9 _ (List.mem_of_getElem? (i := 29) rfl)) rfl, Ts_in (in_s9 _ (List.mem_of_getElem? (i := 2) rfl)) rfl⟩⟩
theorem mo_12_drawn : MO m12_drawn 3 false := ⟨Ts_in (in_t9 _ (List.mem_of_getElem? (i := 21) rfl)) rfl, Ts_in (in_t1 _ (List.mem_of_getElem? (i := 13) rfl)) rfl, ⟨by decide +kernel, by decide +kernel, by decide +kernel⟩, ⟨Ts_in (in_t9 _ (List.mem_of_getElem? (i := 19) rfl)) rfl, Ts_in (in_t9 _ (List.mem_of_getElem? (i := 20) rfl)) rfl⟩⟩
theorem mo_12_image : MO m12_image 0 false := ⟨Ts_in (in_t9 _ (List.mem_of_getElem? (i := 34) rfl)) rfl, Ts_in (in_t1 _ (List.mem_of_getElem? (i := 13) rfl)) rfl, ⟨by decide +kernel, by decide +kernel, by decide +kernel⟩, ⟨Ts_in (in_t9 _ (List.mem_of_getElem? (i := 32) rfl)) rfl, Ts_in (in_t9 _ (List.mem_of_getElem? (i := 33) rfl)) rfl⟩⟩
theorem mo_12_restore : MO m12_restore 0 false := ⟨Ts_in (in_t9 _ (List.mem_of_getElem? (i := 38) rfl)) rfl, Ts_in (in_t1 _ (List.mem_of_getElem? (i := 13) rfl)) rfl, ⟨by decide +kernel, by decide +kernel, by decide +kernel⟩, ⟨Ts_in (in_t9 _ (List.mem_of_getElem? (i := 36) rfl)) rfl, Ts_in (in_t9 _ (List.mem_of_getElem? (i := 37) rfl)) rfl⟩⟩
