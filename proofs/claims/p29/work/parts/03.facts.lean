/-! methods, the layout, links of the constant pools: by program from the printed names -/
abbrev m0_init : Mt := (yX0_init, cX0_init, 1, none)
abbrev m0_clear : Mt := (yX0_clear, cX0_clear, 1, none)
abbrev m0_copyFrom : Mt := (yX0_copyFrom, cX0_copyFrom, 2, none)
abbrev m0_add : Mt := (yX0_add, cX0_add, 8, none)
abbrev m0_undoLast : Mt := (yX0_undoLast, cX0_undoLast, 3, none)
abbrev m0_slot : Mt := (yX0_slot, cX0_slot, 3, some .int)
abbrev m0_putBack : Mt := (yX0_putBack, cX0_putBack, 4, none)
abbrev m1_init : Mt := (yX1_init, cX1_init, 2, none)
abbrev m2_init : Mt := (yX2_init, cX2_init, 2, none)
abbrev m3_init : Mt := (yX3_init, cX3_init, 2, none)
abbrev m3_find : Mt := (yX3_find, cX3_find, 3, none)
abbrev m3_firstThatEnds : Mt := (yX3_firstThatEnds, cX3_firstThatEnds, 5, some .int)
abbrev m3_ends : Mt := (yX3_ends, cX3_ends, 5, some .boolean)
abbrev m3_lackThen : Mt := (yX3_lackThen, cX3_lackThen, 7, some .int)
abbrev m3_firstOfTwo : Mt := (yX3_firstOfTwo, cX3_firstOfTwo, 6, some .int)
abbrev m4_init : Mt := (yX4_init, cX4_init, 2, none)
abbrev m4_late : Mt := (yX4_late, cX4_late, 4, some .int)
abbrev m4_findInTheWay : Mt := (yX4_findInTheWay, cX4_findInTheWay, 5, none)
abbrev m4_spaceWithout : Mt := (yX4_spaceWithout, cX4_spaceWithout, 5, some .int)
abbrev m4_stricter : Mt := (yX4_stricter, cX4_stricter, 5, some .int)
abbrev m4_tighter : Mt := (yX4_tighter, cX4_tighter, 7, some .int)
abbrev m4_apart : Mt := (yX4_apart, cX4_apart, 3, some .int)
abbrev m4_priceOfWork : Mt := (yX4_priceOfWork, cX4_priceOfWork, 4, some .int)
abbrev m4_priceOfLibrary : Mt := (yX4_priceOfLibrary, cX4_priceOfLibrary, 6, some .int)
abbrev m5_init : Mt := (yX5_init, cX5_init, 2, none)
abbrev m5_make : Mt := (yX5_make, cX5_make, 6, none)
abbrev m5_takeMost : Mt := (yX5_takeMost, cX5_takeMost, 10, some .int)
abbrev m5_copiesFrom : Mt := (yX5_copiesFrom, cX5_copiesFrom, 4, some .int)
abbrev m5_copiesOf : Mt := (yX5_copiesOf, cX5_copiesOf, 4, some .int)
abbrev m5_wonBy : Mt := (yX5_wonBy, cX5_wonBy, 5, some .int)
abbrev m5_packed : Mt := (yX5_packed, cX5_packed, 4, some .long)
abbrev m5_changes : Mt := (yX5_changes, cX5_changes, 5, some .int)
abbrev m5_changesOf : Mt := (yX5_changesOf, cX5_changesOf, 10, some .int)
abbrev m5_mayMove : Mt := (yX5_mayMove, cX5_mayMove, 5, some .boolean)
abbrev m6_init : Mt := (yX6_init, cX6_init, 1, none)
abbrev m6_load : Mt := (yX6_load, cX6_load, 4, none)
abbrev m6_rank : Mt := (yX6_rank, cX6_rank, 3, none)
abbrev m6_sumNeeds : Mt := (yX6_sumNeeds, cX6_sumNeeds, 4, none)
abbrev m6_sumOffers : Mt := (yX6_sumOffers, cX6_sumOffers, 9, none)
abbrev m6_setSpare : Mt := (yX6_setSpare, cX6_setSpare, 3, none)
abbrev m6_setOffer : Mt := (yX6_setOffer, cX6_setOffer, 4, none)
abbrev m6_setLibrary : Mt := (yX6_setLibrary, cX6_setLibrary, 4, none)
abbrev m6_canTake : Mt := (yX6_canTake, cX6_canTake, 4, some .int)
abbrev m6_lackOf : Mt := (yX6_lackOf, cX6_lackOf, 2, some .int)
abbrev m6_hasPlan : Mt := (yX6_hasPlan, cX6_hasPlan, 2, some .boolean)
abbrev m6_worstSet : Mt := (yX6_worstSet, cX6_worstSet, 6, some .int)
abbrev m6_scarceWorks : Mt := (yX6_scarceWorks, cX6_scarceWorks, 4, some .int)
abbrev m6_space : Mt := (yX6_space, cX6_space, 8, some .int)
abbrev m6_weighMost : Mt := (yX6_weighMost, cX6_weighMost, 5, some .int)
abbrev m6_copiesOfPlan : Mt := (yX6_copiesOfPlan, cX6_copiesOfPlan, 1, some .int)
abbrev m7_init : Mt := (yX7_init, cX7_init, 1, none)
abbrev m7_copyFrom : Mt := (yX7_copyFrom, cX7_copyFrom, 2, none)
abbrev m8_init : Mt := (yX8_init, cX8_init, 1, none)
abbrev m8_clear : Mt := (yX8_clear, cX8_clear, 2, none)
abbrev m8_copyFrom : Mt := (yX8_copyFrom, cX8_copyFrom, 2, none)
abbrev m8_libraries : Mt := (yX8_libraries, cX8_libraries, 1, some .int)
abbrev m8_works : Mt := (yX8_works, cX8_works, 1, some .int)
abbrev m8_addLibrary : Mt := (yX8_addLibrary, cX8_addLibrary, 4, none)
abbrev m8_addWork : Mt := (yX8_addWork, cX8_addWork, 4, none)
abbrev m8_isLibrary : Mt := (yX8_isLibrary, cX8_isLibrary, 2, some .boolean)
abbrev m8_isWork : Mt := (yX8_isWork, cX8_isWork, 2, some .boolean)
abbrev m8_isPair : Mt := (yX8_isPair, cX8_isPair, 3, some .boolean)
abbrev m8_roomOf : Mt := (yX8_roomOf, cX8_roomOf, 2, some .int)
abbrev m8_wishOf : Mt := (yX8_wishOf, cX8_wishOf, 2, some .int)
abbrev m8_sizeOf : Mt := (yX8_sizeOf, cX8_sizeOf, 2, some .int)
abbrev m8_keepOf : Mt := (yX8_keepOf, cX8_keepOf, 2, some .int)
abbrev m8_storedOf : Mt := (yX8_storedOf, cX8_storedOf, 2, some .int)
abbrev m8_heldIn : Mt := (yX8_heldIn, cX8_heldIn, 3, some .int)
abbrev m8_muchOf : Mt := (yX8_muchOf, cX8_muchOf, 3, some .int)
abbrev m8_untilOf : Mt := (yX8_untilOf, cX8_untilOf, 3, some .int)
abbrev m8_promiseCounts : Mt := (yX8_promiseCounts, cX8_promiseCounts, 4, some .boolean)
abbrev m8_offerOf : Mt := (yX8_offerOf, cX8_offerOf, 4, some .int)
abbrev m8_copiesIn : Mt := (yX8_copiesIn, cX8_copiesIn, 4, some .int)
abbrev m8_copiesHeld : Mt := (yX8_copiesHeld, cX8_copiesHeld, 3, some .int)
abbrev m8_copiesStored : Mt := (yX8_copiesStored, cX8_copiesStored, 3, some .int)
abbrev m8_copiesOf : Mt := (yX8_copiesOf, cX8_copiesOf, 4, some .int)
abbrev m8_spareOf : Mt := (yX8_spareOf, cX8_spareOf, 2, some .int)
abbrev m8_shortOf : Mt := (yX8_shortOf, cX8_shortOf, 2, some .int)
abbrev m8_needOf : Mt := (yX8_needOf, cX8_needOf, 2, some .int)
abbrev m8_mayGo : Mt := (yX8_mayGo, cX8_mayGo, 3, some .boolean)
abbrev m8_whyNot : Mt := (yX8_whyNot, cX8_whyNot, 3, some .int)
abbrev m8_hasRoom : Mt := (yX8_hasRoom, cX8_hasRoom, 2, some .boolean)
abbrev m8_mayGive : Mt := (yX8_mayGive, cX8_mayGive, 4, some .boolean)
abbrev m8_maySend : Mt := (yX8_maySend, cX8_maySend, 3, some .boolean)
abbrev m8_moveOne : Mt := (yX8_moveOne, cX8_moveOne, 4, none)
abbrev m8_holdersOf : Mt := (yX8_holdersOf, cX8_holdersOf, 4, some .int)
abbrev m8_lastWorks : Mt := (yX8_lastWorks, cX8_lastWorks, 3, some .int)
abbrev m8_shortWorks : Mt := (yX8_shortWorks, cX8_shortWorks, 3, some .int)
abbrev m8_scarceWithout : Mt := (yX8_scarceWithout, cX8_scarceWithout, 4, some .int)
abbrev m8_lostWithout : Mt := (yX8_lostWithout, cX8_lostWithout, 5, some .int)
abbrev m8_safe : Mt := (yX8_safe, cX8_safe, 6, some .int)
abbrev m8_promiseEndsWith : Mt := (yX8_promiseEndsWith, cX8_promiseEndsWith, 3, some .boolean)
abbrev m8_withdraw : Mt := (yX8_withdraw, cX8_withdraw, 4, none)
abbrev m8_putBack : Mt := (yX8_putBack, cX8_putBack, 4, none)
abbrev m9_init : Mt := (yX9_init, cX9_init, 1, none)
abbrev m9_read : Mt := (yX9_read, cX9_read, 5, some .int)
abbrev m9_refuse : Mt := (yX9_refuse, cX9_refuse, 2, none)
abbrev m9_byteAt : Mt := (yX9_byteAt, cX9_byteAt, 2, some .int)
abbrev m9_isLetter : Mt := (yX9_isLetter, cX9_isLetter, 1, some .boolean)
abbrev m9_isDigit : Mt := (yX9_isDigit, cX9_isDigit, 1, some .boolean)
abbrev m9_next : Mt := (yX9_next, cX9_next, 2, none)
abbrev m9_wordIs : Mt := (yX9_wordIs, cX9_wordIs, 3, some .boolean)
abbrev m9_readClause : Mt := (yX9_readClause, cX9_readClause, 1, none)
abbrev m9_readLibraryClause : Mt := (yX9_readLibraryClause, cX9_readLibraryClause, 3, none)
abbrev m9_readWorkClause : Mt := (yX9_readWorkClause, cX9_readWorkClause, 3, none)
abbrev m9_readHoldsClause : Mt := (yX9_readHoldsClause, cX9_readHoldsClause, 4, none)
abbrev m9_readPromiseClause : Mt := (yX9_readPromiseClause, cX9_readPromiseClause, 5, none)
abbrev m9_readStoreClause : Mt := (yX9_readStoreClause, cX9_readStoreClause, 2, none)
abbrev m9_readNumberOf : Mt := (yX9_readNumberOf, cX9_readNumberOf, 5, some .int)
abbrev m9_readNumber : Mt := (yX9_readNumber, cX9_readNumber, 4, some .int)
abbrev m9_checkNumber : Mt := (yX9_checkNumber, cX9_checkNumber, 5, some .int)
abbrev m9_readSign : Mt := (yX9_readSign, cX9_readSign, 1, none)
abbrev m10_init : Mt := (yX10_init, cX10_init, 2, none)
abbrev m10_begin : Mt := (yX10_begin, cX10_begin, 3, none)
abbrev m10_goRound : Mt := (yX10_goRound, cX10_goRound, 5, none)
abbrev m10_findOrders : Mt := (yX10_findOrders, cX10_findOrders, 2, none)
abbrev m10_lineUp : Mt := (yX10_lineUp, cX10_lineUp, 6, none)
abbrev m10_withdraw : Mt := (yX10_withdraw, cX10_withdraw, 10, some .int)
abbrev m11_init : Mt := (yX11_init, cX11_init, 1, none)
abbrev m11_feed : Mt := (yX11_feed, cX11_feed, 6, some .int)
abbrev m11_putOnTape : Mt := (yX11_putOnTape, cX11_putOnTape, 3, none)
abbrev m11_desk : Mt := (yX11_desk, cX11_desk, 3, some .int)
abbrev m11_count : Mt := (yX11_count, cX11_count, 2, some .int)
abbrev m11_countInStock : Mt := (yX11_countInStock, cX11_countInStock, 3, some .int)
abbrev m11_countOfPlan : Mt := (yX11_countOfPlan, cX11_countOfPlan, 3, some .int)
abbrev m11_countOfShortage : Mt := (yX11_countOfShortage, cX11_countOfShortage, 3, some .int)
abbrev m11_countOfDesk : Mt := (yX11_countOfDesk, cX11_countOfDesk, 2, some .int)
abbrev m11_library : Mt := (yX11_library, cX11_library, 4, some .int)
abbrev m11_work : Mt := (yX11_work, cX11_work, 4, some .int)
abbrev m11_held : Mt := (yX11_held, cX11_held, 5, some .int)
abbrev m11_lack : Mt := (yX11_lack, cX11_lack, 2, some .int)
abbrev m11_own : Mt := (yX11_own, cX11_own, 6, some .int)
abbrev m11_promise : Mt := (yX11_promise, cX11_promise, 9, some .int)
abbrev m11_keep : Mt := (yX11_keep, cX11_keep, 5, some .int)
abbrev m11_room : Mt := (yX11_room, cX11_room, 7, some .int)
abbrev m11_go : Mt := (yX11_go, cX11_go, 5, some .int)
abbrev m11_give : Mt := (yX11_give, cX11_give, 7, some .int)
abbrev m11_send : Mt := (yX11_send, cX11_send, 6, some .int)
abbrev m11_carry : Mt := (yX11_carry, cX11_carry, 5, some .int)
abbrev m11_years : Mt := (yX11_years, cX11_years, 3, some .int)
abbrev m11_undo : Mt := (yX11_undo, cX11_undo, 1, some .int)
abbrev m11_image : Mt := (yX11_image, cX11_image, 1, none)
abbrev m11_restore : Mt := (yX11_restore, cX11_restore, 1, some .boolean)
abbrev m11_refuseAct : Mt := (yX11_refuseAct, cX11_refuseAct, 1, some .int)
abbrev m11_act : Mt := (yX11_act, cX11_act, 6, none)
abbrev m11_refreshPlan : Mt := (yX11_refreshPlan, cX11_refreshPlan, 1, none)
abbrev m11_pairOf : Mt := (yX11_pairOf, cX11_pairOf, 2, some .int)
def shT : List (Nat × Nat) := [(11, 16), (22, 700), (7, 5), (8, 1), (20, 123), (0, 5), (20, 80), (20, 80), (21, 40), (20, 6), (20, 3), (7, 5), (8, 1), (20, 123), (0, 5), (20, 80), (20, 80), (21, 40), (20, 6), (20, 3), (8, 1), (20, 123), (9, 9), (22, 0), (6, 14), (20, 30), (20, 6), (20, 5), (20, 5), (20, 6), (20, 6), (20, 192), (20, 192), (20, 32), (20, 32), (20, 6), (5, 4), (20, 30), (4, 4), (8, 1), (20, 123), (10, 9), (20, 36), (20, 5), (20, 5), (3, 5), (8, 1), (20, 123), (20, 32), (2, 7), (23, 96), (21, 16), (1, 4), (5, 4), (20, 30), (8, 1), (20, 123)]
def tgT : List (List Nat) := [[2, 2, 2, 0, 0], [2, 0, 2, 0], [2, 2, 2, 0, 0, 0, 0], [2, 2, 2, 0, 0], [2, 2, 0, 0], [2, 2, 1, 0], [2, 2, 2, 2, 2, 2, 2, 2, 2, 2, 2, 0, 0, 0], [2, 2, 2, 0, 2], [2], [2, 0, 2, 1, 0, 0, 0, 0, 0], [2, 2, 2, 0, 2, 0, 0, 0, 0], [2, 0, 0, 2, 2, 1, 2, 2, 2, 2, 1, 2, 2, 2, 2, 2], [2, 1, 0, 1], [2, 1, 1, 0]]
def LY : Sh := (fun h => shT.getD h (99, 0), fun c f => (tgT.getD c []).getD f 9)
def refL : List (Nat × Int × Int) := [(0, 0, 1), (0, 3, 2), (0, 4, 11), (0, 6, 20), (0, 7, 22), (0, 8, 24), (0, 9, 36), (0, 11, 38), (0, 12, 41), (0, 13, 45), (0, 14, 49), (0, 15, 52), (2, 0, 3), (2, 1, 5), (2, 2, 9), (2, 4, 10), (3, 0, 4), (5, 0, 6), (5, 1, 7), (5, 2, 8), (11, 0, 12), (11, 1, 14), (11, 2, 18), (11, 4, 19), (12, 0, 13), (14, 0, 15), (14, 1, 16), (14, 2, 17), (20, 0, 21), (24, 0, 25), (24, 1, 26), (24, 2, 27), (24, 3, 28), (24, 4, 29), (24, 5, 30), (24, 6, 31), (24, 7, 32), (24, 8, 33), (24, 9, 34), (24, 10, 35), (36, 0, 24), (36, 1, 37), (38, 0, 24), (38, 1, 39), (39, 0, 40), (41, 0, 24), (41, 1, 42), (41, 2, 43), (41, 4, 44), (45, 0, 24), (45, 1, 46), (45, 2, 48), (46, 0, 47), (49, 0, 24), (49, 1, 50), (49, 2, 51), (52, 0, 53), (52, 2, 55), (53, 0, 24), (53, 1, 54), (55, 0, 56)]
/-- the references are as the layout has them, and the rows of cells are 0 outside -/
def stC : List Nat := [4, 13, 21, 40, 47, 56]
def GR (M : Mem) : Prop := (∀ q ∈ refL, M q.1 q.2.1 = q.2.2) ∧ ∀ c ∈ stC, ∀ k : Int, (k < 0 ∨ 123 ≤ k) → M c k = 0
theorem gr_0_0 {M : Mem} (hG : GR M) : M 0 0 = ((1 : Nat) : Int) := hG.1 (0, 0, 1) (List.mem_of_getElem? (i := 0) rfl)
theorem gr_0_3 {M : Mem} (hG : GR M) : M 0 3 = ((2 : Nat) : Int) := hG.1 (0, 3, 2) (List.mem_of_getElem? (i := 1) rfl)
theorem gr_0_4 {M : Mem} (hG : GR M) : M 0 4 = ((11 : Nat) : Int) := hG.1 (0, 4, 11) (List.mem_of_getElem? (i := 2) rfl)
theorem gr_0_6 {M : Mem} (hG : GR M) : M 0 6 = ((20 : Nat) : Int) := hG.1 (0, 6, 20) (List.mem_of_getElem? (i := 3) rfl)
theorem gr_0_7 {M : Mem} (hG : GR M) : M 0 7 = ((22 : Nat) : Int) := hG.1 (0, 7, 22) (List.mem_of_getElem? (i := 4) rfl)
theorem gr_0_8 {M : Mem} (hG : GR M) : M 0 8 = ((24 : Nat) : Int) := hG.1 (0, 8, 24) (List.mem_of_getElem? (i := 5) rfl)
theorem gr_0_9 {M : Mem} (hG : GR M) : M 0 9 = ((36 : Nat) : Int) := hG.1 (0, 9, 36) (List.mem_of_getElem? (i := 6) rfl)
theorem gr_0_11 {M : Mem} (hG : GR M) : M 0 11 = ((38 : Nat) : Int) := hG.1 (0, 11, 38) (List.mem_of_getElem? (i := 7) rfl)
theorem gr_0_12 {M : Mem} (hG : GR M) : M 0 12 = ((41 : Nat) : Int) := hG.1 (0, 12, 41) (List.mem_of_getElem? (i := 8) rfl)
theorem gr_0_13 {M : Mem} (hG : GR M) : M 0 13 = ((45 : Nat) : Int) := hG.1 (0, 13, 45) (List.mem_of_getElem? (i := 9) rfl)
theorem gr_0_14 {M : Mem} (hG : GR M) : M 0 14 = ((49 : Nat) : Int) := hG.1 (0, 14, 49) (List.mem_of_getElem? (i := 10) rfl)
theorem gr_0_15 {M : Mem} (hG : GR M) : M 0 15 = ((52 : Nat) : Int) := hG.1 (0, 15, 52) (List.mem_of_getElem? (i := 11) rfl)
theorem gr_2_0 {M : Mem} (hG : GR M) : M 2 0 = ((3 : Nat) : Int) := hG.1 (2, 0, 3) (List.mem_of_getElem? (i := 12) rfl)
theorem gr_2_1 {M : Mem} (hG : GR M) : M 2 1 = ((5 : Nat) : Int) := hG.1 (2, 1, 5) (List.mem_of_getElem? (i := 13) rfl)
theorem gr_2_2 {M : Mem} (hG : GR M) : M 2 2 = ((9 : Nat) : Int) := hG.1 (2, 2, 9) (List.mem_of_getElem? (i := 14) rfl)
theorem gr_2_4 {M : Mem} (hG : GR M) : M 2 4 = ((10 : Nat) : Int) := hG.1 (2, 4, 10) (List.mem_of_getElem? (i := 15) rfl)
theorem gr_3_0 {M : Mem} (hG : GR M) : M 3 0 = ((4 : Nat) : Int) := hG.1 (3, 0, 4) (List.mem_of_getElem? (i := 16) rfl)
theorem gr_5_0 {M : Mem} (hG : GR M) : M 5 0 = ((6 : Nat) : Int) := hG.1 (5, 0, 6) (List.mem_of_getElem? (i := 17) rfl)
theorem gr_5_1 {M : Mem} (hG : GR M) : M 5 1 = ((7 : Nat) : Int) := hG.1 (5, 1, 7) (List.mem_of_getElem? (i := 18) rfl)
theorem gr_5_2 {M : Mem} (hG : GR M) : M 5 2 = ((8 : Nat) : Int) := hG.1 (5, 2, 8) (List.mem_of_getElem? (i := 19) rfl)
theorem gr_11_0 {M : Mem} (hG : GR M) : M 11 0 = ((12 : Nat) : Int) := hG.1 (11, 0, 12) (List.mem_of_getElem? (i := 20) rfl)
theorem gr_11_1 {M : Mem} (hG : GR M) : M 11 1 = ((14 : Nat) : Int) := hG.1 (11, 1, 14) (List.mem_of_getElem? (i := 21) rfl)
theorem gr_11_2 {M : Mem} (hG : GR M) : M 11 2 = ((18 : Nat) : Int) := hG.1 (11, 2, 18) (List.mem_of_getElem? (i := 22) rfl)
theorem gr_11_4 {M : Mem} (hG : GR M) : M 11 4 = ((19 : Nat) : Int) := hG.1 (11, 4, 19) (List.mem_of_getElem? (i := 23) rfl)
theorem gr_12_0 {M : Mem} (hG : GR M) : M 12 0 = ((13 : Nat) : Int) := hG.1 (12, 0, 13) (List.mem_of_getElem? (i := 24) rfl)
theorem gr_14_0 {M : Mem} (hG : GR M) : M 14 0 = ((15 : Nat) : Int) := hG.1 (14, 0, 15) (List.mem_of_getElem? (i := 25) rfl)
theorem gr_14_1 {M : Mem} (hG : GR M) : M 14 1 = ((16 : Nat) : Int) := hG.1 (14, 1, 16) (List.mem_of_getElem? (i := 26) rfl)
theorem gr_14_2 {M : Mem} (hG : GR M) : M 14 2 = ((17 : Nat) : Int) := hG.1 (14, 2, 17) (List.mem_of_getElem? (i := 27) rfl)
theorem gr_20_0 {M : Mem} (hG : GR M) : M 20 0 = ((21 : Nat) : Int) := hG.1 (20, 0, 21) (List.mem_of_getElem? (i := 28) rfl)
theorem gr_24_0 {M : Mem} (hG : GR M) : M 24 0 = ((25 : Nat) : Int) := hG.1 (24, 0, 25) (List.mem_of_getElem? (i := 29) rfl)
theorem gr_24_1 {M : Mem} (hG : GR M) : M 24 1 = ((26 : Nat) : Int) := hG.1 (24, 1, 26) (List.mem_of_getElem? (i := 30) rfl)
theorem gr_24_2 {M : Mem} (hG : GR M) : M 24 2 = ((27 : Nat) : Int) := hG.1 (24, 2, 27) (List.mem_of_getElem? (i := 31) rfl)
theorem gr_24_3 {M : Mem} (hG : GR M) : M 24 3 = ((28 : Nat) : Int) := hG.1 (24, 3, 28) (List.mem_of_getElem? (i := 32) rfl)
theorem gr_24_4 {M : Mem} (hG : GR M) : M 24 4 = ((29 : Nat) : Int) := hG.1 (24, 4, 29) (List.mem_of_getElem? (i := 33) rfl)
theorem gr_24_5 {M : Mem} (hG : GR M) : M 24 5 = ((30 : Nat) : Int) := hG.1 (24, 5, 30) (List.mem_of_getElem? (i := 34) rfl)
theorem gr_24_6 {M : Mem} (hG : GR M) : M 24 6 = ((31 : Nat) : Int) := hG.1 (24, 6, 31) (List.mem_of_getElem? (i := 35) rfl)
theorem gr_24_7 {M : Mem} (hG : GR M) : M 24 7 = ((32 : Nat) : Int) := hG.1 (24, 7, 32) (List.mem_of_getElem? (i := 36) rfl)
theorem gr_24_8 {M : Mem} (hG : GR M) : M 24 8 = ((33 : Nat) : Int) := hG.1 (24, 8, 33) (List.mem_of_getElem? (i := 37) rfl)
theorem gr_24_9 {M : Mem} (hG : GR M) : M 24 9 = ((34 : Nat) : Int) := hG.1 (24, 9, 34) (List.mem_of_getElem? (i := 38) rfl)
theorem gr_24_10 {M : Mem} (hG : GR M) : M 24 10 = ((35 : Nat) : Int) := hG.1 (24, 10, 35) (List.mem_of_getElem? (i := 39) rfl)
theorem gr_36_0 {M : Mem} (hG : GR M) : M 36 0 = ((24 : Nat) : Int) := hG.1 (36, 0, 24) (List.mem_of_getElem? (i := 40) rfl)
theorem gr_36_1 {M : Mem} (hG : GR M) : M 36 1 = ((37 : Nat) : Int) := hG.1 (36, 1, 37) (List.mem_of_getElem? (i := 41) rfl)
theorem gr_38_0 {M : Mem} (hG : GR M) : M 38 0 = ((24 : Nat) : Int) := hG.1 (38, 0, 24) (List.mem_of_getElem? (i := 42) rfl)
theorem gr_38_1 {M : Mem} (hG : GR M) : M 38 1 = ((39 : Nat) : Int) := hG.1 (38, 1, 39) (List.mem_of_getElem? (i := 43) rfl)
theorem gr_39_0 {M : Mem} (hG : GR M) : M 39 0 = ((40 : Nat) : Int) := hG.1 (39, 0, 40) (List.mem_of_getElem? (i := 44) rfl)
theorem gr_41_0 {M : Mem} (hG : GR M) : M 41 0 = ((24 : Nat) : Int) := hG.1 (41, 0, 24) (List.mem_of_getElem? (i := 45) rfl)
theorem gr_41_1 {M : Mem} (hG : GR M) : M 41 1 = ((42 : Nat) : Int) := hG.1 (41, 1, 42) (List.mem_of_getElem? (i := 46) rfl)
theorem gr_41_2 {M : Mem} (hG : GR M) : M 41 2 = ((43 : Nat) : Int) := hG.1 (41, 2, 43) (List.mem_of_getElem? (i := 47) rfl)
theorem gr_41_4 {M : Mem} (hG : GR M) : M 41 4 = ((44 : Nat) : Int) := hG.1 (41, 4, 44) (List.mem_of_getElem? (i := 48) rfl)
theorem gr_45_0 {M : Mem} (hG : GR M) : M 45 0 = ((24 : Nat) : Int) := hG.1 (45, 0, 24) (List.mem_of_getElem? (i := 49) rfl)
theorem gr_45_1 {M : Mem} (hG : GR M) : M 45 1 = ((46 : Nat) : Int) := hG.1 (45, 1, 46) (List.mem_of_getElem? (i := 50) rfl)
theorem gr_45_2 {M : Mem} (hG : GR M) : M 45 2 = ((48 : Nat) : Int) := hG.1 (45, 2, 48) (List.mem_of_getElem? (i := 51) rfl)
theorem gr_46_0 {M : Mem} (hG : GR M) : M 46 0 = ((47 : Nat) : Int) := hG.1 (46, 0, 47) (List.mem_of_getElem? (i := 52) rfl)
theorem gr_49_0 {M : Mem} (hG : GR M) : M 49 0 = ((24 : Nat) : Int) := hG.1 (49, 0, 24) (List.mem_of_getElem? (i := 53) rfl)
theorem gr_49_1 {M : Mem} (hG : GR M) : M 49 1 = ((50 : Nat) : Int) := hG.1 (49, 1, 50) (List.mem_of_getElem? (i := 54) rfl)
theorem gr_49_2 {M : Mem} (hG : GR M) : M 49 2 = ((51 : Nat) : Int) := hG.1 (49, 2, 51) (List.mem_of_getElem? (i := 55) rfl)
theorem gr_52_0 {M : Mem} (hG : GR M) : M 52 0 = ((53 : Nat) : Int) := hG.1 (52, 0, 53) (List.mem_of_getElem? (i := 56) rfl)
theorem gr_52_2 {M : Mem} (hG : GR M) : M 52 2 = ((55 : Nat) : Int) := hG.1 (52, 2, 55) (List.mem_of_getElem? (i := 57) rfl)
theorem gr_53_0 {M : Mem} (hG : GR M) : M 53 0 = ((24 : Nat) : Int) := hG.1 (53, 0, 24) (List.mem_of_getElem? (i := 58) rfl)
theorem gr_53_1 {M : Mem} (hG : GR M) : M 53 1 = ((54 : Nat) : Int) := hG.1 (53, 1, 54) (List.mem_of_getElem? (i := 59) rfl)
theorem gr_55_0 {M : Mem} (hG : GR M) : M 55 0 = ((56 : Nat) : Int) := hG.1 (55, 0, 56) (List.mem_of_getElem? (i := 60) rfl)
theorem in_t1 : ∀ w ∈ tables_1_1, w ∈ lw_tbl := fun w h => List.mem_append_right _ (List.mem_append_left _ h)
theorem in_t2 : ∀ w ∈ tables_1_2, w ∈ lw_tbl := fun w h => List.mem_append_right _ (List.mem_append_right _ (List.mem_append_left _ h))
theorem in_t3 : ∀ w ∈ tables_1_3, w ∈ lw_tbl := fun w h => List.mem_append_right _ (List.mem_append_right _ (List.mem_append_right _ (List.mem_append_left _ h)))
theorem in_t4 : ∀ w ∈ tables_1_4, w ∈ lw_tbl := fun w h => List.mem_append_right _ (List.mem_append_right _ (List.mem_append_right _ (List.mem_append_right _ (List.mem_append_left _ h))))
theorem in_t5 : ∀ w ∈ tables_1_5, w ∈ lw_tbl := fun w h => List.mem_append_right _ (List.mem_append_right _ (List.mem_append_right _ (List.mem_append_right _ (List.mem_append_right _ (List.mem_append_left _ h)))))
theorem in_t6 : ∀ w ∈ tables_1_6, w ∈ lw_tbl := fun w h => List.mem_append_right _ (List.mem_append_right _ (List.mem_append_right _ (List.mem_append_right _ (List.mem_append_right _ (List.mem_append_right _ (List.mem_append_left _ h))))))
theorem in_t7 : ∀ w ∈ tables_1_7, w ∈ lw_tbl := fun w h => List.mem_append_right _ (List.mem_append_right _ (List.mem_append_right _ (List.mem_append_right _ (List.mem_append_right _ (List.mem_append_right _ (List.mem_append_right _ (h)))))))
theorem in_s1 : ∀ q ∈ lw_privs_1, Cond.selects q.1.cls q.1 q.1 ∈ lw_tbl := fun q h => List.mem_append_left _ (List.mem_map.mpr ⟨q, List.mem_append_left _ h, rfl⟩)
theorem in_s2 : ∀ q ∈ lw_privs_2, Cond.selects q.1.cls q.1 q.1 ∈ lw_tbl := fun q h => List.mem_append_left _ (List.mem_map.mpr ⟨q, List.mem_append_right _ (List.mem_append_left _ h), rfl⟩)
theorem in_s3 : ∀ q ∈ lw_privs_3, Cond.selects q.1.cls q.1 q.1 ∈ lw_tbl := fun q h => List.mem_append_left _ (List.mem_map.mpr ⟨q, List.mem_append_right _ (List.mem_append_right _ (h)), rfl⟩)
set_option maxRecDepth 20000 in
theorem cl_0 : ClOK 0 RX0 TX0 5 tyX0 := ⟨rfl, List.forall_mem_cons.mpr ⟨Ts_in (in_t1 _ (List.mem_of_getElem? (i := 72) rfl)) rfl, List.forall_mem_cons.mpr ⟨Ts_in (in_t1 _ (List.mem_of_getElem? (i := 74) rfl)) rfl, List.forall_mem_cons.mpr ⟨Ts_in (in_t1 _ (List.mem_of_getElem? (i := 76) rfl)) rfl, List.forall_mem_cons.mpr ⟨Ts_in (in_t1 _ (List.mem_of_getElem? (i := 78) rfl)) rfl, List.forall_mem_cons.mpr ⟨Ts_in (in_t1 _ (List.mem_of_getElem? (i := 80) rfl)) rfl, (fun _ h => absurd h List.not_mem_nil)⟩⟩⟩⟩⟩, tyX0_ok, nmX0⟩
set_option maxRecDepth 20000 in
theorem cl_1 : ClOK 1 RX1 TX1 4 tyX1 := ⟨rfl, List.forall_mem_cons.mpr ⟨Ts_in (in_t2 _ (List.mem_of_getElem? (i := 116) rfl)) rfl, List.forall_mem_cons.mpr ⟨Ts_in (in_t2 _ (List.mem_of_getElem? (i := 118) rfl)) rfl, List.forall_mem_cons.mpr ⟨Ts_in (in_t2 _ (List.mem_of_getElem? (i := 120) rfl)) rfl, List.forall_mem_cons.mpr ⟨Ts_in (in_t2 _ (List.mem_of_getElem? (i := 122) rfl)) rfl, (fun _ h => absurd h List.not_mem_nil)⟩⟩⟩⟩, tyX1_ok, nmX1⟩
set_option maxRecDepth 20000 in
theorem cl_2 : ClOK 2 RX2 TX2 7 tyX2 := ⟨rfl, List.forall_mem_cons.mpr ⟨Ts_in (in_t2 _ (List.mem_of_getElem? (i := 90) rfl)) rfl, List.forall_mem_cons.mpr ⟨Ts_in (in_t2 _ (List.mem_of_getElem? (i := 92) rfl)) rfl, List.forall_mem_cons.mpr ⟨Ts_in (in_t2 _ (List.mem_of_getElem? (i := 94) rfl)) rfl, List.forall_mem_cons.mpr ⟨Ts_in (in_t2 _ (List.mem_of_getElem? (i := 96) rfl)) rfl, List.forall_mem_cons.mpr ⟨Ts_in (in_t2 _ (List.mem_of_getElem? (i := 98) rfl)) rfl, List.forall_mem_cons.mpr ⟨Ts_in (in_t2 _ (List.mem_of_getElem? (i := 100) rfl)) rfl, List.forall_mem_cons.mpr ⟨Ts_in (in_t2 _ (List.mem_of_getElem? (i := 102) rfl)) rfl, (fun _ h => absurd h List.not_mem_nil)⟩⟩⟩⟩⟩⟩⟩, tyX2_ok, nmX2⟩
set_option maxRecDepth 20000 in
theorem cl_3 : ClOK 3 RX3 TX3 5 tyX3 := ⟨rfl, List.forall_mem_cons.mpr ⟨Ts_in (in_t2 _ (List.mem_of_getElem? (i := 70) rfl)) rfl, List.forall_mem_cons.mpr ⟨Ts_in (in_t2 _ (List.mem_of_getElem? (i := 72) rfl)) rfl, List.forall_mem_cons.mpr ⟨Ts_in (in_t2 _ (List.mem_of_getElem? (i := 74) rfl)) rfl, List.forall_mem_cons.mpr ⟨Ts_in (in_t2 _ (List.mem_of_getElem? (i := 76) rfl)) rfl, List.forall_mem_cons.mpr ⟨Ts_in (in_t2 _ (List.mem_of_getElem? (i := 78) rfl)) rfl, (fun _ h => absurd h List.not_mem_nil)⟩⟩⟩⟩⟩, tyX3_ok, nmX3⟩
set_option maxRecDepth 20000 in
theorem cl_4 : ClOK 4 RX4 TX4 4 tyX4 := ⟨rfl, List.forall_mem_cons.mpr ⟨Ts_in (in_t2 _ (List.mem_of_getElem? (i := 9) rfl)) rfl, List.forall_mem_cons.mpr ⟨Ts_in (in_t2 _ (List.mem_of_getElem? (i := 11) rfl)) rfl, List.forall_mem_cons.mpr ⟨Ts_in (in_t2 _ (List.mem_of_getElem? (i := 13) rfl)) rfl, List.forall_mem_cons.mpr ⟨Ts_in (in_t2 _ (List.mem_of_getElem? (i := 15) rfl)) rfl, (fun _ h => absurd h List.not_mem_nil)⟩⟩⟩⟩, tyX4_ok, nmX4⟩
set_option maxRecDepth 20000 in
theorem cl_5 : ClOK 5 RX5 TX5 4 tyX5 := ⟨rfl, List.forall_mem_cons.mpr ⟨Ts_in (in_t1 _ (List.mem_of_getElem? (i := 226) rfl)) rfl, List.forall_mem_cons.mpr ⟨Ts_in (in_t1 _ (List.mem_of_getElem? (i := 228) rfl)) rfl, List.forall_mem_cons.mpr ⟨Ts_in (in_t1 _ (List.mem_of_getElem? (i := 230) rfl)) rfl, List.forall_mem_cons.mpr ⟨Ts_in (in_t1 _ (List.mem_of_getElem? (i := 232) rfl)) rfl, (fun _ h => absurd h List.not_mem_nil)⟩⟩⟩⟩, tyX5_ok, nmX5⟩
set_option maxRecDepth 20000 in
theorem cl_6 : ClOK 6 RX6 TX6 14 tyX6 := ⟨rfl, List.forall_mem_cons.mpr ⟨Ts_in (in_t1 _ (List.mem_of_getElem? (i := 184) rfl)) rfl, List.forall_mem_cons.mpr ⟨Ts_in (in_t1 _ (List.mem_of_getElem? (i := 186) rfl)) rfl, List.forall_mem_cons.mpr ⟨Ts_in (in_t1 _ (List.mem_of_getElem? (i := 188) rfl)) rfl, List.forall_mem_cons.mpr ⟨Ts_in (in_t1 _ (List.mem_of_getElem? (i := 190) rfl)) rfl, List.forall_mem_cons.mpr ⟨Ts_in (in_t1 _ (List.mem_of_getElem? (i := 192) rfl)) rfl, List.forall_mem_cons.mpr ⟨Ts_in (in_t1 _ (List.mem_of_getElem? (i := 194) rfl)) rfl, List.forall_mem_cons.mpr ⟨Ts_in (in_t1 _ (List.mem_of_getElem? (i := 196) rfl)) rfl, List.forall_mem_cons.mpr ⟨Ts_in (in_t1 _ (List.mem_of_getElem? (i := 198) rfl)) rfl, List.forall_mem_cons.mpr ⟨Ts_in (in_t1 _ (List.mem_of_getElem? (i := 200) rfl)) rfl, List.forall_mem_cons.mpr ⟨Ts_in (in_t1 _ (List.mem_of_getElem? (i := 202) rfl)) rfl, List.forall_mem_cons.mpr ⟨Ts_in (in_t1 _ (List.mem_of_getElem? (i := 204) rfl)) rfl, List.forall_mem_cons.mpr ⟨Ts_in (in_t1 _ (List.mem_of_getElem? (i := 206) rfl)) rfl, List.forall_mem_cons.mpr ⟨Ts_in (in_t1 _ (List.mem_of_getElem? (i := 208) rfl)) rfl, List.forall_mem_cons.mpr ⟨Ts_in (in_t1 _ (List.mem_of_getElem? (i := 210) rfl)) rfl, (fun _ h => absurd h List.not_mem_nil)⟩⟩⟩⟩⟩⟩⟩⟩⟩⟩⟩⟩⟩⟩, tyX6_ok, nmX6⟩
set_option maxRecDepth 20000 in
theorem cl_7 : ClOK 7 RX7 TX7 5 tyX7 := ⟨rfl, List.forall_mem_cons.mpr ⟨Ts_in (in_t1 _ (List.mem_of_getElem? (i := 93) rfl)) rfl, List.forall_mem_cons.mpr ⟨Ts_in (in_t1 _ (List.mem_of_getElem? (i := 95) rfl)) rfl, List.forall_mem_cons.mpr ⟨Ts_in (in_t1 _ (List.mem_of_getElem? (i := 97) rfl)) rfl, List.forall_mem_cons.mpr ⟨Ts_in (in_t1 _ (List.mem_of_getElem? (i := 99) rfl)) rfl, List.forall_mem_cons.mpr ⟨Ts_in (in_t1 _ (List.mem_of_getElem? (i := 101) rfl)) rfl, (fun _ h => absurd h List.not_mem_nil)⟩⟩⟩⟩⟩, tyX7_ok, nmX7⟩
set_option maxRecDepth 20000 in
theorem cl_8 : ClOK 8 RX8 TX8 1 tyX8 := ⟨rfl, List.forall_mem_cons.mpr ⟨Ts_in (in_t1 _ (List.mem_of_getElem? (i := 55) rfl)) rfl, (fun _ h => absurd h List.not_mem_nil)⟩, tyX8_ok, nmX8⟩
set_option maxRecDepth 20000 in
theorem cl_9 : ClOK 9 RX9 TX9 9 tyX9 := ⟨rfl, List.forall_mem_cons.mpr ⟨Ts_in (in_t1 _ (List.mem_of_getElem? (i := 122) rfl)) rfl, List.forall_mem_cons.mpr ⟨Ts_in (in_t1 _ (List.mem_of_getElem? (i := 124) rfl)) rfl, List.forall_mem_cons.mpr ⟨Ts_in (in_t1 _ (List.mem_of_getElem? (i := 126) rfl)) rfl, List.forall_mem_cons.mpr ⟨Ts_in (in_t1 _ (List.mem_of_getElem? (i := 128) rfl)) rfl, List.forall_mem_cons.mpr ⟨Ts_in (in_t1 _ (List.mem_of_getElem? (i := 130) rfl)) rfl, List.forall_mem_cons.mpr ⟨Ts_in (in_t1 _ (List.mem_of_getElem? (i := 132) rfl)) rfl, List.forall_mem_cons.mpr ⟨Ts_in (in_t1 _ (List.mem_of_getElem? (i := 134) rfl)) rfl, List.forall_mem_cons.mpr ⟨Ts_in (in_t1 _ (List.mem_of_getElem? (i := 136) rfl)) rfl, List.forall_mem_cons.mpr ⟨Ts_in (in_t1 _ (List.mem_of_getElem? (i := 138) rfl)) rfl, (fun _ h => absurd h List.not_mem_nil)⟩⟩⟩⟩⟩⟩⟩⟩⟩, tyX9_ok, nmX9⟩
set_option maxRecDepth 20000 in
theorem cl_10 : ClOK 10 RX10 TX10 9 tyX10 := ⟨rfl, List.forall_mem_cons.mpr ⟨Ts_in (in_t2 _ (List.mem_of_getElem? (i := 36) rfl)) rfl, List.forall_mem_cons.mpr ⟨Ts_in (in_t2 _ (List.mem_of_getElem? (i := 38) rfl)) rfl, List.forall_mem_cons.mpr ⟨Ts_in (in_t2 _ (List.mem_of_getElem? (i := 40) rfl)) rfl, List.forall_mem_cons.mpr ⟨Ts_in (in_t2 _ (List.mem_of_getElem? (i := 42) rfl)) rfl, List.forall_mem_cons.mpr ⟨Ts_in (in_t2 _ (List.mem_of_getElem? (i := 44) rfl)) rfl, List.forall_mem_cons.mpr ⟨Ts_in (in_t2 _ (List.mem_of_getElem? (i := 46) rfl)) rfl, List.forall_mem_cons.mpr ⟨Ts_in (in_t2 _ (List.mem_of_getElem? (i := 48) rfl)) rfl, List.forall_mem_cons.mpr ⟨Ts_in (in_t2 _ (List.mem_of_getElem? (i := 50) rfl)) rfl, List.forall_mem_cons.mpr ⟨Ts_in (in_t2 _ (List.mem_of_getElem? (i := 52) rfl)) rfl, (fun _ h => absurd h List.not_mem_nil)⟩⟩⟩⟩⟩⟩⟩⟩⟩, tyX10_ok, nmX10⟩
set_option maxRecDepth 20000 in
theorem cl_11 : ClOK 11 RX11 TX11 16 tyX11 := ⟨rfl, List.forall_mem_cons.mpr ⟨Ts_in (in_t2 _ (List.mem_of_getElem? (i := 141) rfl)) rfl, List.forall_mem_cons.mpr ⟨Ts_in (in_t2 _ (List.mem_of_getElem? (i := 143) rfl)) rfl, List.forall_mem_cons.mpr ⟨Ts_in (in_t2 _ (List.mem_of_getElem? (i := 145) rfl)) rfl, List.forall_mem_cons.mpr ⟨Ts_in (in_t2 _ (List.mem_of_getElem? (i := 147) rfl)) rfl, List.forall_mem_cons.mpr ⟨Ts_in (in_t2 _ (List.mem_of_getElem? (i := 149) rfl)) rfl, List.forall_mem_cons.mpr ⟨Ts_in (in_t2 _ (List.mem_of_getElem? (i := 151) rfl)) rfl, List.forall_mem_cons.mpr ⟨Ts_in (in_t2 _ (List.mem_of_getElem? (i := 153) rfl)) rfl, List.forall_mem_cons.mpr ⟨Ts_in (in_t2 _ (List.mem_of_getElem? (i := 155) rfl)) rfl, List.forall_mem_cons.mpr ⟨Ts_in (in_t2 _ (List.mem_of_getElem? (i := 157) rfl)) rfl, List.forall_mem_cons.mpr ⟨Ts_in (in_t2 _ (List.mem_of_getElem? (i := 159) rfl)) rfl, List.forall_mem_cons.mpr ⟨Ts_in (in_t2 _ (List.mem_of_getElem? (i := 161) rfl)) rfl, List.forall_mem_cons.mpr ⟨Ts_in (in_t2 _ (List.mem_of_getElem? (i := 163) rfl)) rfl, List.forall_mem_cons.mpr ⟨Ts_in (in_t2 _ (List.mem_of_getElem? (i := 165) rfl)) rfl, List.forall_mem_cons.mpr ⟨Ts_in (in_t2 _ (List.mem_of_getElem? (i := 167) rfl)) rfl, List.forall_mem_cons.mpr ⟨Ts_in (in_t2 _ (List.mem_of_getElem? (i := 169) rfl)) rfl, List.forall_mem_cons.mpr ⟨Ts_in (in_t2 _ (List.mem_of_getElem? (i := 171) rfl)) rfl, (fun _ h => absurd h List.not_mem_nil)⟩⟩⟩⟩⟩⟩⟩⟩⟩⟩⟩⟩⟩⟩⟩⟩, tyX11_ok, nmX11⟩
set_option maxRecDepth 20000 in
theorem cl_12 : ClOK 12 RJ0 TJ0 4 tyJ0 := ⟨rfl, List.forall_mem_cons.mpr ⟨Ts_in (in_t6 _ (List.mem_of_getElem? (i := 2) rfl)) rfl, List.forall_mem_cons.mpr ⟨Ts_in (in_t6 _ (List.mem_of_getElem? (i := 4) rfl)) rfl, List.forall_mem_cons.mpr ⟨Ts_in (in_t6 _ (List.mem_of_getElem? (i := 6) rfl)) rfl, List.forall_mem_cons.mpr ⟨Ts_in (in_t6 _ (List.mem_of_getElem? (i := 8) rfl)) rfl, (fun _ h => absurd h List.not_mem_nil)⟩⟩⟩⟩, tyJ0_ok, nmJ0⟩
set_option maxRecDepth 20000 in
theorem cl_13 : ClOK 13 RJ4 TJ4 4 tyJ4 := ⟨rfl, List.forall_mem_cons.mpr ⟨Ts_in (in_t5 _ (List.mem_of_getElem? (i := 63) rfl)) rfl, List.forall_mem_cons.mpr ⟨Ts_in (in_t5 _ (List.mem_of_getElem? (i := 65) rfl)) rfl, List.forall_mem_cons.mpr ⟨Ts_in (in_t5 _ (List.mem_of_getElem? (i := 67) rfl)) rfl, List.forall_mem_cons.mpr ⟨Ts_in (in_t5 _ (List.mem_of_getElem? (i := 69) rfl)) rfl, (fun _ h => absurd h List.not_mem_nil)⟩⟩⟩⟩, tyJ4_ok, nmJ4⟩
theorem fl_0_9 : FL RX0 9 0 0 2 true := ⟨_, _, _, _, cl_0, by decide, Ts_in (in_t1 _ (List.mem_of_getElem? (i := 66) rfl)) rfl, by decide +kernel, rfl⟩
theorem fl_0_15 : FL RX0 15 0 1 2 true := ⟨_, _, _, _, cl_0, by decide, Ts_in (in_t1 _ (List.mem_of_getElem? (i := 67) rfl)) rfl, by decide +kernel, rfl⟩
theorem fl_0_18 : FL RX0 18 0 2 2 true := ⟨_, _, _, _, cl_0, by decide, Ts_in (in_t1 _ (List.mem_of_getElem? (i := 68) rfl)) rfl, by decide +kernel, rfl⟩
theorem fl_0_22 : FL RX0 22 0 3 0 false := ⟨_, _, _, _, cl_0, by decide, Ts_in (in_t1 _ (List.mem_of_getElem? (i := 69) rfl)) rfl, by decide +kernel, rfl⟩
theorem fl_0_26 : FL RX0 26 0 4 0 false := ⟨_, _, _, _, cl_0, by decide, Ts_in (in_t1 _ (List.mem_of_getElem? (i := 70) rfl)) rfl, by decide +kernel, rfl⟩
theorem fl_0_48 : FL RX0 48 8 0 2 true := ⟨_, _, _, _, cl_8, by decide, Ts_in (in_t1 _ (List.mem_of_getElem? (i := 52) rfl)) rfl, by decide +kernel, rfl⟩
theorem fl_1_9 : FL RX1 9 1 0 2 true := ⟨_, _, _, _, cl_1, by decide, Ts_in (in_t2 _ (List.mem_of_getElem? (i := 114) rfl)) rfl, by decide +kernel, rfl⟩
theorem fl_1_18 : FL RX1 18 1 2 2 true := ⟨_, _, _, _, cl_1, by decide, Ts_in (in_t2 _ (List.mem_of_getElem? (i := 115) rfl)) rfl, by decide +kernel, rfl⟩
theorem fl_2_9 : FL RX2 9 2 0 2 true := ⟨_, _, _, _, cl_2, by decide, Ts_in (in_t2 _ (List.mem_of_getElem? (i := 87) rfl)) rfl, by decide +kernel, rfl⟩
theorem fl_2_15 : FL RX2 15 2 1 2 true := ⟨_, _, _, _, cl_2, by decide, Ts_in (in_t2 _ (List.mem_of_getElem? (i := 88) rfl)) rfl, by decide +kernel, rfl⟩
theorem fl_2_19 : FL RX2 19 2 2 2 true := ⟨_, _, _, _, cl_2, by decide, Ts_in (in_t2 _ (List.mem_of_getElem? (i := 89) rfl)) rfl, by decide +kernel, rfl⟩
theorem fl_3_9 : FL RX3 9 3 0 2 true := ⟨_, _, _, _, cl_3, by decide, Ts_in (in_t2 _ (List.mem_of_getElem? (i := 63) rfl)) rfl, by decide +kernel, rfl⟩
theorem fl_3_18 : FL RX3 18 3 1 2 true := ⟨_, _, _, _, cl_3, by decide, Ts_in (in_t2 _ (List.mem_of_getElem? (i := 64) rfl)) rfl, by decide +kernel, rfl⟩
theorem fl_3_22 : FL RX3 22 3 2 2 true := ⟨_, _, _, _, cl_3, by decide, Ts_in (in_t2 _ (List.mem_of_getElem? (i := 65) rfl)) rfl, by decide +kernel, rfl⟩
theorem fl_3_43 : FL RX3 43 3 3 0 false := ⟨_, _, _, _, cl_3, by decide, Ts_in (in_t2 _ (List.mem_of_getElem? (i := 66) rfl)) rfl, by decide +kernel, rfl⟩
theorem fl_3_47 : FL RX3 47 3 4 0 false := ⟨_, _, _, _, cl_3, by decide, Ts_in (in_t2 _ (List.mem_of_getElem? (i := 68) rfl)) rfl, by decide +kernel, rfl⟩
theorem fl_3_56 : FL RX3 56 6 13 0 false := ⟨_, _, _, _, cl_6, by decide, Ts_in (in_t1 _ (List.mem_of_getElem? (i := 182) rfl)) rfl, by decide +kernel, rfl⟩
theorem fl_3_59 : FL RX3 59 6 11 0 false := ⟨_, _, _, _, cl_6, by decide, Ts_in (in_t1 _ (List.mem_of_getElem? (i := 176) rfl)) rfl, by decide +kernel, rfl⟩
theorem fl_3_66 : FL RX3 66 6 12 0 false := ⟨_, _, _, _, cl_6, by decide, Ts_in (in_t1 _ (List.mem_of_getElem? (i := 180) rfl)) rfl, by decide +kernel, rfl⟩
theorem fl_3_80 : FL RX3 80 6 6 2 true := ⟨_, _, _, _, cl_6, by decide, Ts_in (in_t1 _ (List.mem_of_getElem? (i := 167) rfl)) rfl, by decide +kernel, rfl⟩
theorem fl_3_83 : FL RX3 83 6 2 2 true := ⟨_, _, _, _, cl_6, by decide, Ts_in (in_t1 _ (List.mem_of_getElem? (i := 157) rfl)) rfl, by decide +kernel, rfl⟩
theorem fl_3_86 : FL RX3 86 6 7 2 true := ⟨_, _, _, _, cl_6, by decide, Ts_in (in_t1 _ (List.mem_of_getElem? (i := 169) rfl)) rfl, by decide +kernel, rfl⟩
theorem fl_3_89 : FL RX3 89 6 1 2 true := ⟨_, _, _, _, cl_6, by decide, Ts_in (in_t1 _ (List.mem_of_getElem? (i := 153) rfl)) rfl, by decide +kernel, rfl⟩
theorem fl_4_9 : FL RX4 9 4 0 2 true := ⟨_, _, _, _, cl_4, by decide, Ts_in (in_t2 _ (List.mem_of_getElem? (i := 3) rfl)) rfl, by decide +kernel, rfl⟩
theorem fl_4_18 : FL RX4 18 4 1 2 true := ⟨_, _, _, _, cl_4, by decide, Ts_in (in_t2 _ (List.mem_of_getElem? (i := 4) rfl)) rfl, by decide +kernel, rfl⟩
theorem fl_4_26 : FL RX4 26 8 0 2 true := ⟨_, _, _, _, cl_8, by decide, Ts_in (in_t1 _ (List.mem_of_getElem? (i := 51) rfl)) rfl, by decide +kernel, rfl⟩
theorem fl_4_43 : FL RX4 43 4 2 0 false := ⟨_, _, _, _, cl_4, by decide, Ts_in (in_t2 _ (List.mem_of_getElem? (i := 5) rfl)) rfl, by decide +kernel, rfl⟩
theorem fl_4_47 : FL RX4 47 4 3 0 false := ⟨_, _, _, _, cl_4, by decide, Ts_in (in_t2 _ (List.mem_of_getElem? (i := 7) rfl)) rfl, by decide +kernel, rfl⟩
theorem fl_5_9 : FL RX5 9 5 0 2 true := ⟨_, _, _, _, cl_5, by decide, Ts_in (in_t1 _ (List.mem_of_getElem? (i := 219) rfl)) rfl, by decide +kernel, rfl⟩
theorem fl_5_15 : FL RX5 15 5 1 2 true := ⟨_, _, _, _, cl_5, by decide, Ts_in (in_t1 _ (List.mem_of_getElem? (i := 220) rfl)) rfl, by decide +kernel, rfl⟩
theorem fl_5_19 : FL RX5 19 5 3 0 false := ⟨_, _, _, _, cl_5, by decide, Ts_in (in_t1 _ (List.mem_of_getElem? (i := 224) rfl)) rfl, by decide +kernel, rfl⟩
theorem fl_5_33 : FL RX5 33 5 2 1 false := ⟨_, _, _, _, cl_5, by decide, Ts_in (in_t1 _ (List.mem_of_getElem? (i := 222) rfl)) rfl, by decide +kernel, rfl⟩
theorem fl_5_37 : FL RX5 37 6 11 0 false := ⟨_, _, _, _, cl_6, by decide, Ts_in (in_t1 _ (List.mem_of_getElem? (i := 174) rfl)) rfl, by decide +kernel, rfl⟩
theorem fl_5_40 : FL RX5 40 6 12 0 false := ⟨_, _, _, _, cl_6, by decide, Ts_in (in_t1 _ (List.mem_of_getElem? (i := 179) rfl)) rfl, by decide +kernel, rfl⟩
theorem fl_5_51 : FL RX5 51 6 4 2 true := ⟨_, _, _, _, cl_6, by decide, Ts_in (in_t1 _ (List.mem_of_getElem? (i := 162) rfl)) rfl, by decide +kernel, rfl⟩
theorem fl_5_58 : FL RX5 58 6 1 2 true := ⟨_, _, _, _, cl_6, by decide, Ts_in (in_t1 _ (List.mem_of_getElem? (i := 152) rfl)) rfl, by decide +kernel, rfl⟩
theorem fl_5_61 : FL RX5 61 6 2 2 true := ⟨_, _, _, _, cl_6, by decide, Ts_in (in_t1 _ (List.mem_of_getElem? (i := 155) rfl)) rfl, by decide +kernel, rfl⟩
theorem fl_5_64 : FL RX5 64 6 3 2 true := ⟨_, _, _, _, cl_6, by decide, Ts_in (in_t1 _ (List.mem_of_getElem? (i := 159) rfl)) rfl, by decide +kernel, rfl⟩
theorem fl_5_67 : FL RX5 67 6 0 2 true := ⟨_, _, _, _, cl_6, by decide, Ts_in (in_t1 _ (List.mem_of_getElem? (i := 148) rfl)) rfl, by decide +kernel, rfl⟩
theorem fl_6_9 : FL RX6 9 6 0 2 true := ⟨_, _, _, _, cl_6, by decide, Ts_in (in_t1 _ (List.mem_of_getElem? (i := 147) rfl)) rfl, by decide +kernel, rfl⟩
theorem fl_6_15 : FL RX6 15 6 1 2 true := ⟨_, _, _, _, cl_6, by decide, Ts_in (in_t1 _ (List.mem_of_getElem? (i := 150) rfl)) rfl, by decide +kernel, rfl⟩
theorem fl_6_18 : FL RX6 18 6 2 2 true := ⟨_, _, _, _, cl_6, by decide, Ts_in (in_t1 _ (List.mem_of_getElem? (i := 154) rfl)) rfl, by decide +kernel, rfl⟩
theorem fl_6_21 : FL RX6 21 6 3 2 true := ⟨_, _, _, _, cl_6, by decide, Ts_in (in_t1 _ (List.mem_of_getElem? (i := 158) rfl)) rfl, by decide +kernel, rfl⟩
theorem fl_6_24 : FL RX6 24 6 4 2 true := ⟨_, _, _, _, cl_6, by decide, Ts_in (in_t1 _ (List.mem_of_getElem? (i := 161) rfl)) rfl, by decide +kernel, rfl⟩
theorem fl_6_27 : FL RX6 27 6 5 2 true := ⟨_, _, _, _, cl_6, by decide, Ts_in (in_t1 _ (List.mem_of_getElem? (i := 164) rfl)) rfl, by decide +kernel, rfl⟩
theorem fl_6_30 : FL RX6 30 6 6 2 true := ⟨_, _, _, _, cl_6, by decide, Ts_in (in_t1 _ (List.mem_of_getElem? (i := 166) rfl)) rfl, by decide +kernel, rfl⟩
theorem fl_6_33 : FL RX6 33 6 7 2 true := ⟨_, _, _, _, cl_6, by decide, Ts_in (in_t1 _ (List.mem_of_getElem? (i := 168) rfl)) rfl, by decide +kernel, rfl⟩
theorem fl_6_36 : FL RX6 36 6 8 2 true := ⟨_, _, _, _, cl_6, by decide, Ts_in (in_t1 _ (List.mem_of_getElem? (i := 170) rfl)) rfl, by decide +kernel, rfl⟩
theorem fl_6_39 : FL RX6 39 6 9 2 true := ⟨_, _, _, _, cl_6, by decide, Ts_in (in_t1 _ (List.mem_of_getElem? (i := 171) rfl)) rfl, by decide +kernel, rfl⟩
theorem fl_6_42 : FL RX6 42 6 10 2 true := ⟨_, _, _, _, cl_6, by decide, Ts_in (in_t1 _ (List.mem_of_getElem? (i := 172) rfl)) rfl, by decide +kernel, rfl⟩
theorem fl_6_45 : FL RX6 45 6 13 0 false := ⟨_, _, _, _, cl_6, by decide, Ts_in (in_t1 _ (List.mem_of_getElem? (i := 181) rfl)) rfl, by decide +kernel, rfl⟩
theorem fl_6_61 : FL RX6 61 6 11 0 false := ⟨_, _, _, _, cl_6, by decide, Ts_in (in_t1 _ (List.mem_of_getElem? (i := 173) rfl)) rfl, by decide +kernel, rfl⟩
theorem fl_6_66 : FL RX6 66 6 12 0 false := ⟨_, _, _, _, cl_6, by decide, Ts_in (in_t1 _ (List.mem_of_getElem? (i := 178) rfl)) rfl, by decide +kernel, rfl⟩
theorem fl_7_12 : FL RX7 12 7 0 2 true := ⟨_, _, _, _, cl_7, by decide, Ts_in (in_t1 _ (List.mem_of_getElem? (i := 84) rfl)) rfl, by decide +kernel, rfl⟩
theorem fl_7_21 : FL RX7 21 7 1 2 true := ⟨_, _, _, _, cl_7, by decide, Ts_in (in_t1 _ (List.mem_of_getElem? (i := 86) rfl)) rfl, by decide +kernel, rfl⟩
theorem fl_7_25 : FL RX7 25 7 2 2 true := ⟨_, _, _, _, cl_7, by decide, Ts_in (in_t1 _ (List.mem_of_getElem? (i := 88) rfl)) rfl, by decide +kernel, rfl⟩
theorem fl_7_29 : FL RX7 29 7 3 0 false := ⟨_, _, _, _, cl_7, by decide, Ts_in (in_t1 _ (List.mem_of_getElem? (i := 89) rfl)) rfl, by decide +kernel, rfl⟩
theorem fl_7_33 : FL RX7 33 7 4 2 true := ⟨_, _, _, _, cl_7, by decide, Ts_in (in_t1 _ (List.mem_of_getElem? (i := 91) rfl)) rfl, by decide +kernel, rfl⟩
theorem fl_8_9 : FL RX8 9 8 0 2 true := ⟨_, _, _, _, cl_8, by decide, Ts_in (in_t1 _ (List.mem_of_getElem? (i := 50) rfl)) rfl, by decide +kernel, rfl⟩
theorem fl_9_9 : FL RX9 9 9 0 2 false := ⟨_, _, _, _, cl_9, by decide, Ts_in (in_t1 _ (List.mem_of_getElem? (i := 112) rfl)) rfl, by decide +kernel, rfl⟩
theorem fl_9_15 : FL RX9 15 9 8 0 false := ⟨_, _, _, _, cl_9, by decide, Ts_in (in_t1 _ (List.mem_of_getElem? (i := 120) rfl)) rfl, by decide +kernel, rfl⟩
theorem fl_9_25 : FL RX9 25 9 1 0 false := ⟨_, _, _, _, cl_9, by decide, Ts_in (in_t1 _ (List.mem_of_getElem? (i := 113) rfl)) rfl, by decide +kernel, rfl⟩
theorem fl_9_28 : FL RX9 28 9 2 2 false := ⟨_, _, _, _, cl_9, by decide, Ts_in (in_t1 _ (List.mem_of_getElem? (i := 114) rfl)) rfl, by decide +kernel, rfl⟩
theorem fl_9_37 : FL RX9 37 9 3 1 false := ⟨_, _, _, _, cl_9, by decide, Ts_in (in_t1 _ (List.mem_of_getElem? (i := 115) rfl)) rfl, by decide +kernel, rfl⟩
theorem fl_9_41 : FL RX9 41 9 7 0 false := ⟨_, _, _, _, cl_9, by decide, Ts_in (in_t1 _ (List.mem_of_getElem? (i := 119) rfl)) rfl, by decide +kernel, rfl⟩
theorem fl_9_44 : FL RX9 44 9 6 0 false := ⟨_, _, _, _, cl_9, by decide, Ts_in (in_t1 _ (List.mem_of_getElem? (i := 118) rfl)) rfl, by decide +kernel, rfl⟩
theorem fl_9_50 : FL RX9 50 9 4 0 false := ⟨_, _, _, _, cl_9, by decide, Ts_in (in_t1 _ (List.mem_of_getElem? (i := 116) rfl)) rfl, by decide +kernel, rfl⟩
theorem fl_9_56 : FL RX9 56 9 5 0 false := ⟨_, _, _, _, cl_9, by decide, Ts_in (in_t1 _ (List.mem_of_getElem? (i := 117) rfl)) rfl, by decide +kernel, rfl⟩
theorem fl_9_135 : FL RX9 135 8 0 2 true := ⟨_, _, _, _, cl_8, by decide, Ts_in (in_t1 _ (List.mem_of_getElem? (i := 54) rfl)) rfl, by decide +kernel, rfl⟩
theorem fl_10_9 : FL RX10 9 10 0 2 true := ⟨_, _, _, _, cl_10, by decide, Ts_in (in_t2 _ (List.mem_of_getElem? (i := 24) rfl)) rfl, by decide +kernel, rfl⟩
theorem fl_10_15 : FL RX10 15 10 1 2 true := ⟨_, _, _, _, cl_10, by decide, Ts_in (in_t2 _ (List.mem_of_getElem? (i := 25) rfl)) rfl, by decide +kernel, rfl⟩
theorem fl_10_19 : FL RX10 19 10 2 2 true := ⟨_, _, _, _, cl_10, by decide, Ts_in (in_t2 _ (List.mem_of_getElem? (i := 26) rfl)) rfl, by decide +kernel, rfl⟩
theorem fl_10_22 : FL RX10 22 10 4 2 true := ⟨_, _, _, _, cl_10, by decide, Ts_in (in_t2 _ (List.mem_of_getElem? (i := 28) rfl)) rfl, by decide +kernel, rfl⟩
theorem fl_10_31 : FL RX10 31 6 12 0 false := ⟨_, _, _, _, cl_6, by decide, Ts_in (in_t1 _ (List.mem_of_getElem? (i := 177) rfl)) rfl, by decide +kernel, rfl⟩
theorem fl_10_35 : FL RX10 35 6 1 2 true := ⟨_, _, _, _, cl_6, by decide, Ts_in (in_t1 _ (List.mem_of_getElem? (i := 151) rfl)) rfl, by decide +kernel, rfl⟩
theorem fl_10_39 : FL RX10 39 10 5 0 false := ⟨_, _, _, _, cl_10, by decide, Ts_in (in_t2 _ (List.mem_of_getElem? (i := 29) rfl)) rfl, by decide +kernel, rfl⟩
theorem fl_10_42 : FL RX10 42 10 6 0 false := ⟨_, _, _, _, cl_10, by decide, Ts_in (in_t2 _ (List.mem_of_getElem? (i := 31) rfl)) rfl, by decide +kernel, rfl⟩
theorem fl_10_45 : FL RX10 45 6 11 0 false := ⟨_, _, _, _, cl_6, by decide, Ts_in (in_t1 _ (List.mem_of_getElem? (i := 175) rfl)) rfl, by decide +kernel, rfl⟩
theorem fl_10_52 : FL RX10 52 10 3 0 false := ⟨_, _, _, _, cl_10, by decide, Ts_in (in_t2 _ (List.mem_of_getElem? (i := 27) rfl)) rfl, by decide +kernel, rfl⟩
theorem fl_10_55 : FL RX10 55 6 2 2 true := ⟨_, _, _, _, cl_6, by decide, Ts_in (in_t1 _ (List.mem_of_getElem? (i := 156) rfl)) rfl, by decide +kernel, rfl⟩
theorem fl_10_58 : FL RX10 58 10 7 0 false := ⟨_, _, _, _, cl_10, by decide, Ts_in (in_t2 _ (List.mem_of_getElem? (i := 33) rfl)) rfl, by decide +kernel, rfl⟩
theorem fl_10_61 : FL RX10 61 10 8 0 false := ⟨_, _, _, _, cl_10, by decide, Ts_in (in_t2 _ (List.mem_of_getElem? (i := 34) rfl)) rfl, by decide +kernel, rfl⟩
theorem fl_10_74 : FL RX10 74 6 3 2 true := ⟨_, _, _, _, cl_6, by decide, Ts_in (in_t1 _ (List.mem_of_getElem? (i := 160) rfl)) rfl, by decide +kernel, rfl⟩
theorem fl_10_77 : FL RX10 77 6 5 2 true := ⟨_, _, _, _, cl_6, by decide, Ts_in (in_t1 _ (List.mem_of_getElem? (i := 165) rfl)) rfl, by decide +kernel, rfl⟩
theorem fl_10_80 : FL RX10 80 6 0 2 true := ⟨_, _, _, _, cl_6, by decide, Ts_in (in_t1 _ (List.mem_of_getElem? (i := 149) rfl)) rfl, by decide +kernel, rfl⟩
theorem fl_10_91 : FL RX10 91 6 4 2 true := ⟨_, _, _, _, cl_6, by decide, Ts_in (in_t1 _ (List.mem_of_getElem? (i := 163) rfl)) rfl, by decide +kernel, rfl⟩
theorem fl_11_9 : FL RX11 9 11 0 2 true := ⟨_, _, _, _, cl_11, by decide, Ts_in (in_t2 _ (List.mem_of_getElem? (i := 125) rfl)) rfl, by decide +kernel, rfl⟩
theorem fl_11_13 : FL RX11 13 11 1 0 false := ⟨_, _, _, _, cl_11, by decide, Ts_in (in_t2 _ (List.mem_of_getElem? (i := 126) rfl)) rfl, by decide +kernel, rfl⟩
theorem fl_11_17 : FL RX11 17 11 2 0 false := ⟨_, _, _, _, cl_11, by decide, Ts_in (in_t2 _ (List.mem_of_getElem? (i := 127) rfl)) rfl, by decide +kernel, rfl⟩
theorem fl_11_23 : FL RX11 23 11 3 2 true := ⟨_, _, _, _, cl_11, by decide, Ts_in (in_t2 _ (List.mem_of_getElem? (i := 128) rfl)) rfl, by decide +kernel, rfl⟩
theorem fl_11_27 : FL RX11 27 11 4 2 true := ⟨_, _, _, _, cl_11, by decide, Ts_in (in_t2 _ (List.mem_of_getElem? (i := 129) rfl)) rfl, by decide +kernel, rfl⟩
theorem fl_11_30 : FL RX11 30 11 5 1 false := ⟨_, _, _, _, cl_11, by decide, Ts_in (in_t2 _ (List.mem_of_getElem? (i := 130) rfl)) rfl, by decide +kernel, rfl⟩
theorem fl_11_37 : FL RX11 37 11 6 2 true := ⟨_, _, _, _, cl_11, by decide, Ts_in (in_t2 _ (List.mem_of_getElem? (i := 131) rfl)) rfl, by decide +kernel, rfl⟩
theorem fl_11_44 : FL RX11 44 11 7 2 true := ⟨_, _, _, _, cl_11, by decide, Ts_in (in_t2 _ (List.mem_of_getElem? (i := 132) rfl)) rfl, by decide +kernel, rfl⟩
theorem fl_11_51 : FL RX11 51 11 8 2 true := ⟨_, _, _, _, cl_11, by decide, Ts_in (in_t2 _ (List.mem_of_getElem? (i := 133) rfl)) rfl, by decide +kernel, rfl⟩
theorem fl_11_60 : FL RX11 60 11 9 2 true := ⟨_, _, _, _, cl_11, by decide, Ts_in (in_t2 _ (List.mem_of_getElem? (i := 134) rfl)) rfl, by decide +kernel, rfl⟩
theorem fl_11_64 : FL RX11 64 11 10 1 false := ⟨_, _, _, _, cl_11, by decide, Ts_in (in_t2 _ (List.mem_of_getElem? (i := 135) rfl)) rfl, by decide +kernel, rfl⟩
theorem fl_11_70 : FL RX11 70 11 11 2 true := ⟨_, _, _, _, cl_11, by decide, Ts_in (in_t2 _ (List.mem_of_getElem? (i := 136) rfl)) rfl, by decide +kernel, rfl⟩
theorem fl_11_77 : FL RX11 77 11 12 2 true := ⟨_, _, _, _, cl_11, by decide, Ts_in (in_t2 _ (List.mem_of_getElem? (i := 137) rfl)) rfl, by decide +kernel, rfl⟩
theorem fl_11_84 : FL RX11 84 11 13 2 true := ⟨_, _, _, _, cl_11, by decide, Ts_in (in_t2 _ (List.mem_of_getElem? (i := 138) rfl)) rfl, by decide +kernel, rfl⟩
theorem fl_11_91 : FL RX11 91 11 14 2 true := ⟨_, _, _, _, cl_11, by decide, Ts_in (in_t2 _ (List.mem_of_getElem? (i := 139) rfl)) rfl, by decide +kernel, rfl⟩
theorem fl_11_100 : FL RX11 100 11 15 2 true := ⟨_, _, _, _, cl_11, by decide, Ts_in (in_t2 _ (List.mem_of_getElem? (i := 140) rfl)) rfl, by decide +kernel, rfl⟩
theorem fl_11_115 : FL RX11 115 9 8 0 false := ⟨_, _, _, _, cl_9, by decide, Ts_in (in_t1 _ (List.mem_of_getElem? (i := 121) rfl)) rfl, by decide +kernel, rfl⟩
theorem fl_11_118 : FL RX11 118 7 4 2 true := ⟨_, _, _, _, cl_7, by decide, Ts_in (in_t1 _ (List.mem_of_getElem? (i := 92) rfl)) rfl, by decide +kernel, rfl⟩
theorem fl_11_122 : FL RX11 122 7 0 2 true := ⟨_, _, _, _, cl_7, by decide, Ts_in (in_t1 _ (List.mem_of_getElem? (i := 85) rfl)) rfl, by decide +kernel, rfl⟩
theorem fl_11_129 : FL RX11 129 7 1 2 true := ⟨_, _, _, _, cl_7, by decide, Ts_in (in_t1 _ (List.mem_of_getElem? (i := 87) rfl)) rfl, by decide +kernel, rfl⟩
theorem fl_11_138 : FL RX11 138 7 3 0 false := ⟨_, _, _, _, cl_7, by decide, Ts_in (in_t1 _ (List.mem_of_getElem? (i := 90) rfl)) rfl, by decide +kernel, rfl⟩
theorem fl_11_158 : FL RX11 158 4 2 0 false := ⟨_, _, _, _, cl_4, by decide, Ts_in (in_t2 _ (List.mem_of_getElem? (i := 6) rfl)) rfl, by decide +kernel, rfl⟩
theorem fl_11_161 : FL RX11 161 4 3 0 false := ⟨_, _, _, _, cl_4, by decide, Ts_in (in_t2 _ (List.mem_of_getElem? (i := 8) rfl)) rfl, by decide +kernel, rfl⟩
theorem fl_11_170 : FL RX11 170 3 3 0 false := ⟨_, _, _, _, cl_3, by decide, Ts_in (in_t2 _ (List.mem_of_getElem? (i := 67) rfl)) rfl, by decide +kernel, rfl⟩
theorem fl_11_173 : FL RX11 173 3 4 0 false := ⟨_, _, _, _, cl_3, by decide, Ts_in (in_t2 _ (List.mem_of_getElem? (i := 69) rfl)) rfl, by decide +kernel, rfl⟩
theorem fl_11_179 : FL RX11 179 10 8 0 false := ⟨_, _, _, _, cl_10, by decide, Ts_in (in_t2 _ (List.mem_of_getElem? (i := 35) rfl)) rfl, by decide +kernel, rfl⟩
theorem fl_11_192 : FL RX11 192 8 0 2 true := ⟨_, _, _, _, cl_8, by decide, Ts_in (in_t1 _ (List.mem_of_getElem? (i := 53) rfl)) rfl, by decide +kernel, rfl⟩
theorem fl_11_231 : FL RX11 231 0 4 0 false := ⟨_, _, _, _, cl_0, by decide, Ts_in (in_t1 _ (List.mem_of_getElem? (i := 71) rfl)) rfl, by decide +kernel, rfl⟩
theorem fl_11_250 : FL RX11 250 5 2 1 false := ⟨_, _, _, _, cl_5, by decide, Ts_in (in_t1 _ (List.mem_of_getElem? (i := 223) rfl)) rfl, by decide +kernel, rfl⟩
theorem fl_11_274 : FL RX11 274 10 5 0 false := ⟨_, _, _, _, cl_10, by decide, Ts_in (in_t2 _ (List.mem_of_getElem? (i := 30) rfl)) rfl, by decide +kernel, rfl⟩
theorem fl_11_276 : FL RX11 276 10 6 0 false := ⟨_, _, _, _, cl_10, by decide, Ts_in (in_t2 _ (List.mem_of_getElem? (i := 32) rfl)) rfl, by decide +kernel, rfl⟩
theorem fl_11_339 : FL RX11 339 5 1 2 true := ⟨_, _, _, _, cl_5, by decide, Ts_in (in_t1 _ (List.mem_of_getElem? (i := 221) rfl)) rfl, by decide +kernel, rfl⟩
theorem fl_11_348 : FL RX11 348 6 13 0 false := ⟨_, _, _, _, cl_6, by decide, Ts_in (in_t1 _ (List.mem_of_getElem? (i := 183) rfl)) rfl, by decide +kernel, rfl⟩
theorem fl_11_378 : FL RX11 378 5 3 0 false := ⟨_, _, _, _, cl_5, by decide, Ts_in (in_t1 _ (List.mem_of_getElem? (i := 225) rfl)) rfl, by decide +kernel, rfl⟩
theorem ml_0_35 : Cond.methodLink RX0 35 yX0_slot ∈ Ts := Ts_in (in_t4 _ (List.mem_of_getElem? (i := 66) rfl)) rfl
theorem ml_0_39 : Cond.methodLink RX0 39 yX0_putBack ∈ Ts := Ts_in (in_t4 _ (List.mem_of_getElem? (i := 70) rfl)) rfl
theorem ml_0_43 : Cond.methodLink RX0 43 yX8_putBack ∈ Ts := Ts_in (in_t4 _ (List.mem_of_getElem? (i := 74) rfl)) rfl
theorem ml_1_17 : Cond.methodLink RX1 17 yX8_init ∈ Ts := Ts_in (in_t2 _ (List.mem_of_getElem? (i := 113) rfl)) rfl
theorem ml_3_17 : Cond.methodLink RX3 17 yX8_init ∈ Ts := Ts_in (in_t2 _ (List.mem_of_getElem? (i := 62) rfl)) rfl
theorem ml_3_26 : Cond.methodLink RX3 26 yX8_copyFrom ∈ Ts := Ts_in (in_t3 _ (List.mem_of_getElem? (i := 178) rfl)) rfl
theorem ml_3_30 : Cond.methodLink RX3 30 yX6_load ∈ Ts := Ts_in (in_t3 _ (List.mem_of_getElem? (i := 179) rfl)) rfl
theorem ml_3_35 : Cond.methodLink RX3 35 yX6_worstSet ∈ Ts := Ts_in (in_t3 _ (List.mem_of_getElem? (i := 180) rfl)) rfl
theorem ml_3_39 : Cond.methodLink RX3 39 yX6_lackOf ∈ Ts := Ts_in (in_t3 _ (List.mem_of_getElem? (i := 181) rfl)) rfl
theorem ml_3_50 : Cond.methodLink RX3 50 yX3_firstThatEnds ∈ Ts := Ts_in (in_t3 _ (List.mem_of_getElem? (i := 182) rfl)) rfl
theorem ml_3_53 : Cond.methodLink RX3 53 yX3_firstOfTwo ∈ Ts := Ts_in (in_t3 _ (List.mem_of_getElem? (i := 205) rfl)) rfl
theorem ml_3_62 : Cond.methodLink RX3 62 yX8_hasRoom ∈ Ts := Ts_in (in_t3 _ (List.mem_of_getElem? (i := 186) rfl)) rfl
theorem ml_3_69 : Cond.methodLink RX3 69 yX8_mayGive ∈ Ts := Ts_in (in_t3 _ (List.mem_of_getElem? (i := 190) rfl)) rfl
theorem ml_3_73 : Cond.methodLink RX3 73 yX3_ends ∈ Ts := Ts_in (in_t3 _ (List.mem_of_getElem? (i := 196) rfl)) rfl
theorem ml_3_76 : Cond.methodLink RX3 76 yX3_lackThen ∈ Ts := Ts_in (in_t3 _ (List.mem_of_getElem? (i := 200) rfl)) rfl
theorem ml_3_98 : Cond.methodLink RX3 98 yX8_libraries ∈ Ts := Ts_in (in_t3 _ (List.mem_of_getElem? (i := 209) rfl)) rfl
theorem ml_3_100 : Cond.methodLink RX3 100 yX8_works ∈ Ts := Ts_in (in_t3 _ (List.mem_of_getElem? (i := 210) rfl)) rfl
theorem ml_3_102 : Cond.methodLink RX3 102 yX8_moveOne ∈ Ts := Ts_in (in_t3 _ (List.mem_of_getElem? (i := 211) rfl)) rfl
theorem ml_4_17 : Cond.methodLink RX4 17 yX8_init ∈ Ts := Ts_in (in_t2 _ (List.mem_of_getElem? (i := 2) rfl)) rfl
theorem ml_4_22 : Cond.methodLink RX4 22 yX8_copyFrom ∈ Ts := Ts_in (in_t3 _ (List.mem_of_getElem? (i := 136) rfl)) rfl
theorem ml_4_30 : Cond.methodLink RX4 30 yX8_promiseEndsWith ∈ Ts := Ts_in (in_t3 _ (List.mem_of_getElem? (i := 143) rfl)) rfl
theorem ml_4_34 : Cond.methodLink RX4 34 yX6_load ∈ Ts := Ts_in (in_t3 _ (List.mem_of_getElem? (i := 147) rfl)) rfl
theorem ml_4_39 : Cond.methodLink RX4 39 yX6_hasPlan ∈ Ts := Ts_in (in_t3 _ (List.mem_of_getElem? (i := 148) rfl)) rfl
theorem ml_4_50 : Cond.methodLink RX4 50 yX6_space ∈ Ts := Ts_in (in_t3 _ (List.mem_of_getElem? (i := 156) rfl)) rfl
theorem ml_4_54 : Cond.methodLink RX4 54 yX8_libraries ∈ Ts := Ts_in (in_t3 _ (List.mem_of_getElem? (i := 157) rfl)) rfl
theorem ml_4_58 : Cond.methodLink RX4 58 yX8_works ∈ Ts := Ts_in (in_t3 _ (List.mem_of_getElem? (i := 158) rfl)) rfl
theorem ml_4_61 : Cond.methodLink RX4 61 yX8_promiseCounts ∈ Ts := Ts_in (in_t3 _ (List.mem_of_getElem? (i := 159) rfl)) rfl
theorem ml_4_65 : Cond.methodLink RX4 65 yX4_spaceWithout ∈ Ts := Ts_in (in_t3 _ (List.mem_of_getElem? (i := 160) rfl)) rfl
theorem ml_4_69 : Cond.methodLink RX4 69 yX8_heldIn ∈ Ts := Ts_in (in_t3 _ (List.mem_of_getElem? (i := 164) rfl)) rfl
theorem ml_4_73 : Cond.methodLink RX4 73 yX6_setOffer ∈ Ts := Ts_in (in_t3 _ (List.mem_of_getElem? (i := 165) rfl)) rfl
theorem ml_4_77 : Cond.methodLink RX4 77 yX8_offerOf ∈ Ts := Ts_in (in_t3 _ (List.mem_of_getElem? (i := 169) rfl)) rfl
theorem ml_4_80 : Cond.methodLink RX4 80 yX8_copiesOf ∈ Ts := Ts_in (in_t6 _ (List.mem_of_getElem? (i := 150) rfl)) rfl
theorem ml_4_83 : Cond.methodLink RX4 83 yX8_keepOf ∈ Ts := Ts_in (in_t6 _ (List.mem_of_getElem? (i := 151) rfl)) rfl
theorem ml_4_86 : Cond.methodLink RX4 86 yX6_setSpare ∈ Ts := Ts_in (in_t6 _ (List.mem_of_getElem? (i := 152) rfl)) rfl
theorem ml_4_90 : Cond.methodLink RX4 90 yX8_roomOf ∈ Ts := Ts_in (in_t6 _ (List.mem_of_getElem? (i := 187) rfl)) rfl
theorem ml_4_93 : Cond.methodLink RX4 93 yX8_copiesIn ∈ Ts := Ts_in (in_t6 _ (List.mem_of_getElem? (i := 188) rfl)) rfl
theorem ml_4_101 : Cond.methodLink RX4 101 yX8_wishOf ∈ Ts := Ts_in (in_t6 _ (List.mem_of_getElem? (i := 190) rfl)) rfl
theorem ml_4_104 : Cond.methodLink RX4 104 yX6_setLibrary ∈ Ts := Ts_in (in_t6 _ (List.mem_of_getElem? (i := 191) rfl)) rfl
theorem ml_4_110 : Cond.methodLink RX4 110 yX8_needOf ∈ Ts := Ts_in (in_t6 _ (List.mem_of_getElem? (i := 213) rfl)) rfl
theorem ml_5_23 : Cond.methodLink RX5 23 yX6_load ∈ Ts := Ts_in (in_t3 _ (List.mem_of_getElem? (i := 1) rfl)) rfl
theorem ml_5_29 : Cond.methodLink RX5 29 yX6_space ∈ Ts := Ts_in (in_t3 _ (List.mem_of_getElem? (i := 59) rfl)) rfl
theorem ml_5_43 : Cond.methodLink RX5 43 yX5_takeMost ∈ Ts := Ts_in (in_t3 _ (List.mem_of_getElem? (i := 67) rfl)) rfl
theorem ml_5_54 : Cond.methodLink RX5 54 yX6_setLibrary ∈ Ts := Ts_in (in_t3 _ (List.mem_of_getElem? (i := 80) rfl)) rfl
theorem ml_5_75 : Cond.methodLink RX5 75 yX6_setSpare ∈ Ts := Ts_in (in_t3 _ (List.mem_of_getElem? (i := 75) rfl)) rfl
theorem ml_5_82 : Cond.methodLink RX5 82 yX8_sizeOf ∈ Ts := Ts_in (in_t6 _ (List.mem_of_getElem? (i := 182) rfl)) rfl
theorem ml_5_87 : Cond.methodLink RX5 87 yX8_libraries ∈ Ts := Ts_in (in_t3 _ (List.mem_of_getElem? (i := 88) rfl)) rfl
theorem ml_5_90 : Cond.methodLink RX5 90 yX5_changesOf ∈ Ts := Ts_in (in_t3 _ (List.mem_of_getElem? (i := 89) rfl)) rfl
theorem ml_5_94 : Cond.methodLink RX5 94 yX8_works ∈ Ts := Ts_in (in_t3 _ (List.mem_of_getElem? (i := 93) rfl)) rfl
theorem ml_5_96 : Cond.methodLink RX5 96 yX5_mayMove ∈ Ts := Ts_in (in_t3 _ (List.mem_of_getElem? (i := 94) rfl)) rfl
theorem ml_5_100 : Cond.methodLink RX5 100 yX8_offerOf ∈ Ts := Ts_in (in_t3 _ (List.mem_of_getElem? (i := 98) rfl)) rfl
theorem ml_6_49 : Cond.methodLink RX6 49 yX8_libraries ∈ Ts := Ts_in (in_t3 _ (List.mem_of_getElem? (i := 5) rfl)) rfl
theorem ml_6_63 : Cond.methodLink RX6 63 yX8_works ∈ Ts := Ts_in (in_t3 _ (List.mem_of_getElem? (i := 9) rfl)) rfl
theorem ml_6_68 : Cond.methodLink RX6 68 yX8_needOf ∈ Ts := Ts_in (in_t3 _ (List.mem_of_getElem? (i := 10) rfl)) rfl
theorem ml_6_72 : Cond.methodLink RX6 72 yX8_wishOf ∈ Ts := Ts_in (in_t3 _ (List.mem_of_getElem? (i := 18) rfl)) rfl
theorem ml_6_78 : Cond.methodLink RX6 78 yX8_offerOf ∈ Ts := Ts_in (in_t3 _ (List.mem_of_getElem? (i := 23) rfl)) rfl
theorem ml_6_81 : Cond.methodLink RX6 81 yX6_sumNeeds ∈ Ts := Ts_in (in_t3 _ (List.mem_of_getElem? (i := 39) rfl)) rfl
theorem ml_6_84 : Cond.methodLink RX6 84 yX8_sizeOf ∈ Ts := Ts_in (in_t3 _ (List.mem_of_getElem? (i := 43) rfl)) rfl
theorem ml_6_87 : Cond.methodLink RX6 87 yX8_spareOf ∈ Ts := Ts_in (in_t3 _ (List.mem_of_getElem? (i := 47) rfl)) rfl
theorem ml_6_90 : Cond.methodLink RX6 90 yX6_sumOffers ∈ Ts := Ts_in (in_t3 _ (List.mem_of_getElem? (i := 51) rfl)) rfl
theorem ml_6_94 : Cond.methodLink RX6 94 yX6_rank ∈ Ts := Ts_in (in_t3 _ (List.mem_of_getElem? (i := 55) rfl)) rfl
theorem ml_6_97 : Cond.methodLink RX6 97 yX6_canTake ∈ Ts := Ts_in (in_t3 _ (List.mem_of_getElem? (i := 117) rfl)) rfl
theorem ml_6_100 : Cond.methodLink RX6 100 yX6_lackOf ∈ Ts := Ts_in (in_t3 _ (List.mem_of_getElem? (i := 113) rfl)) rfl
theorem ml_6_108 : Cond.methodLink RX6 108 yX6_weighMost ∈ Ts := Ts_in (in_t3 _ (List.mem_of_getElem? (i := 63) rfl)) rfl
theorem ml_7_11 : Cond.methodLink RX7 11 yX8_init ∈ Ts := Ts_in (in_t1 _ (List.mem_of_getElem? (i := 46) rfl)) rfl
theorem ml_7_20 : Cond.methodLink RX7 20 yX0_init ∈ Ts := Ts_in (in_t1 _ (List.mem_of_getElem? (i := 62) rfl)) rfl
theorem ml_7_36 : Cond.methodLink RX7 36 yX8_copyFrom ∈ Ts := Ts_in (in_t4 _ (List.mem_of_getElem? (i := 86) rfl)) rfl
theorem ml_7_40 : Cond.methodLink RX7 40 yX0_copyFrom ∈ Ts := Ts_in (in_t4 _ (List.mem_of_getElem? (i := 87) rfl)) rfl
theorem ml_8_21 : Cond.methodLink RX8 21 yX8_isLibrary ∈ Ts := Ts_in (in_t6 _ (List.mem_of_getElem? (i := 36) rfl)) rfl
theorem ml_8_25 : Cond.methodLink RX8 25 yX8_isWork ∈ Ts := Ts_in (in_t6 _ (List.mem_of_getElem? (i := 40) rfl)) rfl
theorem ml_8_28 : Cond.methodLink RX8 28 yX8_heldIn ∈ Ts := Ts_in (in_t3 _ (List.mem_of_getElem? (i := 27) rfl)) rfl
theorem ml_8_32 : Cond.methodLink RX8 32 yX8_promiseCounts ∈ Ts := Ts_in (in_t3 _ (List.mem_of_getElem? (i := 31) rfl)) rfl
theorem ml_8_36 : Cond.methodLink RX8 36 yX8_muchOf ∈ Ts := Ts_in (in_t3 _ (List.mem_of_getElem? (i := 35) rfl)) rfl
theorem ml_8_39 : Cond.methodLink RX8 39 yX8_copiesIn ∈ Ts := Ts_in (in_t2 _ (List.mem_of_getElem? (i := 194) rfl)) rfl
theorem ml_8_43 : Cond.methodLink RX8 43 yX8_storedOf ∈ Ts := Ts_in (in_t2 _ (List.mem_of_getElem? (i := 225) rfl)) rfl
theorem ml_8_46 : Cond.methodLink RX8 46 yX8_copiesOf ∈ Ts := Ts_in (in_t2 _ (List.mem_of_getElem? (i := 202) rfl)) rfl
theorem ml_8_49 : Cond.methodLink RX8 49 yX8_keepOf ∈ Ts := Ts_in (in_t2 _ (List.mem_of_getElem? (i := 214) rfl)) rfl
theorem ml_8_57 : Cond.methodLink RX8 57 yX8_roomOf ∈ Ts := Ts_in (in_t3 _ (List.mem_of_getElem? (i := 14) rfl)) rfl
theorem ml_8_60 : Cond.methodLink RX8 60 yX8_offerOf ∈ Ts := Ts_in (in_t3 _ (List.mem_of_getElem? (i := 194) rfl)) rfl
theorem ml_8_63 : Cond.methodLink RX8 63 yX8_spareOf ∈ Ts := Ts_in (in_t6 _ (List.mem_of_getElem? (i := 82) rfl)) rfl
theorem ml_8_66 : Cond.methodLink RX8 66 yX8_hasRoom ∈ Ts := Ts_in (in_t3 _ (List.mem_of_getElem? (i := 195) rfl)) rfl
theorem ml_8_69 : Cond.methodLink RX8 69 yX8_copiesStored ∈ Ts := Ts_in (in_t6 _ (List.mem_of_getElem? (i := 113) rfl)) rfl
theorem ml_8_76 : Cond.methodLink RX8 76 yX8_shortOf ∈ Ts := Ts_in (in_t2 _ (List.mem_of_getElem? (i := 210) rfl)) rfl
theorem ml_9_32 : Cond.methodLink RX9 32 yX8_clear ∈ Ts := Ts_in (in_t4 _ (List.mem_of_getElem? (i := 183) rfl)) rfl
theorem ml_9_47 : Cond.methodLink RX9 47 yX9_next ∈ Ts := Ts_in (in_t4 _ (List.mem_of_getElem? (i := 187) rfl)) rfl
theorem ml_9_53 : Cond.methodLink RX9 53 yX9_readClause ∈ Ts := Ts_in (in_t4 _ (List.mem_of_getElem? (i := 201) rfl)) rfl
theorem ml_9_59 : Cond.methodLink RX9 59 yX9_byteAt ∈ Ts := Ts_in (in_t4 _ (List.mem_of_getElem? (i := 191) rfl)) rfl
theorem ml_9_63 : Cond.methodLink RX9 63 yX9_isLetter ∈ Ts := Ts_in (in_t4 _ (List.mem_of_getElem? (i := 195) rfl)) rfl
theorem ml_9_67 : Cond.methodLink RX9 67 yX9_isDigit ∈ Ts := Ts_in (in_t4 _ (List.mem_of_getElem? (i := 198) rfl)) rfl
theorem ml_9_81 : Cond.methodLink RX9 81 yX9_wordIs ∈ Ts := Ts_in (in_t4 _ (List.mem_of_getElem? (i := 206) rfl)) rfl
theorem ml_9_85 : Cond.methodLink RX9 85 yX9_readLibraryClause ∈ Ts := Ts_in (in_t4 _ (List.mem_of_getElem? (i := 212) rfl)) rfl
theorem ml_9_90 : Cond.methodLink RX9 90 yX9_readWorkClause ∈ Ts := Ts_in (in_t4 _ (List.mem_of_getElem? (i := 238) rfl)) rfl
theorem ml_9_95 : Cond.methodLink RX9 95 yX9_readHoldsClause ∈ Ts := Ts_in (in_t5 _ (List.mem_of_getElem? (i := 8) rfl)) rfl
theorem ml_9_100 : Cond.methodLink RX9 100 yX9_readPromiseClause ∈ Ts := Ts_in (in_t5 _ (List.mem_of_getElem? (i := 17) rfl)) rfl
theorem ml_9_105 : Cond.methodLink RX9 105 yX9_readStoreClause ∈ Ts := Ts_in (in_t5 _ (List.mem_of_getElem? (i := 22) rfl)) rfl
theorem ml_9_108 : Cond.methodLink RX9 108 yX9_refuse ∈ Ts := Ts_in (in_t4 _ (List.mem_of_getElem? (i := 217) rfl)) rfl
theorem ml_9_112 : Cond.methodLink RX9 112 yX8_libraries ∈ Ts := Ts_in (in_t4 _ (List.mem_of_getElem? (i := 216) rfl)) rfl
theorem ml_9_115 : Cond.methodLink RX9 115 yX9_readNumber ∈ Ts := Ts_in (in_t4 _ (List.mem_of_getElem? (i := 221) rfl)) rfl
theorem ml_9_118 : Cond.methodLink RX9 118 yX9_readSign ∈ Ts := Ts_in (in_t4 _ (List.mem_of_getElem? (i := 229) rfl)) rfl
theorem ml_9_121 : Cond.methodLink RX9 121 yX8_addLibrary ∈ Ts := Ts_in (in_t4 _ (List.mem_of_getElem? (i := 233) rfl)) rfl
theorem ml_9_125 : Cond.methodLink RX9 125 yX8_works ∈ Ts := Ts_in (in_t5 _ (List.mem_of_getElem? (i := 2) rfl)) rfl
theorem ml_9_128 : Cond.methodLink RX9 128 yX8_addWork ∈ Ts := Ts_in (in_t5 _ (List.mem_of_getElem? (i := 3) rfl)) rfl
theorem ml_9_131 : Cond.methodLink RX9 131 yX9_readNumberOf ∈ Ts := Ts_in (in_t5 _ (List.mem_of_getElem? (i := 12) rfl)) rfl
theorem ml_9_139 : Cond.methodLink RX9 139 yX9_checkNumber ∈ Ts := Ts_in (in_t4 _ (List.mem_of_getElem? (i := 225) rfl)) rfl
theorem ml_10_25 : Cond.methodLink RX10 25 yX6_load ∈ Ts := Ts_in (in_t3 _ (List.mem_of_getElem? (i := 224) rfl)) rfl
theorem ml_10_36 : Cond.methodLink RX10 36 yX10_begin ∈ Ts := Ts_in (in_t3 _ (List.mem_of_getElem? (i := 220) rfl)) rfl
theorem ml_10_48 : Cond.methodLink RX10 48 yX10_withdraw ∈ Ts := Ts_in (in_t3 _ (List.mem_of_getElem? (i := 230) rfl)) rfl
theorem ml_10_64 : Cond.methodLink RX10 64 yX10_lineUp ∈ Ts := Ts_in (in_t3 _ (List.mem_of_getElem? (i := 225) rfl)) rfl
theorem ml_11_22 : Cond.methodLink RX11 22 yX7_init ∈ Ts := Ts_in (in_t1 _ (List.mem_of_getElem? (i := 40) rfl)) rfl
theorem ml_11_36 : Cond.methodLink RX11 36 yX8_init ∈ Ts := Ts_in (in_t1 _ (List.mem_of_getElem? (i := 105) rfl)) rfl
theorem ml_11_43 : Cond.methodLink RX11 43 yX9_init ∈ Ts := Ts_in (in_t1 _ (List.mem_of_getElem? (i := 108) rfl)) rfl
theorem ml_11_50 : Cond.methodLink RX11 50 yX6_init ∈ Ts := Ts_in (in_t1 _ (List.mem_of_getElem? (i := 143) rfl)) rfl
theorem ml_11_57 : Cond.methodLink RX11 57 yX5_init ∈ Ts := Ts_in (in_t1 _ (List.mem_of_getElem? (i := 215) rfl)) rfl
theorem ml_11_69 : Cond.methodLink RX11 69 yX4_init ∈ Ts := Ts_in (in_t1 _ (List.mem_of_getElem? (i := 237) rfl)) rfl
theorem ml_11_76 : Cond.methodLink RX11 76 yX10_init ∈ Ts := Ts_in (in_t2 _ (List.mem_of_getElem? (i := 20) rfl)) rfl
theorem ml_11_83 : Cond.methodLink RX11 83 yX3_init ∈ Ts := Ts_in (in_t2 _ (List.mem_of_getElem? (i := 57) rfl)) rfl
theorem ml_11_90 : Cond.methodLink RX11 90 yX2_init ∈ Ts := Ts_in (in_t2 _ (List.mem_of_getElem? (i := 83) rfl)) rfl
theorem ml_11_97 : Cond.methodLink RX11 97 yX1_init ∈ Ts := Ts_in (in_t2 _ (List.mem_of_getElem? (i := 108) rfl)) rfl
theorem ml_11_104 : Cond.methodLink RX11 104 yX11_putOnTape ∈ Ts := Ts_in (in_t4 _ (List.mem_of_getElem? (i := 155) rfl)) rfl
theorem ml_11_111 : Cond.methodLink RX11 111 yX9_read ∈ Ts := Ts_in (in_t4 _ (List.mem_of_getElem? (i := 178) rfl)) rfl
theorem ml_11_125 : Cond.methodLink RX11 125 yX8_copyFrom ∈ Ts := Ts_in (in_t5 _ (List.mem_of_getElem? (i := 26) rfl)) rfl
theorem ml_11_133 : Cond.methodLink RX11 133 yX0_clear ∈ Ts := Ts_in (in_t5 _ (List.mem_of_getElem? (i := 27) rfl)) rfl
theorem ml_11_141 : Cond.methodLink RX11 141 yX11_countInStock ∈ Ts := Ts_in (in_t2 _ (List.mem_of_getElem? (i := 178) rfl)) rfl
theorem ml_11_145 : Cond.methodLink RX11 145 yX11_countOfPlan ∈ Ts := Ts_in (in_t2 _ (List.mem_of_getElem? (i := 229) rfl)) rfl
theorem ml_11_148 : Cond.methodLink RX11 148 yX11_countOfShortage ∈ Ts := Ts_in (in_t3 _ (List.mem_of_getElem? (i := 105) rfl)) rfl
theorem ml_11_151 : Cond.methodLink RX11 151 yX4_late ∈ Ts := Ts_in (in_t3 _ (List.mem_of_getElem? (i := 132) rfl)) rfl
theorem ml_11_155 : Cond.methodLink RX11 155 yX4_findInTheWay ∈ Ts := Ts_in (in_t3 _ (List.mem_of_getElem? (i := 152) rfl)) rfl
theorem ml_11_164 : Cond.methodLink RX11 164 yX11_countOfDesk ∈ Ts := Ts_in (in_t3 _ (List.mem_of_getElem? (i := 170) rfl)) rfl
theorem ml_11_167 : Cond.methodLink RX11 167 yX3_find ∈ Ts := Ts_in (in_t3 _ (List.mem_of_getElem? (i := 174) rfl)) rfl
theorem ml_11_176 : Cond.methodLink RX11 176 yX10_findOrders ∈ Ts := Ts_in (in_t3 _ (List.mem_of_getElem? (i := 216) rfl)) rfl
theorem ml_11_185 : Cond.methodLink RX11 185 yX8_libraries ∈ Ts := Ts_in (in_t2 _ (List.mem_of_getElem? (i := 182) rfl)) rfl
theorem ml_11_189 : Cond.methodLink RX11 189 yX8_works ∈ Ts := Ts_in (in_t2 _ (List.mem_of_getElem? (i := 186) rfl)) rfl
theorem ml_11_195 : Cond.methodLink RX11 195 yX8_copiesHeld ∈ Ts := Ts_in (in_t2 _ (List.mem_of_getElem? (i := 190) rfl)) rfl
theorem ml_11_198 : Cond.methodLink RX11 198 yX8_lastWorks ∈ Ts := Ts_in (in_t2 _ (List.mem_of_getElem? (i := 198) rfl)) rfl
theorem ml_11_201 : Cond.methodLink RX11 201 yX8_shortWorks ∈ Ts := Ts_in (in_t2 _ (List.mem_of_getElem? (i := 206) rfl)) rfl
theorem ml_11_204 : Cond.methodLink RX11 204 yX8_copiesStored ∈ Ts := Ts_in (in_t2 _ (List.mem_of_getElem? (i := 221) rfl)) rfl
theorem ml_11_207 : Cond.methodLink RX11 207 yX11_refreshPlan ∈ Ts := Ts_in (in_t2 _ (List.mem_of_getElem? (i := 233) rfl)) rfl
theorem ml_11_210 : Cond.methodLink RX11 210 yX5_changes ∈ Ts := Ts_in (in_t3 _ (List.mem_of_getElem? (i := 84) rfl)) rfl
theorem ml_11_213 : Cond.methodLink RX11 213 yX6_load ∈ Ts := Ts_in (in_t3 _ (List.mem_of_getElem? (i := 99) rfl)) rfl
theorem ml_11_216 : Cond.methodLink RX11 216 yX6_space ∈ Ts := Ts_in (in_t3 _ (List.mem_of_getElem? (i := 100) rfl)) rfl
theorem ml_11_219 : Cond.methodLink RX11 219 yX6_copiesOfPlan ∈ Ts := Ts_in (in_t3 _ (List.mem_of_getElem? (i := 101) rfl)) rfl
theorem ml_11_222 : Cond.methodLink RX11 222 yX6_worstSet ∈ Ts := Ts_in (in_t3 _ (List.mem_of_getElem? (i := 109) rfl)) rfl
theorem ml_11_225 : Cond.methodLink RX11 225 yX6_lackOf ∈ Ts := Ts_in (in_t3 _ (List.mem_of_getElem? (i := 127) rfl)) rfl
theorem ml_11_228 : Cond.methodLink RX11 228 yX6_scarceWorks ∈ Ts := Ts_in (in_t3 _ (List.mem_of_getElem? (i := 128) rfl)) rfl
theorem ml_11_234 : Cond.methodLink RX11 234 yX8_isLibrary ∈ Ts := Ts_in (in_t6 _ (List.mem_of_getElem? (i := 73) rfl)) rfl
theorem ml_11_238 : Cond.methodLink RX11 238 yX8_roomOf ∈ Ts := Ts_in (in_t6 _ (List.mem_of_getElem? (i := 170) rfl)) rfl
theorem ml_11_241 : Cond.methodLink RX11 241 yX8_wishOf ∈ Ts := Ts_in (in_t6 _ (List.mem_of_getElem? (i := 171) rfl)) rfl
theorem ml_11_244 : Cond.methodLink RX11 244 yX8_copiesIn ∈ Ts := Ts_in (in_t6 _ (List.mem_of_getElem? (i := 172) rfl)) rfl
theorem ml_11_247 : Cond.methodLink RX11 247 yX8_needOf ∈ Ts := Ts_in (in_t6 _ (List.mem_of_getElem? (i := 173) rfl)) rfl
theorem ml_11_253 : Cond.methodLink RX11 253 yX5_copiesFrom ∈ Ts := Ts_in (in_t6 _ (List.mem_of_getElem? (i := 174) rfl)) rfl
theorem ml_11_256 : Cond.methodLink RX11 256 yX5_wonBy ∈ Ts := Ts_in (in_t6 _ (List.mem_of_getElem? (i := 178) rfl)) rfl
theorem ml_11_260 : Cond.methodLink RX11 260 yX4_tighter ∈ Ts := Ts_in (in_t6 _ (List.mem_of_getElem? (i := 183) rfl)) rfl
theorem ml_11_264 : Cond.methodLink RX11 264 yX8_scarceWithout ∈ Ts := Ts_in (in_t6 _ (List.mem_of_getElem? (i := 192) rfl)) rfl
theorem ml_11_267 : Cond.methodLink RX11 267 yX8_lostWithout ∈ Ts := Ts_in (in_t6 _ (List.mem_of_getElem? (i := 196) rfl)) rfl
theorem ml_11_270 : Cond.methodLink RX11 270 yX10_goRound ∈ Ts := Ts_in (in_t6 _ (List.mem_of_getElem? (i := 200) rfl)) rfl
theorem ml_11_279 : Cond.methodLink RX11 279 yX4_apart ∈ Ts := Ts_in (in_t6 _ (List.mem_of_getElem? (i := 204) rfl)) rfl
theorem ml_11_282 : Cond.methodLink RX11 282 yX4_priceOfLibrary ∈ Ts := Ts_in (in_t6 _ (List.mem_of_getElem? (i := 208) rfl)) rfl
theorem ml_11_285 : Cond.methodLink RX11 285 yX8_isWork ∈ Ts := Ts_in (in_t6 _ (List.mem_of_getElem? (i := 67) rfl)) rfl
theorem ml_11_288 : Cond.methodLink RX11 288 yX8_sizeOf ∈ Ts := Ts_in (in_t6 _ (List.mem_of_getElem? (i := 139) rfl)) rfl
theorem ml_11_291 : Cond.methodLink RX11 291 yX8_keepOf ∈ Ts := Ts_in (in_t6 _ (List.mem_of_getElem? (i := 68) rfl)) rfl
theorem ml_11_294 : Cond.methodLink RX11 294 yX8_copiesOf ∈ Ts := Ts_in (in_t6 _ (List.mem_of_getElem? (i := 140) rfl)) rfl
theorem ml_11_297 : Cond.methodLink RX11 297 yX8_spareOf ∈ Ts := Ts_in (in_t6 _ (List.mem_of_getElem? (i := 83) rfl)) rfl
theorem ml_11_300 : Cond.methodLink RX11 300 yX8_shortOf ∈ Ts := Ts_in (in_t6 _ (List.mem_of_getElem? (i := 141) rfl)) rfl
theorem ml_11_303 : Cond.methodLink RX11 303 yX5_copiesOf ∈ Ts := Ts_in (in_t6 _ (List.mem_of_getElem? (i := 142) rfl)) rfl
theorem ml_11_304 : Cond.methodLink RX11 304 yX4_stricter ∈ Ts := Ts_in (in_t6 _ (List.mem_of_getElem? (i := 146) rfl)) rfl
theorem ml_11_307 : Cond.methodLink RX11 307 yX8_holdersOf ∈ Ts := Ts_in (in_t6 _ (List.mem_of_getElem? (i := 153) rfl)) rfl
theorem ml_11_310 : Cond.methodLink RX11 310 yX8_storedOf ∈ Ts := Ts_in (in_t6 _ (List.mem_of_getElem? (i := 157) rfl)) rfl
theorem ml_11_313 : Cond.methodLink RX11 313 yX8_safe ∈ Ts := Ts_in (in_t6 _ (List.mem_of_getElem? (i := 158) rfl)) rfl
theorem ml_11_316 : Cond.methodLink RX11 316 yX4_priceOfWork ∈ Ts := Ts_in (in_t6 _ (List.mem_of_getElem? (i := 162) rfl)) rfl
theorem ml_11_319 : Cond.methodLink RX11 319 yX8_isPair ∈ Ts := Ts_in (in_t6 _ (List.mem_of_getElem? (i := 32) rfl)) rfl
theorem ml_11_323 : Cond.methodLink RX11 323 yX8_heldIn ∈ Ts := Ts_in (in_t6 _ (List.mem_of_getElem? (i := 48) rfl)) rfl
theorem ml_11_327 : Cond.methodLink RX11 327 yX8_muchOf ∈ Ts := Ts_in (in_t6 _ (List.mem_of_getElem? (i := 62) rfl)) rfl
theorem ml_11_330 : Cond.methodLink RX11 330 yX8_untilOf ∈ Ts := Ts_in (in_t6 _ (List.mem_of_getElem? (i := 125) rfl)) rfl
theorem ml_11_333 : Cond.methodLink RX11 333 yX8_promiseCounts ∈ Ts := Ts_in (in_t6 _ (List.mem_of_getElem? (i := 129) rfl)) rfl
theorem ml_11_336 : Cond.methodLink RX11 336 yX8_offerOf ∈ Ts := Ts_in (in_t6 _ (List.mem_of_getElem? (i := 130) rfl)) rfl
theorem ml_11_342 : Cond.methodLink RX11 342 yX11_pairOf ∈ Ts := Ts_in (in_t6 _ (List.mem_of_getElem? (i := 49) rfl)) rfl
theorem ml_11_345 : Cond.methodLink RX11 345 yX8_whyNot ∈ Ts := Ts_in (in_t6 _ (List.mem_of_getElem? (i := 131) rfl)) rfl
theorem ml_11_357 : Cond.methodLink RX11 357 yX11_refuseAct ∈ Ts := Ts_in (in_t6 _ (List.mem_of_getElem? (i := 44) rfl)) rfl
theorem ml_11_360 : Cond.methodLink RX11 360 yX11_act ∈ Ts := Ts_in (in_t6 _ (List.mem_of_getElem? (i := 50) rfl)) rfl
theorem ml_11_364 : Cond.methodLink RX11 364 yX8_mayGo ∈ Ts := Ts_in (in_t6 _ (List.mem_of_getElem? (i := 78) rfl)) rfl
theorem ml_11_367 : Cond.methodLink RX11 367 yX8_mayGive ∈ Ts := Ts_in (in_t6 _ (List.mem_of_getElem? (i := 88) rfl)) rfl
theorem ml_11_371 : Cond.methodLink RX11 371 yX8_maySend ∈ Ts := Ts_in (in_t6 _ (List.mem_of_getElem? (i := 109) rfl)) rfl
theorem ml_11_374 : Cond.methodLink RX11 374 yX5_packed ∈ Ts := Ts_in (in_t6 _ (List.mem_of_getElem? (i := 93) rfl)) rfl
theorem ml_11_381 : Cond.methodLink RX11 381 yX0_add ∈ Ts := Ts_in (in_t6 _ (List.mem_of_getElem? (i := 54) rfl)) rfl
theorem ml_11_385 : Cond.methodLink RX11 385 yX8_withdraw ∈ Ts := Ts_in (in_t6 _ (List.mem_of_getElem? (i := 97) rfl)) rfl
theorem ml_11_389 : Cond.methodLink RX11 389 yX0_undoLast ∈ Ts := Ts_in (in_t4 _ (List.mem_of_getElem? (i := 62) rfl)) rfl
theorem ml_11_424 : Cond.methodLink RX11 424 yX7_copyFrom ∈ Ts := Ts_in (in_t4 _ (List.mem_of_getElem? (i := 82) rfl)) rfl
theorem ml_11_426 : Cond.methodLink RX11 426 yX5_make ∈ Ts := Ts_in (in_t2 _ (List.mem_of_getElem? (i := 237) rfl)) rfl
theorem mn_5_47 : Cond.methodLinkNest RX5 47 yX11_pairOf "CopyKeeper" ∈ lw_tbl := (in_t3 _ (List.mem_of_getElem? (i := 71) rfl))
theorem mn_8_73 : Cond.methodLinkNest RX8 73 yX11_pairOf "CopyKeeper" ∈ lw_tbl := (in_t3 _ (List.mem_of_getElem? (i := 215) rfl))
theorem mn_10_83 : Cond.methodLinkNest RX10 83 yX11_pairOf "CopyKeeper" ∈ lw_tbl := (in_t3 _ (List.mem_of_getElem? (i := 234) rfl))
theorem mo_0_clear : MO m0_clear 0 false := ⟨Ts_in (in_t5 _ (List.mem_of_getElem? (i := 30) rfl)) rfl, Ts_in (in_t1 _ (List.mem_of_getElem? (i := 4) rfl)) rfl, ⟨by decide +kernel, by decide +kernel, by decide +kernel⟩, ⟨Ts_in (in_t5 _ (List.mem_of_getElem? (i := 28) rfl)) rfl, Ts_in (in_t5 _ (List.mem_of_getElem? (i := 29) rfl)) rfl⟩⟩
theorem mo_0_copyFrom : MO m0_copyFrom 1 false := ⟨Ts_in (in_t4 _ (List.mem_of_getElem? (i := 90) rfl)) rfl, Ts_in (in_t1 _ (List.mem_of_getElem? (i := 4) rfl)) rfl, ⟨by decide +kernel, by decide +kernel, by decide +kernel⟩, ⟨Ts_in (in_t4 _ (List.mem_of_getElem? (i := 88) rfl)) rfl, Ts_in (in_t4 _ (List.mem_of_getElem? (i := 89) rfl)) rfl⟩⟩
theorem mo_0_add : MO m0_add 5 false := ⟨Ts_in (in_t6 _ (List.mem_of_getElem? (i := 57) rfl)) rfl, Ts_in (in_t1 _ (List.mem_of_getElem? (i := 4) rfl)) rfl, ⟨by decide +kernel, by decide +kernel, by decide +kernel⟩, ⟨Ts_in (in_t6 _ (List.mem_of_getElem? (i := 55) rfl)) rfl, Ts_in (in_t6 _ (List.mem_of_getElem? (i := 56) rfl)) rfl⟩⟩
theorem mo_0_undoLast : MO m0_undoLast 1 false := ⟨Ts_in (in_t4 _ (List.mem_of_getElem? (i := 65) rfl)) rfl, Ts_in (in_t1 _ (List.mem_of_getElem? (i := 4) rfl)) rfl, ⟨by decide +kernel, by decide +kernel, by decide +kernel⟩, ⟨Ts_in (in_t4 _ (List.mem_of_getElem? (i := 63) rfl)) rfl, Ts_in (in_t4 _ (List.mem_of_getElem? (i := 64) rfl)) rfl⟩⟩
theorem mo_0_slot : MO m0_slot 1 false := ⟨Ts_in (in_t4 _ (List.mem_of_getElem? (i := 69) rfl)) rfl, Ts_in (in_t1 _ (List.mem_of_getElem? (i := 4) rfl)) rfl, ⟨by decide +kernel, by decide +kernel, by decide +kernel⟩, ⟨Ts_in (in_t4 _ (List.mem_of_getElem? (i := 68) rfl)) rfl, Ts_in (in_s2 _ (List.mem_of_getElem? (i := 5) rfl)) rfl⟩⟩
theorem mo_0_putBack : MO m0_putBack 2 false := ⟨Ts_in (in_t4 _ (List.mem_of_getElem? (i := 73) rfl)) rfl, Ts_in (in_t1 _ (List.mem_of_getElem? (i := 4) rfl)) rfl, ⟨by decide +kernel, by decide +kernel, by decide +kernel⟩, ⟨Ts_in (in_t4 _ (List.mem_of_getElem? (i := 72) rfl)) rfl, Ts_in (in_s2 _ (List.mem_of_getElem? (i := 6) rfl)) rfl⟩⟩
theorem mo_3_find : MO m3_find 1 false := ⟨Ts_in (in_t3 _ (List.mem_of_getElem? (i := 177) rfl)) rfl, Ts_in (in_t1 _ (List.mem_of_getElem? (i := 10) rfl)) rfl, ⟨by decide +kernel, by decide +kernel, by decide +kernel⟩, ⟨Ts_in (in_t3 _ (List.mem_of_getElem? (i := 175) rfl)) rfl, Ts_in (in_t3 _ (List.mem_of_getElem? (i := 176) rfl)) rfl⟩⟩
theorem mo_3_firstThatEnds : MO m3_firstThatEnds 0 false := ⟨Ts_in (in_t3 _ (List.mem_of_getElem? (i := 185) rfl)) rfl, Ts_in (in_t1 _ (List.mem_of_getElem? (i := 10) rfl)) rfl, ⟨by decide +kernel, by decide +kernel, by decide +kernel⟩, ⟨Ts_in (in_t3 _ (List.mem_of_getElem? (i := 184) rfl)) rfl, Ts_in (in_s1 _ (List.mem_of_getElem? (i := 13) rfl)) rfl⟩⟩
theorem mo_3_ends : MO m3_ends 3 false := ⟨Ts_in (in_t3 _ (List.mem_of_getElem? (i := 199) rfl)) rfl, Ts_in (in_t1 _ (List.mem_of_getElem? (i := 10) rfl)) rfl, ⟨by decide +kernel, by decide +kernel, by decide +kernel⟩, ⟨Ts_in (in_t3 _ (List.mem_of_getElem? (i := 198) rfl)) rfl, Ts_in (in_s1 _ (List.mem_of_getElem? (i := 14) rfl)) rfl⟩⟩
theorem mo_3_lackThen : MO m3_lackThen 3 false := ⟨Ts_in (in_t3 _ (List.mem_of_getElem? (i := 203) rfl)) rfl, Ts_in (in_t1 _ (List.mem_of_getElem? (i := 10) rfl)) rfl, ⟨by decide +kernel, by decide +kernel, by decide +kernel⟩, ⟨Ts_in (in_t3 _ (List.mem_of_getElem? (i := 202) rfl)) rfl, Ts_in (in_s1 _ (List.mem_of_getElem? (i := 15) rfl)) rfl⟩⟩
theorem mo_3_firstOfTwo : MO m3_firstOfTwo 0 false := ⟨Ts_in (in_t3 _ (List.mem_of_getElem? (i := 208) rfl)) rfl, Ts_in (in_t1 _ (List.mem_of_getElem? (i := 10) rfl)) rfl, ⟨by decide +kernel, by decide +kernel, by decide +kernel⟩, ⟨Ts_in (in_t3 _ (List.mem_of_getElem? (i := 207) rfl)) rfl, Ts_in (in_s2 _ (List.mem_of_getElem? (i := 0) rfl)) rfl⟩⟩
theorem mo_4_late : MO m4_late 1 false := ⟨Ts_in (in_t3 _ (List.mem_of_getElem? (i := 135) rfl)) rfl, Ts_in (in_t1 _ (List.mem_of_getElem? (i := 8) rfl)) rfl, ⟨by decide +kernel, by decide +kernel, by decide +kernel⟩, ⟨Ts_in (in_t3 _ (List.mem_of_getElem? (i := 133) rfl)) rfl, Ts_in (in_t3 _ (List.mem_of_getElem? (i := 134) rfl)) rfl⟩⟩
theorem mo_4_findInTheWay : MO m4_findInTheWay 1 false := ⟨Ts_in (in_t3 _ (List.mem_of_getElem? (i := 155) rfl)) rfl, Ts_in (in_t1 _ (List.mem_of_getElem? (i := 8) rfl)) rfl, ⟨by decide +kernel, by decide +kernel, by decide +kernel⟩, ⟨Ts_in (in_t3 _ (List.mem_of_getElem? (i := 153) rfl)) rfl, Ts_in (in_t3 _ (List.mem_of_getElem? (i := 154) rfl)) rfl⟩⟩
theorem mo_4_spaceWithout : MO m4_spaceWithout 3 false := ⟨Ts_in (in_t3 _ (List.mem_of_getElem? (i := 163) rfl)) rfl, Ts_in (in_t1 _ (List.mem_of_getElem? (i := 8) rfl)) rfl, ⟨by decide +kernel, by decide +kernel, by decide +kernel⟩, ⟨Ts_in (in_t3 _ (List.mem_of_getElem? (i := 162) rfl)) rfl, Ts_in (in_s1 _ (List.mem_of_getElem? (i := 11) rfl)) rfl⟩⟩
theorem mo_4_stricter : MO m4_stricter 2 false := ⟨Ts_in (in_t6 _ (List.mem_of_getElem? (i := 149) rfl)) rfl, Ts_in (in_t1 _ (List.mem_of_getElem? (i := 8) rfl)) rfl, ⟨by decide +kernel, by decide +kernel, by decide +kernel⟩, ⟨Ts_in (in_t6 _ (List.mem_of_getElem? (i := 147) rfl)) rfl, Ts_in (in_t6 _ (List.mem_of_getElem? (i := 148) rfl)) rfl⟩⟩
theorem mo_4_tighter : MO m4_tighter 2 false := ⟨Ts_in (in_t6 _ (List.mem_of_getElem? (i := 186) rfl)) rfl, Ts_in (in_t1 _ (List.mem_of_getElem? (i := 8) rfl)) rfl, ⟨by decide +kernel, by decide +kernel, by decide +kernel⟩, ⟨Ts_in (in_t6 _ (List.mem_of_getElem? (i := 184) rfl)) rfl, Ts_in (in_t6 _ (List.mem_of_getElem? (i := 185) rfl)) rfl⟩⟩
theorem mo_4_apart : MO m4_apart 2 false := ⟨Ts_in (in_t6 _ (List.mem_of_getElem? (i := 207) rfl)) rfl, Ts_in (in_t1 _ (List.mem_of_getElem? (i := 8) rfl)) rfl, ⟨by decide +kernel, by decide +kernel, by decide +kernel⟩, ⟨Ts_in (in_t6 _ (List.mem_of_getElem? (i := 205) rfl)) rfl, Ts_in (in_t6 _ (List.mem_of_getElem? (i := 206) rfl)) rfl⟩⟩
theorem mo_4_priceOfWork : MO m4_priceOfWork 2 false := ⟨Ts_in (in_t6 _ (List.mem_of_getElem? (i := 165) rfl)) rfl, Ts_in (in_t1 _ (List.mem_of_getElem? (i := 8) rfl)) rfl, ⟨by decide +kernel, by decide +kernel, by decide +kernel⟩, ⟨Ts_in (in_t6 _ (List.mem_of_getElem? (i := 163) rfl)) rfl, Ts_in (in_t6 _ (List.mem_of_getElem? (i := 164) rfl)) rfl⟩⟩
theorem mo_4_priceOfLibrary : MO m4_priceOfLibrary 2 false := ⟨Ts_in (in_t6 _ (List.mem_of_getElem? (i := 211) rfl)) rfl, Ts_in (in_t1 _ (List.mem_of_getElem? (i := 8) rfl)) rfl, ⟨by decide +kernel, by decide +kernel, by decide +kernel⟩, ⟨Ts_in (in_t6 _ (List.mem_of_getElem? (i := 209) rfl)) rfl, Ts_in (in_t6 _ (List.mem_of_getElem? (i := 210) rfl)) rfl⟩⟩
theorem mo_5_make : MO m5_make 1 false := ⟨Ts_in (in_t3 _ (List.mem_of_getElem? (i := 0) rfl)) rfl, Ts_in (in_t1 _ (List.mem_of_getElem? (i := 7) rfl)) rfl, ⟨by decide +kernel, by decide +kernel, by decide +kernel⟩, ⟨Ts_in (in_t2 _ (List.mem_of_getElem? (i := 238) rfl)) rfl, Ts_in (in_t2 _ (List.mem_of_getElem? (i := 239) rfl)) rfl⟩⟩
theorem mo_5_takeMost : MO m5_takeMost 3 false := ⟨Ts_in (in_t3 _ (List.mem_of_getElem? (i := 70) rfl)) rfl, Ts_in (in_t1 _ (List.mem_of_getElem? (i := 7) rfl)) rfl, ⟨by decide +kernel, by decide +kernel, by decide +kernel⟩, ⟨Ts_in (in_t3 _ (List.mem_of_getElem? (i := 69) rfl)) rfl, Ts_in (in_s1 _ (List.mem_of_getElem? (i := 7) rfl)) rfl⟩⟩
theorem mo_5_copiesFrom : MO m5_copiesFrom 1 false := ⟨Ts_in (in_t6 _ (List.mem_of_getElem? (i := 177) rfl)) rfl, Ts_in (in_t1 _ (List.mem_of_getElem? (i := 7) rfl)) rfl, ⟨by decide +kernel, by decide +kernel, by decide +kernel⟩, ⟨Ts_in (in_t6 _ (List.mem_of_getElem? (i := 175) rfl)) rfl, Ts_in (in_t6 _ (List.mem_of_getElem? (i := 176) rfl)) rfl⟩⟩
theorem mo_5_copiesOf : MO m5_copiesOf 1 false := ⟨Ts_in (in_t6 _ (List.mem_of_getElem? (i := 145) rfl)) rfl, Ts_in (in_t1 _ (List.mem_of_getElem? (i := 7) rfl)) rfl, ⟨by decide +kernel, by decide +kernel, by decide +kernel⟩, ⟨Ts_in (in_t6 _ (List.mem_of_getElem? (i := 143) rfl)) rfl, Ts_in (in_t6 _ (List.mem_of_getElem? (i := 144) rfl)) rfl⟩⟩
theorem mo_5_wonBy : MO m5_wonBy 2 false := ⟨Ts_in (in_t6 _ (List.mem_of_getElem? (i := 181) rfl)) rfl, Ts_in (in_t1 _ (List.mem_of_getElem? (i := 7) rfl)) rfl, ⟨by decide +kernel, by decide +kernel, by decide +kernel⟩, ⟨Ts_in (in_t6 _ (List.mem_of_getElem? (i := 179) rfl)) rfl, Ts_in (in_t6 _ (List.mem_of_getElem? (i := 180) rfl)) rfl⟩⟩
theorem mo_5_packed : MO m5_packed 0 false := ⟨Ts_in (in_t6 _ (List.mem_of_getElem? (i := 96) rfl)) rfl, Ts_in (in_t1 _ (List.mem_of_getElem? (i := 7) rfl)) rfl, ⟨by decide +kernel, by decide +kernel, by decide +kernel⟩, ⟨Ts_in (in_t6 _ (List.mem_of_getElem? (i := 94) rfl)) rfl, Ts_in (in_t6 _ (List.mem_of_getElem? (i := 95) rfl)) rfl⟩⟩
theorem mo_5_changes : MO m5_changes 1 false := ⟨Ts_in (in_t3 _ (List.mem_of_getElem? (i := 87) rfl)) rfl, Ts_in (in_t1 _ (List.mem_of_getElem? (i := 7) rfl)) rfl, ⟨by decide +kernel, by decide +kernel, by decide +kernel⟩, ⟨Ts_in (in_t3 _ (List.mem_of_getElem? (i := 85) rfl)) rfl, Ts_in (in_t3 _ (List.mem_of_getElem? (i := 86) rfl)) rfl⟩⟩
theorem mo_5_changesOf : MO m5_changesOf 3 false := ⟨Ts_in (in_t3 _ (List.mem_of_getElem? (i := 92) rfl)) rfl, Ts_in (in_t1 _ (List.mem_of_getElem? (i := 7) rfl)) rfl, ⟨by decide +kernel, by decide +kernel, by decide +kernel⟩, ⟨Ts_in (in_t3 _ (List.mem_of_getElem? (i := 91) rfl)) rfl, Ts_in (in_s1 _ (List.mem_of_getElem? (i := 8) rfl)) rfl⟩⟩
theorem mo_5_mayMove : MO m5_mayMove 4 false := ⟨Ts_in (in_t3 _ (List.mem_of_getElem? (i := 97) rfl)) rfl, Ts_in (in_t1 _ (List.mem_of_getElem? (i := 7) rfl)) rfl, ⟨by decide +kernel, by decide +kernel, by decide +kernel⟩, ⟨Ts_in (in_t3 _ (List.mem_of_getElem? (i := 96) rfl)) rfl, Ts_in (in_s1 _ (List.mem_of_getElem? (i := 9) rfl)) rfl⟩⟩
theorem mo_6_load : MO m6_load 1 false := ⟨Ts_in (in_t3 _ (List.mem_of_getElem? (i := 4) rfl)) rfl, Ts_in (in_t1 _ (List.mem_of_getElem? (i := 6) rfl)) rfl, ⟨by decide +kernel, by decide +kernel, by decide +kernel⟩, ⟨Ts_in (in_t3 _ (List.mem_of_getElem? (i := 2) rfl)) rfl, Ts_in (in_t3 _ (List.mem_of_getElem? (i := 3) rfl)) rfl⟩⟩
theorem mo_6_rank : MO m6_rank 1 false := ⟨Ts_in (in_t3 _ (List.mem_of_getElem? (i := 58) rfl)) rfl, Ts_in (in_t1 _ (List.mem_of_getElem? (i := 6) rfl)) rfl, ⟨by decide +kernel, by decide +kernel, by decide +kernel⟩, ⟨Ts_in (in_t3 _ (List.mem_of_getElem? (i := 57) rfl)) rfl, Ts_in (in_s1 _ (List.mem_of_getElem? (i := 5) rfl)) rfl⟩⟩
theorem mo_6_sumNeeds : MO m6_sumNeeds 0 false := ⟨Ts_in (in_t3 _ (List.mem_of_getElem? (i := 42) rfl)) rfl, Ts_in (in_t1 _ (List.mem_of_getElem? (i := 6) rfl)) rfl, ⟨by decide +kernel, by decide +kernel, by decide +kernel⟩, ⟨Ts_in (in_t3 _ (List.mem_of_getElem? (i := 41) rfl)) rfl, Ts_in (in_s1 _ (List.mem_of_getElem? (i := 3) rfl)) rfl⟩⟩
theorem mo_6_sumOffers : MO m6_sumOffers 1 false := ⟨Ts_in (in_t3 _ (List.mem_of_getElem? (i := 54) rfl)) rfl, Ts_in (in_t1 _ (List.mem_of_getElem? (i := 6) rfl)) rfl, ⟨by decide +kernel, by decide +kernel, by decide +kernel⟩, ⟨Ts_in (in_t3 _ (List.mem_of_getElem? (i := 53) rfl)) rfl, Ts_in (in_s1 _ (List.mem_of_getElem? (i := 4) rfl)) rfl⟩⟩
theorem mo_6_setSpare : MO m6_setSpare 2 false := ⟨Ts_in (in_t3 _ (List.mem_of_getElem? (i := 78) rfl)) rfl, Ts_in (in_t1 _ (List.mem_of_getElem? (i := 6) rfl)) rfl, ⟨by decide +kernel, by decide +kernel, by decide +kernel⟩, ⟨Ts_in (in_t3 _ (List.mem_of_getElem? (i := 76) rfl)) rfl, Ts_in (in_t3 _ (List.mem_of_getElem? (i := 77) rfl)) rfl⟩⟩
theorem mo_6_setOffer : MO m6_setOffer 3 false := ⟨Ts_in (in_t3 _ (List.mem_of_getElem? (i := 168) rfl)) rfl, Ts_in (in_t1 _ (List.mem_of_getElem? (i := 6) rfl)) rfl, ⟨by decide +kernel, by decide +kernel, by decide +kernel⟩, ⟨Ts_in (in_t3 _ (List.mem_of_getElem? (i := 166) rfl)) rfl, Ts_in (in_t3 _ (List.mem_of_getElem? (i := 167) rfl)) rfl⟩⟩
theorem mo_6_setLibrary : MO m6_setLibrary 3 false := ⟨Ts_in (in_t3 _ (List.mem_of_getElem? (i := 83) rfl)) rfl, Ts_in (in_t1 _ (List.mem_of_getElem? (i := 6) rfl)) rfl, ⟨by decide +kernel, by decide +kernel, by decide +kernel⟩, ⟨Ts_in (in_t3 _ (List.mem_of_getElem? (i := 81) rfl)) rfl, Ts_in (in_t3 _ (List.mem_of_getElem? (i := 82) rfl)) rfl⟩⟩
theorem mo_6_canTake : MO m6_canTake 1 false := ⟨Ts_in (in_t3 _ (List.mem_of_getElem? (i := 120) rfl)) rfl, Ts_in (in_t1 _ (List.mem_of_getElem? (i := 6) rfl)) rfl, ⟨by decide +kernel, by decide +kernel, by decide +kernel⟩, ⟨Ts_in (in_t3 _ (List.mem_of_getElem? (i := 118) rfl)) rfl, Ts_in (in_t3 _ (List.mem_of_getElem? (i := 119) rfl)) rfl⟩⟩
theorem mo_6_lackOf : MO m6_lackOf 1 false := ⟨Ts_in (in_t3 _ (List.mem_of_getElem? (i := 116) rfl)) rfl, Ts_in (in_t1 _ (List.mem_of_getElem? (i := 6) rfl)) rfl, ⟨by decide +kernel, by decide +kernel, by decide +kernel⟩, ⟨Ts_in (in_t3 _ (List.mem_of_getElem? (i := 114) rfl)) rfl, Ts_in (in_t3 _ (List.mem_of_getElem? (i := 115) rfl)) rfl⟩⟩
theorem mo_6_hasPlan : MO m6_hasPlan 0 false := ⟨Ts_in (in_t3 _ (List.mem_of_getElem? (i := 151) rfl)) rfl, Ts_in (in_t1 _ (List.mem_of_getElem? (i := 6) rfl)) rfl, ⟨by decide +kernel, by decide +kernel, by decide +kernel⟩, ⟨Ts_in (in_t3 _ (List.mem_of_getElem? (i := 149) rfl)) rfl, Ts_in (in_t3 _ (List.mem_of_getElem? (i := 150) rfl)) rfl⟩⟩
theorem mo_6_worstSet : MO m6_worstSet 0 false := ⟨Ts_in (in_t3 _ (List.mem_of_getElem? (i := 112) rfl)) rfl, Ts_in (in_t1 _ (List.mem_of_getElem? (i := 6) rfl)) rfl, ⟨by decide +kernel, by decide +kernel, by decide +kernel⟩, ⟨Ts_in (in_t3 _ (List.mem_of_getElem? (i := 110) rfl)) rfl, Ts_in (in_t3 _ (List.mem_of_getElem? (i := 111) rfl)) rfl⟩⟩
theorem mo_6_scarceWorks : MO m6_scarceWorks 1 false := ⟨Ts_in (in_t3 _ (List.mem_of_getElem? (i := 131) rfl)) rfl, Ts_in (in_t1 _ (List.mem_of_getElem? (i := 6) rfl)) rfl, ⟨by decide +kernel, by decide +kernel, by decide +kernel⟩, ⟨Ts_in (in_t3 _ (List.mem_of_getElem? (i := 129) rfl)) rfl, Ts_in (in_t3 _ (List.mem_of_getElem? (i := 130) rfl)) rfl⟩⟩
theorem mo_6_space : MO m6_space 1 false := ⟨Ts_in (in_t3 _ (List.mem_of_getElem? (i := 62) rfl)) rfl, Ts_in (in_t1 _ (List.mem_of_getElem? (i := 6) rfl)) rfl, ⟨by decide +kernel, by decide +kernel, by decide +kernel⟩, ⟨Ts_in (in_t3 _ (List.mem_of_getElem? (i := 60) rfl)) rfl, Ts_in (in_t3 _ (List.mem_of_getElem? (i := 61) rfl)) rfl⟩⟩
theorem mo_6_weighMost : MO m6_weighMost 0 false := ⟨Ts_in (in_t3 _ (List.mem_of_getElem? (i := 66) rfl)) rfl, Ts_in (in_t1 _ (List.mem_of_getElem? (i := 6) rfl)) rfl, ⟨by decide +kernel, by decide +kernel, by decide +kernel⟩, ⟨Ts_in (in_t3 _ (List.mem_of_getElem? (i := 65) rfl)) rfl, Ts_in (in_s1 _ (List.mem_of_getElem? (i := 6) rfl)) rfl⟩⟩
theorem mo_6_copiesOfPlan : MO m6_copiesOfPlan 0 false := ⟨Ts_in (in_t3 _ (List.mem_of_getElem? (i := 104) rfl)) rfl, Ts_in (in_t1 _ (List.mem_of_getElem? (i := 6) rfl)) rfl, ⟨by decide +kernel, by decide +kernel, by decide +kernel⟩, ⟨Ts_in (in_t3 _ (List.mem_of_getElem? (i := 102) rfl)) rfl, Ts_in (in_t3 _ (List.mem_of_getElem? (i := 103) rfl)) rfl⟩⟩
theorem mo_7_copyFrom : MO m7_copyFrom 1 false := ⟨Ts_in (in_t4 _ (List.mem_of_getElem? (i := 85) rfl)) rfl, Ts_in (in_t1 _ (List.mem_of_getElem? (i := 2) rfl)) rfl, ⟨by decide +kernel, by decide +kernel, by decide +kernel⟩, ⟨Ts_in (in_t4 _ (List.mem_of_getElem? (i := 83) rfl)) rfl, Ts_in (in_t4 _ (List.mem_of_getElem? (i := 84) rfl)) rfl⟩⟩
theorem mo_8_clear : MO m8_clear 0 false := ⟨Ts_in (in_t4 _ (List.mem_of_getElem? (i := 186) rfl)) rfl, Ts_in (in_t1 _ (List.mem_of_getElem? (i := 3) rfl)) rfl, ⟨by decide +kernel, by decide +kernel, by decide +kernel⟩, ⟨Ts_in (in_t4 _ (List.mem_of_getElem? (i := 184) rfl)) rfl, Ts_in (in_t4 _ (List.mem_of_getElem? (i := 185) rfl)) rfl⟩⟩
theorem mo_8_copyFrom : MO m8_copyFrom 1 false := ⟨Ts_in (in_t3 _ (List.mem_of_getElem? (i := 139) rfl)) rfl, Ts_in (in_t1 _ (List.mem_of_getElem? (i := 3) rfl)) rfl, ⟨by decide +kernel, by decide +kernel, by decide +kernel⟩, ⟨Ts_in (in_t3 _ (List.mem_of_getElem? (i := 137) rfl)) rfl, Ts_in (in_t3 _ (List.mem_of_getElem? (i := 138) rfl)) rfl⟩⟩
theorem mo_8_libraries : MO m8_libraries 0 false := ⟨Ts_in (in_t2 _ (List.mem_of_getElem? (i := 185) rfl)) rfl, Ts_in (in_t1 _ (List.mem_of_getElem? (i := 3) rfl)) rfl, ⟨by decide +kernel, by decide +kernel, by decide +kernel⟩, ⟨Ts_in (in_t2 _ (List.mem_of_getElem? (i := 183) rfl)) rfl, Ts_in (in_t2 _ (List.mem_of_getElem? (i := 184) rfl)) rfl⟩⟩
theorem mo_8_works : MO m8_works 0 false := ⟨Ts_in (in_t2 _ (List.mem_of_getElem? (i := 189) rfl)) rfl, Ts_in (in_t1 _ (List.mem_of_getElem? (i := 3) rfl)) rfl, ⟨by decide +kernel, by decide +kernel, by decide +kernel⟩, ⟨Ts_in (in_t2 _ (List.mem_of_getElem? (i := 187) rfl)) rfl, Ts_in (in_t2 _ (List.mem_of_getElem? (i := 188) rfl)) rfl⟩⟩
theorem mo_8_addLibrary : MO m8_addLibrary 2 false := ⟨Ts_in (in_t4 _ (List.mem_of_getElem? (i := 236) rfl)) rfl, Ts_in (in_t1 _ (List.mem_of_getElem? (i := 3) rfl)) rfl, ⟨by decide +kernel, by decide +kernel, by decide +kernel⟩, ⟨Ts_in (in_t4 _ (List.mem_of_getElem? (i := 234) rfl)) rfl, Ts_in (in_t4 _ (List.mem_of_getElem? (i := 235) rfl)) rfl⟩⟩
theorem mo_8_addWork : MO m8_addWork 2 false := ⟨Ts_in (in_t5 _ (List.mem_of_getElem? (i := 6) rfl)) rfl, Ts_in (in_t1 _ (List.mem_of_getElem? (i := 3) rfl)) rfl, ⟨by decide +kernel, by decide +kernel, by decide +kernel⟩, ⟨Ts_in (in_t5 _ (List.mem_of_getElem? (i := 4) rfl)) rfl, Ts_in (in_t5 _ (List.mem_of_getElem? (i := 5) rfl)) rfl⟩⟩
theorem mo_8_isLibrary : MO m8_isLibrary 1 false := ⟨Ts_in (in_t6 _ (List.mem_of_getElem? (i := 39) rfl)) rfl, Ts_in (in_t1 _ (List.mem_of_getElem? (i := 3) rfl)) rfl, ⟨by decide +kernel, by decide +kernel, by decide +kernel⟩, ⟨Ts_in (in_t6 _ (List.mem_of_getElem? (i := 37) rfl)) rfl, Ts_in (in_t6 _ (List.mem_of_getElem? (i := 38) rfl)) rfl⟩⟩
theorem mo_8_isWork : MO m8_isWork 1 false := ⟨Ts_in (in_t6 _ (List.mem_of_getElem? (i := 43) rfl)) rfl, Ts_in (in_t1 _ (List.mem_of_getElem? (i := 3) rfl)) rfl, ⟨by decide +kernel, by decide +kernel, by decide +kernel⟩, ⟨Ts_in (in_t6 _ (List.mem_of_getElem? (i := 41) rfl)) rfl, Ts_in (in_t6 _ (List.mem_of_getElem? (i := 42) rfl)) rfl⟩⟩
theorem mo_8_isPair : MO m8_isPair 2 false := ⟨Ts_in (in_t6 _ (List.mem_of_getElem? (i := 35) rfl)) rfl, Ts_in (in_t1 _ (List.mem_of_getElem? (i := 3) rfl)) rfl, ⟨by decide +kernel, by decide +kernel, by decide +kernel⟩, ⟨Ts_in (in_t6 _ (List.mem_of_getElem? (i := 33) rfl)) rfl, Ts_in (in_t6 _ (List.mem_of_getElem? (i := 34) rfl)) rfl⟩⟩
theorem mo_8_roomOf : MO m8_roomOf 1 false := ⟨Ts_in (in_t3 _ (List.mem_of_getElem? (i := 17) rfl)) rfl, Ts_in (in_t1 _ (List.mem_of_getElem? (i := 3) rfl)) rfl, ⟨by decide +kernel, by decide +kernel, by decide +kernel⟩, ⟨Ts_in (in_t3 _ (List.mem_of_getElem? (i := 15) rfl)) rfl, Ts_in (in_t3 _ (List.mem_of_getElem? (i := 16) rfl)) rfl⟩⟩
theorem mo_8_wishOf : MO m8_wishOf 1 false := ⟨Ts_in (in_t3 _ (List.mem_of_getElem? (i := 21) rfl)) rfl, Ts_in (in_t1 _ (List.mem_of_getElem? (i := 3) rfl)) rfl, ⟨by decide +kernel, by decide +kernel, by decide +kernel⟩, ⟨Ts_in (in_t3 _ (List.mem_of_getElem? (i := 19) rfl)) rfl, Ts_in (in_t3 _ (List.mem_of_getElem? (i := 20) rfl)) rfl⟩⟩
theorem mo_8_sizeOf : MO m8_sizeOf 1 false := ⟨Ts_in (in_t3 _ (List.mem_of_getElem? (i := 46) rfl)) rfl, Ts_in (in_t1 _ (List.mem_of_getElem? (i := 3) rfl)) rfl, ⟨by decide +kernel, by decide +kernel, by decide +kernel⟩, ⟨Ts_in (in_t3 _ (List.mem_of_getElem? (i := 44) rfl)) rfl, Ts_in (in_t3 _ (List.mem_of_getElem? (i := 45) rfl)) rfl⟩⟩
theorem mo_8_keepOf : MO m8_keepOf 1 false := ⟨Ts_in (in_t2 _ (List.mem_of_getElem? (i := 217) rfl)) rfl, Ts_in (in_t1 _ (List.mem_of_getElem? (i := 3) rfl)) rfl, ⟨by decide +kernel, by decide +kernel, by decide +kernel⟩, ⟨Ts_in (in_t2 _ (List.mem_of_getElem? (i := 215) rfl)) rfl, Ts_in (in_t2 _ (List.mem_of_getElem? (i := 216) rfl)) rfl⟩⟩
theorem mo_8_storedOf : MO m8_storedOf 1 false := ⟨Ts_in (in_t2 _ (List.mem_of_getElem? (i := 228) rfl)) rfl, Ts_in (in_t1 _ (List.mem_of_getElem? (i := 3) rfl)) rfl, ⟨by decide +kernel, by decide +kernel, by decide +kernel⟩, ⟨Ts_in (in_t2 _ (List.mem_of_getElem? (i := 226) rfl)) rfl, Ts_in (in_t2 _ (List.mem_of_getElem? (i := 227) rfl)) rfl⟩⟩
theorem mo_8_heldIn : MO m8_heldIn 2 false := ⟨Ts_in (in_t3 _ (List.mem_of_getElem? (i := 30) rfl)) rfl, Ts_in (in_t1 _ (List.mem_of_getElem? (i := 3) rfl)) rfl, ⟨by decide +kernel, by decide +kernel, by decide +kernel⟩, ⟨Ts_in (in_t3 _ (List.mem_of_getElem? (i := 28) rfl)) rfl, Ts_in (in_t3 _ (List.mem_of_getElem? (i := 29) rfl)) rfl⟩⟩
theorem mo_8_muchOf : MO m8_muchOf 2 false := ⟨Ts_in (in_t3 _ (List.mem_of_getElem? (i := 38) rfl)) rfl, Ts_in (in_t1 _ (List.mem_of_getElem? (i := 3) rfl)) rfl, ⟨by decide +kernel, by decide +kernel, by decide +kernel⟩, ⟨Ts_in (in_t3 _ (List.mem_of_getElem? (i := 36) rfl)) rfl, Ts_in (in_t3 _ (List.mem_of_getElem? (i := 37) rfl)) rfl⟩⟩
theorem mo_8_untilOf : MO m8_untilOf 2 false := ⟨Ts_in (in_t6 _ (List.mem_of_getElem? (i := 128) rfl)) rfl, Ts_in (in_t1 _ (List.mem_of_getElem? (i := 3) rfl)) rfl, ⟨by decide +kernel, by decide +kernel, by decide +kernel⟩, ⟨Ts_in (in_t6 _ (List.mem_of_getElem? (i := 126) rfl)) rfl, Ts_in (in_t6 _ (List.mem_of_getElem? (i := 127) rfl)) rfl⟩⟩
theorem mo_8_promiseCounts : MO m8_promiseCounts 2 false := ⟨Ts_in (in_t3 _ (List.mem_of_getElem? (i := 34) rfl)) rfl, Ts_in (in_t1 _ (List.mem_of_getElem? (i := 3) rfl)) rfl, ⟨by decide +kernel, by decide +kernel, by decide +kernel⟩, ⟨Ts_in (in_t3 _ (List.mem_of_getElem? (i := 32) rfl)) rfl, Ts_in (in_t3 _ (List.mem_of_getElem? (i := 33) rfl)) rfl⟩⟩
theorem mo_8_offerOf : MO m8_offerOf 2 false := ⟨Ts_in (in_t3 _ (List.mem_of_getElem? (i := 26) rfl)) rfl, Ts_in (in_t1 _ (List.mem_of_getElem? (i := 3) rfl)) rfl, ⟨by decide +kernel, by decide +kernel, by decide +kernel⟩, ⟨Ts_in (in_t3 _ (List.mem_of_getElem? (i := 24) rfl)) rfl, Ts_in (in_t3 _ (List.mem_of_getElem? (i := 25) rfl)) rfl⟩⟩
theorem mo_8_copiesIn : MO m8_copiesIn 1 false := ⟨Ts_in (in_t2 _ (List.mem_of_getElem? (i := 197) rfl)) rfl, Ts_in (in_t1 _ (List.mem_of_getElem? (i := 3) rfl)) rfl, ⟨by decide +kernel, by decide +kernel, by decide +kernel⟩, ⟨Ts_in (in_t2 _ (List.mem_of_getElem? (i := 195) rfl)) rfl, Ts_in (in_t2 _ (List.mem_of_getElem? (i := 196) rfl)) rfl⟩⟩
theorem mo_8_copiesHeld : MO m8_copiesHeld 0 false := ⟨Ts_in (in_t2 _ (List.mem_of_getElem? (i := 193) rfl)) rfl, Ts_in (in_t1 _ (List.mem_of_getElem? (i := 3) rfl)) rfl, ⟨by decide +kernel, by decide +kernel, by decide +kernel⟩, ⟨Ts_in (in_t2 _ (List.mem_of_getElem? (i := 191) rfl)) rfl, Ts_in (in_t2 _ (List.mem_of_getElem? (i := 192) rfl)) rfl⟩⟩
theorem mo_8_copiesStored : MO m8_copiesStored 0 false := ⟨Ts_in (in_t2 _ (List.mem_of_getElem? (i := 224) rfl)) rfl, Ts_in (in_t1 _ (List.mem_of_getElem? (i := 3) rfl)) rfl, ⟨by decide +kernel, by decide +kernel, by decide +kernel⟩, ⟨Ts_in (in_t2 _ (List.mem_of_getElem? (i := 222) rfl)) rfl, Ts_in (in_t2 _ (List.mem_of_getElem? (i := 223) rfl)) rfl⟩⟩
theorem mo_8_copiesOf : MO m8_copiesOf 1 false := ⟨Ts_in (in_t2 _ (List.mem_of_getElem? (i := 205) rfl)) rfl, Ts_in (in_t1 _ (List.mem_of_getElem? (i := 3) rfl)) rfl, ⟨by decide +kernel, by decide +kernel, by decide +kernel⟩, ⟨Ts_in (in_t2 _ (List.mem_of_getElem? (i := 203) rfl)) rfl, Ts_in (in_t2 _ (List.mem_of_getElem? (i := 204) rfl)) rfl⟩⟩
theorem mo_8_spareOf : MO m8_spareOf 1 false := ⟨Ts_in (in_t3 _ (List.mem_of_getElem? (i := 50) rfl)) rfl, Ts_in (in_t1 _ (List.mem_of_getElem? (i := 3) rfl)) rfl, ⟨by decide +kernel, by decide +kernel, by decide +kernel⟩, ⟨Ts_in (in_t3 _ (List.mem_of_getElem? (i := 48) rfl)) rfl, Ts_in (in_t3 _ (List.mem_of_getElem? (i := 49) rfl)) rfl⟩⟩
theorem mo_8_shortOf : MO m8_shortOf 1 false := ⟨Ts_in (in_t2 _ (List.mem_of_getElem? (i := 213) rfl)) rfl, Ts_in (in_t1 _ (List.mem_of_getElem? (i := 3) rfl)) rfl, ⟨by decide +kernel, by decide +kernel, by decide +kernel⟩, ⟨Ts_in (in_t2 _ (List.mem_of_getElem? (i := 211) rfl)) rfl, Ts_in (in_t2 _ (List.mem_of_getElem? (i := 212) rfl)) rfl⟩⟩
theorem mo_8_needOf : MO m8_needOf 1 false := ⟨Ts_in (in_t3 _ (List.mem_of_getElem? (i := 13) rfl)) rfl, Ts_in (in_t1 _ (List.mem_of_getElem? (i := 3) rfl)) rfl, ⟨by decide +kernel, by decide +kernel, by decide +kernel⟩, ⟨Ts_in (in_t3 _ (List.mem_of_getElem? (i := 11) rfl)) rfl, Ts_in (in_t3 _ (List.mem_of_getElem? (i := 12) rfl)) rfl⟩⟩
theorem mo_8_mayGo : MO m8_mayGo 2 false := ⟨Ts_in (in_t6 _ (List.mem_of_getElem? (i := 81) rfl)) rfl, Ts_in (in_t1 _ (List.mem_of_getElem? (i := 3) rfl)) rfl, ⟨by decide +kernel, by decide +kernel, by decide +kernel⟩, ⟨Ts_in (in_t6 _ (List.mem_of_getElem? (i := 79) rfl)) rfl, Ts_in (in_t6 _ (List.mem_of_getElem? (i := 80) rfl)) rfl⟩⟩
theorem mo_8_whyNot : MO m8_whyNot 2 false := ⟨Ts_in (in_t6 _ (List.mem_of_getElem? (i := 134) rfl)) rfl, Ts_in (in_t1 _ (List.mem_of_getElem? (i := 3) rfl)) rfl, ⟨by decide +kernel, by decide +kernel, by decide +kernel⟩, ⟨Ts_in (in_t6 _ (List.mem_of_getElem? (i := 132) rfl)) rfl, Ts_in (in_t6 _ (List.mem_of_getElem? (i := 133) rfl)) rfl⟩⟩
theorem mo_8_hasRoom : MO m8_hasRoom 1 false := ⟨Ts_in (in_t3 _ (List.mem_of_getElem? (i := 189) rfl)) rfl, Ts_in (in_t1 _ (List.mem_of_getElem? (i := 3) rfl)) rfl, ⟨by decide +kernel, by decide +kernel, by decide +kernel⟩, ⟨Ts_in (in_t3 _ (List.mem_of_getElem? (i := 187) rfl)) rfl, Ts_in (in_t3 _ (List.mem_of_getElem? (i := 188) rfl)) rfl⟩⟩
theorem mo_8_mayGive : MO m8_mayGive 3 false := ⟨Ts_in (in_t3 _ (List.mem_of_getElem? (i := 193) rfl)) rfl, Ts_in (in_t1 _ (List.mem_of_getElem? (i := 3) rfl)) rfl, ⟨by decide +kernel, by decide +kernel, by decide +kernel⟩, ⟨Ts_in (in_t3 _ (List.mem_of_getElem? (i := 191) rfl)) rfl, Ts_in (in_t3 _ (List.mem_of_getElem? (i := 192) rfl)) rfl⟩⟩
theorem mo_8_maySend : MO m8_maySend 2 false := ⟨Ts_in (in_t6 _ (List.mem_of_getElem? (i := 112) rfl)) rfl, Ts_in (in_t1 _ (List.mem_of_getElem? (i := 3) rfl)) rfl, ⟨by decide +kernel, by decide +kernel, by decide +kernel⟩, ⟨Ts_in (in_t6 _ (List.mem_of_getElem? (i := 110) rfl)) rfl, Ts_in (in_t6 _ (List.mem_of_getElem? (i := 111) rfl)) rfl⟩⟩
theorem mo_8_moveOne : MO m8_moveOne 3 false := ⟨Ts_in (in_t3 _ (List.mem_of_getElem? (i := 214) rfl)) rfl, Ts_in (in_t1 _ (List.mem_of_getElem? (i := 3) rfl)) rfl, ⟨by decide +kernel, by decide +kernel, by decide +kernel⟩, ⟨Ts_in (in_t3 _ (List.mem_of_getElem? (i := 212) rfl)) rfl, Ts_in (in_t3 _ (List.mem_of_getElem? (i := 213) rfl)) rfl⟩⟩
theorem mo_8_holdersOf : MO m8_holdersOf 1 false := ⟨Ts_in (in_t6 _ (List.mem_of_getElem? (i := 156) rfl)) rfl, Ts_in (in_t1 _ (List.mem_of_getElem? (i := 3) rfl)) rfl, ⟨by decide +kernel, by decide +kernel, by decide +kernel⟩, ⟨Ts_in (in_t6 _ (List.mem_of_getElem? (i := 154) rfl)) rfl, Ts_in (in_t6 _ (List.mem_of_getElem? (i := 155) rfl)) rfl⟩⟩
theorem mo_8_lastWorks : MO m8_lastWorks 0 false := ⟨Ts_in (in_t2 _ (List.mem_of_getElem? (i := 201) rfl)) rfl, Ts_in (in_t1 _ (List.mem_of_getElem? (i := 3) rfl)) rfl, ⟨by decide +kernel, by decide +kernel, by decide +kernel⟩, ⟨Ts_in (in_t2 _ (List.mem_of_getElem? (i := 199) rfl)) rfl, Ts_in (in_t2 _ (List.mem_of_getElem? (i := 200) rfl)) rfl⟩⟩
theorem mo_8_shortWorks : MO m8_shortWorks 0 false := ⟨Ts_in (in_t2 _ (List.mem_of_getElem? (i := 209) rfl)) rfl, Ts_in (in_t1 _ (List.mem_of_getElem? (i := 3) rfl)) rfl, ⟨by decide +kernel, by decide +kernel, by decide +kernel⟩, ⟨Ts_in (in_t2 _ (List.mem_of_getElem? (i := 207) rfl)) rfl, Ts_in (in_t2 _ (List.mem_of_getElem? (i := 208) rfl)) rfl⟩⟩
theorem mo_8_scarceWithout : MO m8_scarceWithout 1 false := ⟨Ts_in (in_t6 _ (List.mem_of_getElem? (i := 195) rfl)) rfl, Ts_in (in_t1 _ (List.mem_of_getElem? (i := 3) rfl)) rfl, ⟨by decide +kernel, by decide +kernel, by decide +kernel⟩, ⟨Ts_in (in_t6 _ (List.mem_of_getElem? (i := 193) rfl)) rfl, Ts_in (in_t6 _ (List.mem_of_getElem? (i := 194) rfl)) rfl⟩⟩
theorem mo_8_lostWithout : MO m8_lostWithout 1 false := ⟨Ts_in (in_t6 _ (List.mem_of_getElem? (i := 199) rfl)) rfl, Ts_in (in_t1 _ (List.mem_of_getElem? (i := 3) rfl)) rfl, ⟨by decide +kernel, by decide +kernel, by decide +kernel⟩, ⟨Ts_in (in_t6 _ (List.mem_of_getElem? (i := 197) rfl)) rfl, Ts_in (in_t6 _ (List.mem_of_getElem? (i := 198) rfl)) rfl⟩⟩
theorem mo_8_safe : MO m8_safe 1 false := ⟨Ts_in (in_t6 _ (List.mem_of_getElem? (i := 161) rfl)) rfl, Ts_in (in_t1 _ (List.mem_of_getElem? (i := 3) rfl)) rfl, ⟨by decide +kernel, by decide +kernel, by decide +kernel⟩, ⟨Ts_in (in_t6 _ (List.mem_of_getElem? (i := 159) rfl)) rfl, Ts_in (in_t6 _ (List.mem_of_getElem? (i := 160) rfl)) rfl⟩⟩
theorem mo_8_promiseEndsWith : MO m8_promiseEndsWith 1 false := ⟨Ts_in (in_t3 _ (List.mem_of_getElem? (i := 146) rfl)) rfl, Ts_in (in_t1 _ (List.mem_of_getElem? (i := 3) rfl)) rfl, ⟨by decide +kernel, by decide +kernel, by decide +kernel⟩, ⟨Ts_in (in_t3 _ (List.mem_of_getElem? (i := 144) rfl)) rfl, Ts_in (in_t3 _ (List.mem_of_getElem? (i := 145) rfl)) rfl⟩⟩
theorem mo_8_withdraw : MO m8_withdraw 1 false := ⟨Ts_in (in_t6 _ (List.mem_of_getElem? (i := 100) rfl)) rfl, Ts_in (in_t1 _ (List.mem_of_getElem? (i := 3) rfl)) rfl, ⟨by decide +kernel, by decide +kernel, by decide +kernel⟩, ⟨Ts_in (in_t6 _ (List.mem_of_getElem? (i := 98) rfl)) rfl, Ts_in (in_t6 _ (List.mem_of_getElem? (i := 99) rfl)) rfl⟩⟩
theorem mo_8_putBack : MO m8_putBack 1 false := ⟨Ts_in (in_t4 _ (List.mem_of_getElem? (i := 77) rfl)) rfl, Ts_in (in_t1 _ (List.mem_of_getElem? (i := 3) rfl)) rfl, ⟨by decide +kernel, by decide +kernel, by decide +kernel⟩, ⟨Ts_in (in_t4 _ (List.mem_of_getElem? (i := 75) rfl)) rfl, Ts_in (in_t4 _ (List.mem_of_getElem? (i := 76) rfl)) rfl⟩⟩
theorem mo_9_read : MO m9_read 3 false := ⟨Ts_in (in_t4 _ (List.mem_of_getElem? (i := 181) rfl)) rfl, Ts_in (in_t1 _ (List.mem_of_getElem? (i := 5) rfl)) rfl, ⟨by decide +kernel, by decide +kernel, by decide +kernel⟩, ⟨Ts_in (in_t4 _ (List.mem_of_getElem? (i := 179) rfl)) rfl, Ts_in (in_t4 _ (List.mem_of_getElem? (i := 180) rfl)) rfl⟩⟩
theorem mo_9_refuse : MO m9_refuse 1 false := ⟨Ts_in (in_t4 _ (List.mem_of_getElem? (i := 220) rfl)) rfl, Ts_in (in_t1 _ (List.mem_of_getElem? (i := 5) rfl)) rfl, ⟨by decide +kernel, by decide +kernel, by decide +kernel⟩, ⟨Ts_in (in_t4 _ (List.mem_of_getElem? (i := 219) rfl)) rfl, Ts_in (in_s2 _ (List.mem_of_getElem? (i := 13) rfl)) rfl⟩⟩
theorem mo_9_byteAt : MO m9_byteAt 1 false := ⟨Ts_in (in_t4 _ (List.mem_of_getElem? (i := 194) rfl)) rfl, Ts_in (in_t1 _ (List.mem_of_getElem? (i := 5) rfl)) rfl, ⟨by decide +kernel, by decide +kernel, by decide +kernel⟩, ⟨Ts_in (in_t4 _ (List.mem_of_getElem? (i := 193) rfl)) rfl, Ts_in (in_s2 _ (List.mem_of_getElem? (i := 9) rfl)) rfl⟩⟩
theorem mo_9_isLetter : MO m9_isLetter 1 true := ⟨Ts_in (in_t4 _ (List.mem_of_getElem? (i := 197) rfl)) rfl, Ts_in (in_t1 _ (List.mem_of_getElem? (i := 5) rfl)) rfl, ⟨by decide +kernel, by decide +kernel, by decide +kernel⟩, Ts_in (in_t4 _ (List.mem_of_getElem? (i := 196) rfl)) rfl⟩
theorem mo_9_isDigit : MO m9_isDigit 1 true := ⟨Ts_in (in_t4 _ (List.mem_of_getElem? (i := 200) rfl)) rfl, Ts_in (in_t1 _ (List.mem_of_getElem? (i := 5) rfl)) rfl, ⟨by decide +kernel, by decide +kernel, by decide +kernel⟩, Ts_in (in_t4 _ (List.mem_of_getElem? (i := 199) rfl)) rfl⟩
theorem mo_9_next : MO m9_next 0 false := ⟨Ts_in (in_t4 _ (List.mem_of_getElem? (i := 190) rfl)) rfl, Ts_in (in_t1 _ (List.mem_of_getElem? (i := 5) rfl)) rfl, ⟨by decide +kernel, by decide +kernel, by decide +kernel⟩, ⟨Ts_in (in_t4 _ (List.mem_of_getElem? (i := 189) rfl)) rfl, Ts_in (in_s2 _ (List.mem_of_getElem? (i := 8) rfl)) rfl⟩⟩
theorem mo_9_wordIs : MO m9_wordIs 1 false := ⟨Ts_in (in_t4 _ (List.mem_of_getElem? (i := 209) rfl)) rfl, Ts_in (in_t1 _ (List.mem_of_getElem? (i := 5) rfl)) rfl, ⟨by decide +kernel, by decide +kernel, by decide +kernel⟩, ⟨Ts_in (in_t4 _ (List.mem_of_getElem? (i := 208) rfl)) rfl, Ts_in (in_s2 _ (List.mem_of_getElem? (i := 11) rfl)) rfl⟩⟩
theorem mo_9_readClause : MO m9_readClause 0 false := ⟨Ts_in (in_t4 _ (List.mem_of_getElem? (i := 204) rfl)) rfl, Ts_in (in_t1 _ (List.mem_of_getElem? (i := 5) rfl)) rfl, ⟨by decide +kernel, by decide +kernel, by decide +kernel⟩, ⟨Ts_in (in_t4 _ (List.mem_of_getElem? (i := 203) rfl)) rfl, Ts_in (in_s2 _ (List.mem_of_getElem? (i := 10) rfl)) rfl⟩⟩
theorem mo_9_readLibraryClause : MO m9_readLibraryClause 0 false := ⟨Ts_in (in_t4 _ (List.mem_of_getElem? (i := 215) rfl)) rfl, Ts_in (in_t1 _ (List.mem_of_getElem? (i := 5) rfl)) rfl, ⟨by decide +kernel, by decide +kernel, by decide +kernel⟩, ⟨Ts_in (in_t4 _ (List.mem_of_getElem? (i := 214) rfl)) rfl, Ts_in (in_s2 _ (List.mem_of_getElem? (i := 12) rfl)) rfl⟩⟩
theorem mo_9_readWorkClause : MO m9_readWorkClause 0 false := ⟨Ts_in (in_t5 _ (List.mem_of_getElem? (i := 1) rfl)) rfl, Ts_in (in_t1 _ (List.mem_of_getElem? (i := 5) rfl)) rfl, ⟨by decide +kernel, by decide +kernel, by decide +kernel⟩, ⟨Ts_in (in_t5 _ (List.mem_of_getElem? (i := 0) rfl)) rfl, Ts_in (in_s3 _ (List.mem_of_getElem? (i := 1) rfl)) rfl⟩⟩
theorem mo_9_readHoldsClause : MO m9_readHoldsClause 0 false := ⟨Ts_in (in_t5 _ (List.mem_of_getElem? (i := 11) rfl)) rfl, Ts_in (in_t1 _ (List.mem_of_getElem? (i := 5) rfl)) rfl, ⟨by decide +kernel, by decide +kernel, by decide +kernel⟩, ⟨Ts_in (in_t5 _ (List.mem_of_getElem? (i := 10) rfl)) rfl, Ts_in (in_s3 _ (List.mem_of_getElem? (i := 2) rfl)) rfl⟩⟩
theorem mo_9_readPromiseClause : MO m9_readPromiseClause 0 false := ⟨Ts_in (in_t5 _ (List.mem_of_getElem? (i := 20) rfl)) rfl, Ts_in (in_t1 _ (List.mem_of_getElem? (i := 5) rfl)) rfl, ⟨by decide +kernel, by decide +kernel, by decide +kernel⟩, ⟨Ts_in (in_t5 _ (List.mem_of_getElem? (i := 19) rfl)) rfl, Ts_in (in_s3 _ (List.mem_of_getElem? (i := 4) rfl)) rfl⟩⟩
theorem mo_9_readStoreClause : MO m9_readStoreClause 0 false := ⟨Ts_in (in_t5 _ (List.mem_of_getElem? (i := 25) rfl)) rfl, Ts_in (in_t1 _ (List.mem_of_getElem? (i := 5) rfl)) rfl, ⟨by decide +kernel, by decide +kernel, by decide +kernel⟩, ⟨Ts_in (in_t5 _ (List.mem_of_getElem? (i := 24) rfl)) rfl, Ts_in (in_s3 _ (List.mem_of_getElem? (i := 5) rfl)) rfl⟩⟩
theorem mo_9_readNumberOf : MO m9_readNumberOf 3 false := ⟨Ts_in (in_t5 _ (List.mem_of_getElem? (i := 15) rfl)) rfl, Ts_in (in_t1 _ (List.mem_of_getElem? (i := 5) rfl)) rfl, ⟨by decide +kernel, by decide +kernel, by decide +kernel⟩, ⟨Ts_in (in_t5 _ (List.mem_of_getElem? (i := 14) rfl)) rfl, Ts_in (in_s3 _ (List.mem_of_getElem? (i := 3) rfl)) rfl⟩⟩
theorem mo_9_readNumber : MO m9_readNumber 2 false := ⟨Ts_in (in_t4 _ (List.mem_of_getElem? (i := 224) rfl)) rfl, Ts_in (in_t1 _ (List.mem_of_getElem? (i := 5) rfl)) rfl, ⟨by decide +kernel, by decide +kernel, by decide +kernel⟩, ⟨Ts_in (in_t4 _ (List.mem_of_getElem? (i := 223) rfl)) rfl, Ts_in (in_s2 _ (List.mem_of_getElem? (i := 14) rfl)) rfl⟩⟩
theorem mo_9_checkNumber : MO m9_checkNumber 2 false := ⟨Ts_in (in_t4 _ (List.mem_of_getElem? (i := 228) rfl)) rfl, Ts_in (in_t1 _ (List.mem_of_getElem? (i := 5) rfl)) rfl, ⟨by decide +kernel, by decide +kernel, by decide +kernel⟩, ⟨Ts_in (in_t4 _ (List.mem_of_getElem? (i := 227) rfl)) rfl, Ts_in (in_s2 _ (List.mem_of_getElem? (i := 15) rfl)) rfl⟩⟩
theorem mo_9_readSign : MO m9_readSign 0 false := ⟨Ts_in (in_t4 _ (List.mem_of_getElem? (i := 232) rfl)) rfl, Ts_in (in_t1 _ (List.mem_of_getElem? (i := 5) rfl)) rfl, ⟨by decide +kernel, by decide +kernel, by decide +kernel⟩, ⟨Ts_in (in_t4 _ (List.mem_of_getElem? (i := 231) rfl)) rfl, Ts_in (in_s3 _ (List.mem_of_getElem? (i := 0) rfl)) rfl⟩⟩
theorem mo_10_begin : MO m10_begin 1 false := ⟨Ts_in (in_t3 _ (List.mem_of_getElem? (i := 223) rfl)) rfl, Ts_in (in_t1 _ (List.mem_of_getElem? (i := 9) rfl)) rfl, ⟨by decide +kernel, by decide +kernel, by decide +kernel⟩, ⟨Ts_in (in_t3 _ (List.mem_of_getElem? (i := 222) rfl)) rfl, Ts_in (in_s2 _ (List.mem_of_getElem? (i := 1) rfl)) rfl⟩⟩
theorem mo_10_goRound : MO m10_goRound 2 false := ⟨Ts_in (in_t6 _ (List.mem_of_getElem? (i := 203) rfl)) rfl, Ts_in (in_t1 _ (List.mem_of_getElem? (i := 9) rfl)) rfl, ⟨by decide +kernel, by decide +kernel, by decide +kernel⟩, ⟨Ts_in (in_t6 _ (List.mem_of_getElem? (i := 201) rfl)) rfl, Ts_in (in_t6 _ (List.mem_of_getElem? (i := 202) rfl)) rfl⟩⟩
theorem mo_10_findOrders : MO m10_findOrders 1 false := ⟨Ts_in (in_t3 _ (List.mem_of_getElem? (i := 219) rfl)) rfl, Ts_in (in_t1 _ (List.mem_of_getElem? (i := 9) rfl)) rfl, ⟨by decide +kernel, by decide +kernel, by decide +kernel⟩, ⟨Ts_in (in_t3 _ (List.mem_of_getElem? (i := 217) rfl)) rfl, Ts_in (in_t3 _ (List.mem_of_getElem? (i := 218) rfl)) rfl⟩⟩
theorem mo_10_lineUp : MO m10_lineUp 3 false := ⟨Ts_in (in_t3 _ (List.mem_of_getElem? (i := 228) rfl)) rfl, Ts_in (in_t1 _ (List.mem_of_getElem? (i := 9) rfl)) rfl, ⟨by decide +kernel, by decide +kernel, by decide +kernel⟩, ⟨Ts_in (in_t3 _ (List.mem_of_getElem? (i := 227) rfl)) rfl, Ts_in (in_s2 _ (List.mem_of_getElem? (i := 2) rfl)) rfl⟩⟩
theorem mo_10_withdraw : MO m10_withdraw 2 false := ⟨Ts_in (in_t3 _ (List.mem_of_getElem? (i := 233) rfl)) rfl, Ts_in (in_t1 _ (List.mem_of_getElem? (i := 9) rfl)) rfl, ⟨by decide +kernel, by decide +kernel, by decide +kernel⟩, ⟨Ts_in (in_t3 _ (List.mem_of_getElem? (i := 232) rfl)) rfl, Ts_in (in_s2 _ (List.mem_of_getElem? (i := 3) rfl)) rfl⟩⟩
theorem mo_11_feed : MO m11_feed 5 false := ⟨Ts_in (in_t4 _ (List.mem_of_getElem? (i := 154) rfl)) rfl, Ts_in (in_t1 _ (List.mem_of_getElem? (i := 1) rfl)) rfl, ⟨by decide +kernel, by decide +kernel, by decide +kernel⟩, ⟨Ts_in (in_t4 _ (List.mem_of_getElem? (i := 152) rfl)) rfl, Ts_in (in_t4 _ (List.mem_of_getElem? (i := 153) rfl)) rfl⟩⟩
theorem mo_11_putOnTape : MO m11_putOnTape 1 false := ⟨Ts_in (in_t4 _ (List.mem_of_getElem? (i := 158) rfl)) rfl, Ts_in (in_t1 _ (List.mem_of_getElem? (i := 1) rfl)) rfl, ⟨by decide +kernel, by decide +kernel, by decide +kernel⟩, ⟨Ts_in (in_t4 _ (List.mem_of_getElem? (i := 157) rfl)) rfl, Ts_in (in_s2 _ (List.mem_of_getElem? (i := 7) rfl)) rfl⟩⟩
theorem mo_11_desk : MO m11_desk 1 false := ⟨Ts_in (in_t4 _ (List.mem_of_getElem? (i := 162) rfl)) rfl, Ts_in (in_t1 _ (List.mem_of_getElem? (i := 1) rfl)) rfl, ⟨by decide +kernel, by decide +kernel, by decide +kernel⟩, ⟨Ts_in (in_t4 _ (List.mem_of_getElem? (i := 160) rfl)) rfl, Ts_in (in_t4 _ (List.mem_of_getElem? (i := 161) rfl)) rfl⟩⟩
theorem mo_11_count : MO m11_count 1 false := ⟨Ts_in (in_t2 _ (List.mem_of_getElem? (i := 177) rfl)) rfl, Ts_in (in_t1 _ (List.mem_of_getElem? (i := 1) rfl)) rfl, ⟨by decide +kernel, by decide +kernel, by decide +kernel⟩, ⟨Ts_in (in_t2 _ (List.mem_of_getElem? (i := 175) rfl)) rfl, Ts_in (in_t2 _ (List.mem_of_getElem? (i := 176) rfl)) rfl⟩⟩
theorem mo_11_countInStock : MO m11_countInStock 1 false := ⟨Ts_in (in_t2 _ (List.mem_of_getElem? (i := 181) rfl)) rfl, Ts_in (in_t1 _ (List.mem_of_getElem? (i := 1) rfl)) rfl, ⟨by decide +kernel, by decide +kernel, by decide +kernel⟩, ⟨Ts_in (in_t2 _ (List.mem_of_getElem? (i := 180) rfl)) rfl, Ts_in (in_s1 _ (List.mem_of_getElem? (i := 0) rfl)) rfl⟩⟩
theorem mo_11_countOfPlan : MO m11_countOfPlan 1 false := ⟨Ts_in (in_t2 _ (List.mem_of_getElem? (i := 232) rfl)) rfl, Ts_in (in_t1 _ (List.mem_of_getElem? (i := 1) rfl)) rfl, ⟨by decide +kernel, by decide +kernel, by decide +kernel⟩, ⟨Ts_in (in_t2 _ (List.mem_of_getElem? (i := 231) rfl)) rfl, Ts_in (in_s1 _ (List.mem_of_getElem? (i := 1) rfl)) rfl⟩⟩
theorem mo_11_countOfShortage : MO m11_countOfShortage 1 false := ⟨Ts_in (in_t3 _ (List.mem_of_getElem? (i := 108) rfl)) rfl, Ts_in (in_t1 _ (List.mem_of_getElem? (i := 1) rfl)) rfl, ⟨by decide +kernel, by decide +kernel, by decide +kernel⟩, ⟨Ts_in (in_t3 _ (List.mem_of_getElem? (i := 107) rfl)) rfl, Ts_in (in_s1 _ (List.mem_of_getElem? (i := 10) rfl)) rfl⟩⟩
theorem mo_11_countOfDesk : MO m11_countOfDesk 1 false := ⟨Ts_in (in_t3 _ (List.mem_of_getElem? (i := 173) rfl)) rfl, Ts_in (in_t1 _ (List.mem_of_getElem? (i := 1) rfl)) rfl, ⟨by decide +kernel, by decide +kernel, by decide +kernel⟩, ⟨Ts_in (in_t3 _ (List.mem_of_getElem? (i := 172) rfl)) rfl, Ts_in (in_s1 _ (List.mem_of_getElem? (i := 12) rfl)) rfl⟩⟩
theorem mo_11_library : MO m11_library 2 false := ⟨Ts_in (in_t6 _ (List.mem_of_getElem? (i := 169) rfl)) rfl, Ts_in (in_t1 _ (List.mem_of_getElem? (i := 1) rfl)) rfl, ⟨by decide +kernel, by decide +kernel, by decide +kernel⟩, ⟨Ts_in (in_t6 _ (List.mem_of_getElem? (i := 167) rfl)) rfl, Ts_in (in_t6 _ (List.mem_of_getElem? (i := 168) rfl)) rfl⟩⟩
theorem mo_11_work : MO m11_work 2 false := ⟨Ts_in (in_t6 _ (List.mem_of_getElem? (i := 138) rfl)) rfl, Ts_in (in_t1 _ (List.mem_of_getElem? (i := 1) rfl)) rfl, ⟨by decide +kernel, by decide +kernel, by decide +kernel⟩, ⟨Ts_in (in_t6 _ (List.mem_of_getElem? (i := 136) rfl)) rfl, Ts_in (in_t6 _ (List.mem_of_getElem? (i := 137) rfl)) rfl⟩⟩
theorem mo_11_held : MO m11_held 3 false := ⟨Ts_in (in_t6 _ (List.mem_of_getElem? (i := 124) rfl)) rfl, Ts_in (in_t1 _ (List.mem_of_getElem? (i := 1) rfl)) rfl, ⟨by decide +kernel, by decide +kernel, by decide +kernel⟩, ⟨Ts_in (in_t6 _ (List.mem_of_getElem? (i := 122) rfl)) rfl, Ts_in (in_t6 _ (List.mem_of_getElem? (i := 123) rfl)) rfl⟩⟩
theorem mo_11_lack : MO m11_lack 1 false := ⟨Ts_in (in_t6 _ (List.mem_of_getElem? (i := 120) rfl)) rfl, Ts_in (in_t1 _ (List.mem_of_getElem? (i := 1) rfl)) rfl, ⟨by decide +kernel, by decide +kernel, by decide +kernel⟩, ⟨Ts_in (in_t6 _ (List.mem_of_getElem? (i := 118) rfl)) rfl, Ts_in (in_t6 _ (List.mem_of_getElem? (i := 119) rfl)) rfl⟩⟩
theorem mo_11_own : MO m11_own 3 false := ⟨Ts_in (in_t6 _ (List.mem_of_getElem? (i := 31) rfl)) rfl, Ts_in (in_t1 _ (List.mem_of_getElem? (i := 1) rfl)) rfl, ⟨by decide +kernel, by decide +kernel, by decide +kernel⟩, ⟨Ts_in (in_t6 _ (List.mem_of_getElem? (i := 29) rfl)) rfl, Ts_in (in_t6 _ (List.mem_of_getElem? (i := 30) rfl)) rfl⟩⟩
theorem mo_11_promise : MO m11_promise 4 false := ⟨Ts_in (in_t6 _ (List.mem_of_getElem? (i := 61) rfl)) rfl, Ts_in (in_t1 _ (List.mem_of_getElem? (i := 1) rfl)) rfl, ⟨by decide +kernel, by decide +kernel, by decide +kernel⟩, ⟨Ts_in (in_t6 _ (List.mem_of_getElem? (i := 59) rfl)) rfl, Ts_in (in_t6 _ (List.mem_of_getElem? (i := 60) rfl)) rfl⟩⟩
theorem mo_11_keep : MO m11_keep 2 false := ⟨Ts_in (in_t6 _ (List.mem_of_getElem? (i := 66) rfl)) rfl, Ts_in (in_t1 _ (List.mem_of_getElem? (i := 1) rfl)) rfl, ⟨by decide +kernel, by decide +kernel, by decide +kernel⟩, ⟨Ts_in (in_t6 _ (List.mem_of_getElem? (i := 64) rfl)) rfl, Ts_in (in_t6 _ (List.mem_of_getElem? (i := 65) rfl)) rfl⟩⟩
theorem mo_11_room : MO m11_room 3 false := ⟨Ts_in (in_t6 _ (List.mem_of_getElem? (i := 72) rfl)) rfl, Ts_in (in_t1 _ (List.mem_of_getElem? (i := 1) rfl)) rfl, ⟨by decide +kernel, by decide +kernel, by decide +kernel⟩, ⟨Ts_in (in_t6 _ (List.mem_of_getElem? (i := 70) rfl)) rfl, Ts_in (in_t6 _ (List.mem_of_getElem? (i := 71) rfl)) rfl⟩⟩
theorem mo_11_go : MO m11_go 2 false := ⟨Ts_in (in_t6 _ (List.mem_of_getElem? (i := 77) rfl)) rfl, Ts_in (in_t1 _ (List.mem_of_getElem? (i := 1) rfl)) rfl, ⟨by decide +kernel, by decide +kernel, by decide +kernel⟩, ⟨Ts_in (in_t6 _ (List.mem_of_getElem? (i := 75) rfl)) rfl, Ts_in (in_t6 _ (List.mem_of_getElem? (i := 76) rfl)) rfl⟩⟩
theorem mo_11_give : MO m11_give 3 false := ⟨Ts_in (in_t6 _ (List.mem_of_getElem? (i := 87) rfl)) rfl, Ts_in (in_t1 _ (List.mem_of_getElem? (i := 1) rfl)) rfl, ⟨by decide +kernel, by decide +kernel, by decide +kernel⟩, ⟨Ts_in (in_t6 _ (List.mem_of_getElem? (i := 85) rfl)) rfl, Ts_in (in_t6 _ (List.mem_of_getElem? (i := 86) rfl)) rfl⟩⟩
theorem mo_11_send : MO m11_send 2 false := ⟨Ts_in (in_t6 _ (List.mem_of_getElem? (i := 108) rfl)) rfl, Ts_in (in_t1 _ (List.mem_of_getElem? (i := 1) rfl)) rfl, ⟨by decide +kernel, by decide +kernel, by decide +kernel⟩, ⟨Ts_in (in_t6 _ (List.mem_of_getElem? (i := 106) rfl)) rfl, Ts_in (in_t6 _ (List.mem_of_getElem? (i := 107) rfl)) rfl⟩⟩
theorem mo_11_carry : MO m11_carry 0 false := ⟨Ts_in (in_t6 _ (List.mem_of_getElem? (i := 92) rfl)) rfl, Ts_in (in_t1 _ (List.mem_of_getElem? (i := 1) rfl)) rfl, ⟨by decide +kernel, by decide +kernel, by decide +kernel⟩, ⟨Ts_in (in_t6 _ (List.mem_of_getElem? (i := 90) rfl)) rfl, Ts_in (in_t6 _ (List.mem_of_getElem? (i := 91) rfl)) rfl⟩⟩
theorem mo_11_years : MO m11_years 1 false := ⟨Ts_in (in_t6 _ (List.mem_of_getElem? (i := 104) rfl)) rfl, Ts_in (in_t1 _ (List.mem_of_getElem? (i := 1) rfl)) rfl, ⟨by decide +kernel, by decide +kernel, by decide +kernel⟩, ⟨Ts_in (in_t6 _ (List.mem_of_getElem? (i := 102) rfl)) rfl, Ts_in (in_t6 _ (List.mem_of_getElem? (i := 103) rfl)) rfl⟩⟩
theorem mo_11_undo : MO m11_undo 0 false := ⟨Ts_in (in_t4 _ (List.mem_of_getElem? (i := 61) rfl)) rfl, Ts_in (in_t1 _ (List.mem_of_getElem? (i := 1) rfl)) rfl, ⟨by decide +kernel, by decide +kernel, by decide +kernel⟩, ⟨Ts_in (in_t4 _ (List.mem_of_getElem? (i := 59) rfl)) rfl, Ts_in (in_t4 _ (List.mem_of_getElem? (i := 60) rfl)) rfl⟩⟩
theorem mo_11_image : MO m11_image 0 false := ⟨Ts_in (in_t4 _ (List.mem_of_getElem? (i := 81) rfl)) rfl, Ts_in (in_t1 _ (List.mem_of_getElem? (i := 1) rfl)) rfl, ⟨by decide +kernel, by decide +kernel, by decide +kernel⟩, ⟨Ts_in (in_t4 _ (List.mem_of_getElem? (i := 79) rfl)) rfl, Ts_in (in_t4 _ (List.mem_of_getElem? (i := 80) rfl)) rfl⟩⟩
theorem mo_11_restore : MO m11_restore 0 false := ⟨Ts_in (in_t4 _ (List.mem_of_getElem? (i := 96) rfl)) rfl, Ts_in (in_t1 _ (List.mem_of_getElem? (i := 1) rfl)) rfl, ⟨by decide +kernel, by decide +kernel, by decide +kernel⟩, ⟨Ts_in (in_t4 _ (List.mem_of_getElem? (i := 94) rfl)) rfl, Ts_in (in_t4 _ (List.mem_of_getElem? (i := 95) rfl)) rfl⟩⟩
theorem mo_11_refuseAct : MO m11_refuseAct 0 false := ⟨Ts_in (in_t6 _ (List.mem_of_getElem? (i := 47) rfl)) rfl, Ts_in (in_t1 _ (List.mem_of_getElem? (i := 1) rfl)) rfl, ⟨by decide +kernel, by decide +kernel, by decide +kernel⟩, ⟨Ts_in (in_t6 _ (List.mem_of_getElem? (i := 46) rfl)) rfl, Ts_in (in_s3 _ (List.mem_of_getElem? (i := 6) rfl)) rfl⟩⟩
theorem mo_11_act : MO m11_act 4 false := ⟨Ts_in (in_t6 _ (List.mem_of_getElem? (i := 53) rfl)) rfl, Ts_in (in_t1 _ (List.mem_of_getElem? (i := 1) rfl)) rfl, ⟨by decide +kernel, by decide +kernel, by decide +kernel⟩, ⟨Ts_in (in_t6 _ (List.mem_of_getElem? (i := 52) rfl)) rfl, Ts_in (in_s3 _ (List.mem_of_getElem? (i := 7) rfl)) rfl⟩⟩
theorem mo_11_refreshPlan : MO m11_refreshPlan 0 false := ⟨Ts_in (in_t2 _ (List.mem_of_getElem? (i := 236) rfl)) rfl, Ts_in (in_t1 _ (List.mem_of_getElem? (i := 1) rfl)) rfl, ⟨by decide +kernel, by decide +kernel, by decide +kernel⟩, ⟨Ts_in (in_t2 _ (List.mem_of_getElem? (i := 235) rfl)) rfl, Ts_in (in_s1 _ (List.mem_of_getElem? (i := 2) rfl)) rfl⟩⟩
theorem mo_11_pairOf : MO m11_pairOf 2 true := ⟨Ts_in (in_t3 _ (List.mem_of_getElem? (i := 73) rfl)) rfl, Ts_in (in_t1 _ (List.mem_of_getElem? (i := 1) rfl)) rfl, ⟨by decide +kernel, by decide +kernel, by decide +kernel⟩, Ts_in (in_t3 _ (List.mem_of_getElem? (i := 72) rfl)) rfl⟩
