theorem tb_1 {w : Cond} (h : w ∈ tables_1_1) : w ∈ tables_1 := List.mem_append_left _ h
theorem tb_2 {w : Cond} (h : w ∈ tables_1_2) : w ∈ tables_1 := List.mem_append_right _ (List.mem_append_left _ h)
theorem tb_3 {w : Cond} (h : w ∈ tables_1_3) : w ∈ tables_1 := List.mem_append_right _ (List.mem_append_right _ (List.mem_append_left _ h))
theorem tb_4 {w : Cond} (h : w ∈ tables_1_4) : w ∈ tables_1 := List.mem_append_right _ (List.mem_append_right _ (List.mem_append_right _ (List.mem_append_left _ h)))
theorem tb_5 {w : Cond} (h : w ∈ tables_1_5) : w ∈ tables_1 := List.mem_append_right _ (List.mem_append_right _ (List.mem_append_right _ (List.mem_append_right _ h)))
def mX6_init : MI := (yX6_init, cX6_init, 4, none)
def mX2_init : MI := (yX2_init, cX2_init, 1, none)
def mX3_init : MI := (yX3_init, cX3_init, 1, none)
def mX1_init : MI := (yX1_init, cX1_init, 2, none)
def mJ7_copyOf_59c91 : MI := (yJ7_copyOf_59c91, cJ7_copyOf_59c91, 3, some (.array .int))
def mJ9_min_7cf53 : MI := (yJ9_min_7cf53, cJ9_min_7cf53, 2, some .int)
def mX4_init : MI := (yX4_init, cX4_init, 3, none)
def mX0_init : MI := (yX0_init, cX0_init, 1, none)
def mX5_init : MI := (yX5_init, cX5_init, 1, none)
def mX6_ring : MI := (yX6_ring, cX6_ring, 4, some .int)
def mX6_changeLength : MI := (yX6_changeLength, cX6_changeLength, 3, some .int)
def mX6_within : MI := (yX6_within, cX6_within, 3, some .boolean)
def mX6_car : MI := (yX6_car, cX6_car, 4, some .int)
def mX6_isCell : MI := (yX6_isCell, cX6_isCell, 2, some .boolean)
def mX6_isPace : MI := (yX6_isPace, cX6_isPace, 1, some .boolean)
def mX4_isTaken : MI := (yX4_isTaken, cX4_isTaken, 4, some .boolean)
def mX4_addCar : MI := (yX4_addCar, cX4_addCar, 4, some .int)
def mX0_begin : MI := (yX0_begin, cX0_begin, 4, none)
def mX6_evenly : MI := (yX6_evenly, cX6_evenly, 4, some .int)
def mX6_set : MI := (yX6_set, cX6_set, 6, some .int)
def mX6_isCar : MI := (yX6_isCar, cX6_isCar, 2, some .boolean)
def mX6_told : MI := (yX6_told, cX6_told, 4, some .int)
def mX4_lookFrom : MI := (yX4_lookFrom, cX4_lookFrom, 8, none)
def mX4_cellsOn : MI := (yX4_cellsOn, cX4_cellsOn, 3, some .int)
def mX6_type : MI := (yX6_type, cX6_type, 5, some .int)
def mX6_byteOf : MI := (yX6_byteOf, cX6_byteOf, 3, some .int)
def mX3_append : MI := (yX3_append, cX3_append, 2, none)
def mX6_habit : MI := (yX6_habit, cX6_habit, 3, some .int)
def mX3_readHabit : MI := (yX3_readHabit, cX3_readHabit, 4, some .boolean)
def mX3_newLabel : MI := (yX3_newLabel, cX3_newLabel, 2, some .int)
def mX3_readTest : MI := (yX3_readTest, cX3_readTest, 6, some .boolean)
def mX3_readCase : MI := (yX3_readCase, cX3_readCase, 7, some .boolean)
def mX3_take : MI := (yX3_take, cX3_take, 2, some .boolean)
def mX3_next : MI := (yX3_next, cX3_next, 1, some .int)
def mX3_readBare : MI := (yX3_readBare, cX3_readBare, 5, some .boolean)
def mX3_addClaim : MI := (yX3_addClaim, cX3_addClaim, 4, none)
def mX3_readComparison : MI := (yX3_readComparison, cX3_readComparison, 5, some .boolean)
def mX3_isDigit : MI := (yX3_isDigit, cX3_isDigit, 1, some .boolean)
def mX3_readNumber : MI := (yX3_readNumber, cX3_readNumber, 2, some .int)
def mX3_join : MI := (yX3_join, cX3_join, 3, none)
def mX3_fix : MI := (yX3_fix, cX3_fix, 3, none)
def mX3_readAct : MI := (yX3_readAct, cX3_readAct, 2, some .boolean)
def mX3_endClause : MI := (yX3_endClause, cX3_endClause, 3, none)
def mX3_followLabels : MI := (yX3_followLabels, cX3_followLabels, 2, none)
def mX3_follow : MI := (yX3_follow, cX3_follow, 4, some .int)
def mX6_holds : MI := (yX6_holds, cX6_holds, 3, some .int)
def mX1_clauseFor : MI := (yX1_clauseFor, cX1_clauseFor, 8, some .int)
def mX1_isSo : MI := (yX1_isSo, cX1_isSo, 3, some .boolean)
def mX6_board : MI := (yX6_board, cX6_board, 4, some .int)
def mX4_addBoard : MI := (yX4_addBoard, cX4_addBoard, 4, some .int)
def mX6_loop : MI := (yX6_loop, cX6_loop, 2, some .int)
def mX4_addLoop : MI := (yX4_addLoop, cX4_addLoop, 2, some .int)
def mX6_looped : MI := (yX6_looped, cX6_looped, 3, some .int)
def mX6_tap : MI := (yX6_tap, cX6_tap, 3, some .int)
def mX6_ticks : MI := (yX6_ticks, cX6_ticks, 2, some .int)
def mX4_run : MI := (yX4_run, cX4_run, 3, none)
def mX4_tick : MI := (yX4_tick, cX4_tick, 2, none)
def mX4_lookFromAll : MI := (yX4_lookFromAll, cX4_lookFromAll, 2, none)
def mX0_note : MI := (yX0_note, cX0_note, 2, none)
def mX0_placeOf : MI := (yX0_placeOf, cX0_placeOf, 1, some .int)
def mX0_decide : MI := (yX0_decide, cX0_decide, 4, none)
def mJ9_max_7cf53 : MI := (yJ9_max_7cf53, cJ9_max_7cf53, 2, some .int)
def mX1_paceBy : MI := (yX1_paceBy, cX1_paceBy, 3, some .int)
def mX1_changesBy : MI := (yX1_changesBy, cX1_changesBy, 2, some .boolean)
def mX4_changeLanes : MI := (yX4_changeLanes, cX4_changeLanes, 4, some .boolean)
def mX4_hasRoomBeside : MI := (yX4_hasRoomBeside, cX4_hasRoomBeside, 6, some .boolean)
def mX4_limitAt : MI := (yX4_limitAt, cX4_limitAt, 4, some .int)
def mX0_settlePace : MI := (yX0_settlePace, cX0_settlePace, 2, none)
def mX4_goOn : MI := (yX4_goOn, cX4_goOn, 4, none)
def mX4_markFirst : MI := (yX4_markFirst, cX4_markFirst, 2, none)
def mX4_isEven : MI := (yX4_isEven, cX4_isEven, 2, some .boolean)
def mX6_count : MI := (yX6_count, cX6_count, 2, some .int)
def mX2_findIn : MI := (yX2_findIn, cX2_findIn, 3, some .int)
def mX2_isHead : MI := (yX2_isHead, cX2_isHead, 3, some .boolean)
def mX2_isLeastOfSlowLane : MI := (yX2_isLeastOfSlowLane, cX2_isLeastOfSlowLane, 5, some .boolean)
def mX2_sizeBehind : MI := (yX2_sizeBehind, cX2_sizeBehind, 6, some .int)
def mX2_insert : MI := (yX2_insert, cX2_insert, 5, none)
def mX2_comesAhead : MI := (yX2_comesAhead, cX2_comesAhead, 2, some .boolean)
def mX2_carsIn : MI := (yX2_carsIn, cX2_carsIn, 4, some .int)
def mX6_knot : MI := (yX6_knot, cX6_knot, 3, some .int)
def mX6_first : MI := (yX6_first, cX6_first, 1, some .int)
def mX6_cost : MI := (yX6_cost, cX6_cost, 5, some .int)
def mX6_foretell : MI := (yX6_foretell, cX6_foretell, 4, none)
def mX4_takeFrom : MI := (yX4_takeFrom, cX4_takeFrom, 3, none)
def mX0_takeFrom : MI := (yX0_takeFrom, cX0_takeFrom, 2, none)
def mX4_takeBoardsAndLoops : MI := (yX4_takeBoardsAndLoops, cX4_takeBoardsAndLoops, 3, none)
def mX4_cellsGone : MI := (yX4_cellsGone, cX4_cellsGone, 4, some .int)
def mX6_after : MI := (yX6_after, cX6_after, 3, some .int)
def mX6_calmed : MI := (yX6_calmed, cX6_calmed, 6, some .int)
def mJ6_bitCount_0f7a4 : MI := (yJ6_bitCount_0f7a4, cJ6_bitCount_0f7a4, 1, some .int)
def mX6_isCalmWith : MI := (yX6_isCalmWith, cX6_isCalmWith, 5, some .boolean)
def mX6_round : MI := (yX6_round, cX6_round, 3, some .int)
def mX4_isLike : MI := (yX4_isLike, cX4_isLike, 3, some .boolean)
def mX0_isLike : MI := (yX0_isLike, cX0_isLike, 2, some .boolean)
def mX0_remembersLike : MI := (yX0_remembersLike, cX0_remembersLike, 7, some .boolean)
def mX6_evens : MI := (yX6_evens, cX6_evens, 3, some .int)
def mX6_image : MI := (yX6_image, cX6_image, 2, some .int)
def mX6_restore : MI := (yX6_restore, cX6_restore, 2, some .int)
def mX6_paces : MI := (yX6_paces, cX6_paces, 7, some .int)
def mX6_isSheet : MI := (yX6_isSheet, cX6_isSheet, 1, some .boolean)
def mX5_lookedAt : MI := (yX5_lookedAt, cX5_lookedAt, 4, some .int)
def mX5_hasItems : MI := (yX5_hasItems, cX5_hasItems, 3, some .boolean)
def mX6_taps : MI := (yX6_taps, cX6_taps, 7, some .int)
def mX6_sheet : MI := (yX6_sheet, cX6_sheet, 4, some .int)
def mX5_begin : MI := (yX5_begin, cX5_begin, 3, none)
def mJ7_fill_53178 : MI := (yJ7_fill_53178, cJ7_fill_53178, 4, none)
def mX6_drop : MI := (yX6_drop, cX6_drop, 3, some .int)
def mX6_item : MI := (yX6_item, cX6_item, 6, some .int)
def mX5_put : MI := (yX5_put, cX5_put, 3, none)
def mX6_copy : MI := (yX6_copy, cX6_copy, 8, some .int)
def mX7_init : MI := (yX7_init, cX7_init, 2, none)
def mX7_ring : MI := (yX7_ring, cX7_ring, 4, some .int)
def mX7_in : MI := (yX7_in, cX7_in, 6, some .boolean)
def mX7_car : MI := (yX7_car, cX7_car, 4, some .int)
def mX7_carAt : MI := (yX7_carAt, cX7_carAt, 5, some .int)
def mX7_of : MI := (yX7_of, cX7_of, 4, some .int)
def mX7_put : MI := (yX7_put, cX7_put, 6, none)
def mX7_at : MI := (yX7_at, cX7_at, 3, some .int)
def mX7_evenly : MI := (yX7_evenly, cX7_evenly, 4, some .int)
def mX7_set : MI := (yX7_set, cX7_set, 5, some .int)
def mX7_isCar : MI := (yX7_isCar, cX7_isCar, 2, some .boolean)
def mX7_told : MI := (yX7_told, cX7_told, 3, some .int)
def mX7_gap : MI := (yX7_gap, cX7_gap, 4, some .int)
def mX7_ahead : MI := (yX7_ahead, cX7_ahead, 7, some .int)
def mX7_on : MI := (yX7_on, cX7_on, 5, some .int)
def mX7_other : MI := (yX7_other, cX7_other, 6, some .int)
def mX7_type : MI := (yX7_type, cX7_type, 5, some .int)
def mX7_habit : MI := (yX7_habit, cX7_habit, 5, some .int)
def mX7_clauses : MI := (yX7_clauses, cX7_clauses, 3, some .int)
def mX7_test : MI := (yX7_test, cX7_test, 3, some .boolean)
def mX7_look : MI := (yX7_look, cX7_look, 1, some .int)
def mX7_claim : MI := (yX7_claim, cX7_claim, 3, some .boolean)
def mX7_isDigit : MI := (yX7_isDigit, cX7_isDigit, 2, some .boolean)
def mX7_act : MI := (yX7_act, cX7_act, 2, some .boolean)
def mX7_holds : MI := (yX7_holds, cX7_holds, 2, some .int)
def mX7_slower : MI := (yX7_slower, cX7_slower, 3, some .int)
def mX7_clause : MI := (yX7_clause, cX7_clause, 12, some .int)
def mX7_testHolds : MI := (yX7_testHolds, cX7_testHolds, 9, some .boolean)
def mX7_sign : MI := (yX7_sign, cX7_sign, 1, some .int)
def mX7_claimHolds : MI := (yX7_claimHolds, cX7_claimHolds, 10, some .boolean)
def mX7_take : MI := (yX7_take, cX7_take, 2, some .int)
def mX7_digits : MI := (yX7_digits, cX7_digits, 2, some .int)
def mX7_board : MI := (yX7_board, cX7_board, 5, some .int)
def mX7_loop : MI := (yX7_loop, cX7_loop, 3, some .int)
def mX7_looped : MI := (yX7_looped, cX7_looped, 3, some .int)
def mX7_tap : MI := (yX7_tap, cX7_tap, 3, some .int)
def mX7_ticks : MI := (yX7_ticks, cX7_ticks, 3, some .int)
def mX7_tick : MI := (yX7_tick, cX7_tick, 4, none)
def mX7_note : MI := (yX7_note, cX7_note, 5, none)
def mX7_decide : MI := (yX7_decide, cX7_decide, 6, none)
def mX7_hasRoom : MI := (yX7_hasRoom, cX7_hasRoom, 7, some .boolean)
def mX7_limited : MI := (yX7_limited, cX7_limited, 8, some .int)
def mX7_goOn : MI := (yX7_goOn, cX7_goOn, 7, none)
def mX7_noteFirst : MI := (yX7_noteFirst, cX7_noteFirst, 4, none)
def mX7_isEven : MI := (yX7_isEven, cX7_isEven, 4, some .boolean)
def mX7_count : MI := (yX7_count, cX7_count, 4, some .int)
def mX7_findKnots : MI := (yX7_findKnots, cX7_findKnots, 9, none)
def mX7_isSlow : MI := (yX7_isSlow, cX7_isSlow, 3, some .boolean)
def mX7_addKnot : MI := (yX7_addKnot, cX7_addKnot, 6, none)
def mX7_behind : MI := (yX7_behind, cX7_behind, 4, some .int)
def mX7_knot : MI := (yX7_knot, cX7_knot, 3, some .int)
def mX7_first : MI := (yX7_first, cX7_first, 1, some .int)
def mX7_cost : MI := (yX7_cost, cX7_cost, 5, some .int)
def mX7_copyRing : MI := (yX7_copyRing, cX7_copyRing, 4, none)
def mX7_wentAll : MI := (yX7_wentAll, cX7_wentAll, 5, some .int)
def mX7_after : MI := (yX7_after, cX7_after, 3, some .int)
def mX7_knotsAfter : MI := (yX7_knotsAfter, cX7_knotsAfter, 5, some .int)
def mX7_calmed : MI := (yX7_calmed, cX7_calmed, 5, some .int)
def mX7_bits : MI := (yX7_bits, cX7_bits, 3, some .int)
def mX7_round : MI := (yX7_round, cX7_round, 3, some .int)
def mX7_isSame : MI := (yX7_isSame, cX7_isSame, 7, some .boolean)
def mX7_evens : MI := (yX7_evens, cX7_evens, 3, some .int)
def mX7_image : MI := (yX7_image, cX7_image, 2, some .int)
def mX7_restore : MI := (yX7_restore, cX7_restore, 2, some .int)
def mX7_paces : MI := (yX7_paces, cX7_paces, 6, some .int)
def mX7_isSheet : MI := (yX7_isSheet, cX7_isSheet, 1, some .boolean)
def mX7_row : MI := (yX7_row, cX7_row, 5, some .int)
def mX7_taps : MI := (yX7_taps, cX7_taps, 6, some .int)
def mX7_sheet : MI := (yX7_sheet, cX7_sheet, 5, some .int)
def mX7_drop : MI := (yX7_drop, cX7_drop, 2, some .int)
def mX7_item : MI := (yX7_item, cX7_item, 6, some .int)
def mX7_copy : MI := (yX7_copy, cX7_copy, 7, some .int)
theorem kIn_0 : ∀ w ∈ u_ws RX0 TX0 (kNF 0), w ∈ tables_1 ∧ goodWord w = true := by decide +kernel
theorem kCl_0 : kCl 0 RX0 TX0 := ⟨rfl, fun w h => gT_of (kIn_0 w h).1 (kIn_0 w h).2, tyX0_ok, nmX0, by decide +kernel, by decide⟩
theorem kIn_1 : ∀ w ∈ u_ws RX1 TX1 (kNF 1), w ∈ tables_1 ∧ goodWord w = true := by decide +kernel
theorem kCl_1 : kCl 1 RX1 TX1 := ⟨rfl, fun w h => gT_of (kIn_1 w h).1 (kIn_1 w h).2, tyX1_ok, nmX1, by decide +kernel, by decide⟩
theorem kIn_2 : ∀ w ∈ u_ws RX2 TX2 (kNF 2), w ∈ tables_1 ∧ goodWord w = true := by decide +kernel
theorem kCl_2 : kCl 2 RX2 TX2 := ⟨rfl, fun w h => gT_of (kIn_2 w h).1 (kIn_2 w h).2, tyX2_ok, nmX2, by decide +kernel, by decide⟩
theorem kIn_3 : ∀ w ∈ u_ws RX3 TX3 (kNF 3), w ∈ tables_1 ∧ goodWord w = true := by decide +kernel
theorem kCl_3 : kCl 3 RX3 TX3 := ⟨rfl, fun w h => gT_of (kIn_3 w h).1 (kIn_3 w h).2, tyX3_ok, nmX3, by decide +kernel, by decide⟩
theorem kIn_4 : ∀ w ∈ u_ws RX4 TX4 (kNF 4), w ∈ tables_1 ∧ goodWord w = true := by decide +kernel
theorem kCl_4 : kCl 4 RX4 TX4 := ⟨rfl, fun w h => gT_of (kIn_4 w h).1 (kIn_4 w h).2, tyX4_ok, nmX4, by decide +kernel, by decide⟩
theorem kIn_5 : ∀ w ∈ u_ws RX5 TX5 (kNF 5), w ∈ tables_1 ∧ goodWord w = true := by decide +kernel
theorem kCl_5 : kCl 5 RX5 TX5 := ⟨rfl, fun w h => gT_of (kIn_5 w h).1 (kIn_5 w h).2, tyX5_ok, nmX5, by decide +kernel, by decide⟩
theorem kIn_6 : ∀ w ∈ u_ws RX6 TX6 (kNF 6), w ∈ tables_1 ∧ goodWord w = true := by decide +kernel
theorem kCl_6 : kCl 6 RX6 TX6 := ⟨rfl, fun w h => gT_of (kIn_6 w h).1 (kIn_6 w h).2, tyX6_ok, nmX6, by decide +kernel, by decide⟩
theorem kIn_7 : ∀ w ∈ u_ws RX7 TX7 (kNF 7), w ∈ tables_1 ∧ goodWord w = true := by decide +kernel
theorem kCl_7 : kCl 7 RX7 TX7 := ⟨rfl, fun w h => gT_of (kIn_7 w h).1 (kIn_7 w h).2, tyX7_ok, nmX7, by decide +kernel, by decide⟩
theorem fg_X2_9 : kFG RX2 9 2 0 := ⟨RX2, TX2, kCl_2, by decide, Or.inl (gT_of (tb_1 (List.mem_of_getElem? (i := 29) rfl)) rfl)⟩
theorem fp_X2_9 : kFL RX2 9 2 0 true := ⟨RX2, TX2, kCl_2, by decide, rfl, fun _ => rfl, Or.inl (gT_of (tb_1 (List.mem_of_getElem? (i := 29) rfl)) rfl)⟩
theorem fg_X6_206 : kFG RX6 206 2 0 := ⟨RX2, TX2, kCl_2, by decide, Or.inl (gT_of (tb_1 (List.mem_of_getElem? (i := 30) rfl)) rfl)⟩
theorem fg_X2_15 : kFG RX2 15 2 1 := ⟨RX2, TX2, kCl_2, by decide, Or.inl (gT_of (tb_1 (List.mem_of_getElem? (i := 31) rfl)) rfl)⟩
theorem fp_X2_15 : kFL RX2 15 2 1 true := ⟨RX2, TX2, kCl_2, by decide, rfl, fun _ => rfl, Or.inl (gT_of (tb_1 (List.mem_of_getElem? (i := 31) rfl)) rfl)⟩
theorem fg_X6_209 : kFG RX6 209 2 1 := ⟨RX2, TX2, kCl_2, by decide, Or.inl (gT_of (tb_1 (List.mem_of_getElem? (i := 32) rfl)) rfl)⟩
theorem fg_X2_21 : kFG RX2 21 2 2 := ⟨RX2, TX2, kCl_2, by decide, Or.inl (gT_of (tb_1 (List.mem_of_getElem? (i := 33) rfl)) rfl)⟩
theorem fp_X2_21 : kFL RX2 21 2 2 false := ⟨RX2, TX2, kCl_2, by decide, rfl, fun _ => rfl, Or.inl (gT_of (tb_1 (List.mem_of_getElem? (i := 33) rfl)) rfl)⟩
theorem fg_X2_18 : kFG RX2 18 2 3 := ⟨RX2, TX2, kCl_2, by decide, Or.inl (gT_of (tb_1 (List.mem_of_getElem? (i := 34) rfl)) rfl)⟩
theorem fp_X2_18 : kFL RX2 18 2 3 true := ⟨RX2, TX2, kCl_2, by decide, rfl, fun _ => rfl, Or.inl (gT_of (tb_1 (List.mem_of_getElem? (i := 34) rfl)) rfl)⟩
theorem fg_X3_9 : kFG RX3 9 3 0 := ⟨RX3, TX3, kCl_3, by decide, Or.inl (gT_of (tb_1 (List.mem_of_getElem? (i := 54) rfl)) rfl)⟩
theorem fp_X3_9 : kFL RX3 9 3 0 true := ⟨RX3, TX3, kCl_3, by decide, rfl, fun _ => rfl, Or.inl (gT_of (tb_1 (List.mem_of_getElem? (i := 54) rfl)) rfl)⟩
theorem fg_X3_15 : kFG RX3 15 3 1 := ⟨RX3, TX3, kCl_3, by decide, Or.inl (gT_of (tb_1 (List.mem_of_getElem? (i := 55) rfl)) rfl)⟩
theorem fp_X3_15 : kFL RX3 15 3 1 false := ⟨RX3, TX3, kCl_3, by decide, rfl, fun _ => rfl, Or.inl (gT_of (tb_1 (List.mem_of_getElem? (i := 55) rfl)) rfl)⟩
theorem fg_X6_144 : kFG RX6 144 3 1 := ⟨RX3, TX3, kCl_3, by decide, Or.inl (gT_of (tb_1 (List.mem_of_getElem? (i := 56) rfl)) rfl)⟩
theorem fp_X6_144 : kFL RX6 144 3 1 false := ⟨RX3, TX3, kCl_3, by decide, rfl, (fun h => by cases h), Or.inl (gT_of (tb_1 (List.mem_of_getElem? (i := 56) rfl)) rfl)⟩
theorem fg_X3_19 : kFG RX3 19 3 2 := ⟨RX3, TX3, kCl_3, by decide, Or.inl (gT_of (tb_1 (List.mem_of_getElem? (i := 57) rfl)) rfl)⟩
theorem fp_X3_19 : kFL RX3 19 3 2 false := ⟨RX3, TX3, kCl_3, by decide, rfl, fun _ => rfl, Or.inl (gT_of (tb_1 (List.mem_of_getElem? (i := 57) rfl)) rfl)⟩
theorem fg_X6_154 : kFG RX6 154 3 2 := ⟨RX3, TX3, kCl_3, by decide, Or.inl (gT_of (tb_1 (List.mem_of_getElem? (i := 58) rfl)) rfl)⟩
theorem fp_X6_154 : kFL RX6 154 3 2 false := ⟨RX3, TX3, kCl_3, by decide, rfl, (fun h => by cases h), Or.inl (gT_of (tb_1 (List.mem_of_getElem? (i := 58) rfl)) rfl)⟩
theorem fg_X1_22 : kFG RX1 22 3 3 := ⟨RX3, TX3, kCl_3, by decide, Or.inr (by decide +kernel)⟩
theorem fp_X1_22 : kFL RX1 22 3 3 false := ⟨RX3, TX3, kCl_3, by decide, rfl, (fun h => by cases h), Or.inr ⟨by decide, by decide +kernel⟩⟩
theorem fg_X3_22 : kFG RX3 22 3 3 := ⟨RX3, TX3, kCl_3, by decide, Or.inl (gT_of (tb_1 (List.mem_of_getElem? (i := 60) rfl)) rfl)⟩
theorem fp_X3_22 : kFL RX3 22 3 3 false := ⟨RX3, TX3, kCl_3, by decide, rfl, fun _ => rfl, Or.inl (gT_of (tb_1 (List.mem_of_getElem? (i := 60) rfl)) rfl)⟩
theorem fg_X1_9 : kFG RX1 9 3 4 := ⟨RX3, TX3, kCl_3, by decide, Or.inr (by decide +kernel)⟩
theorem fp_X1_9 : kFL RX1 9 3 4 false := ⟨RX3, TX3, kCl_3, by decide, rfl, (fun h => by cases h), Or.inr ⟨by decide, by decide +kernel⟩⟩
theorem fg_X3_25 : kFG RX3 25 3 4 := ⟨RX3, TX3, kCl_3, by decide, Or.inl (gT_of (tb_1 (List.mem_of_getElem? (i := 62) rfl)) rfl)⟩
theorem fp_X3_25 : kFL RX3 25 3 4 false := ⟨RX3, TX3, kCl_3, by decide, rfl, fun _ => rfl, Or.inl (gT_of (tb_1 (List.mem_of_getElem? (i := 62) rfl)) rfl)⟩
theorem fg_X6_161 : kFG RX6 161 3 4 := ⟨RX3, TX3, kCl_3, by decide, Or.inr (by decide +kernel)⟩
theorem fp_X6_161 : kFL RX6 161 3 4 false := ⟨RX3, TX3, kCl_3, by decide, rfl, (fun h => by cases h), Or.inr ⟨by decide, by decide +kernel⟩⟩
theorem fg_X3_28 : kFG RX3 28 3 5 := ⟨RX3, TX3, kCl_3, by decide, Or.inl (gT_of (tb_1 (List.mem_of_getElem? (i := 64) rfl)) rfl)⟩
theorem fp_X3_28 : kFL RX3 28 3 5 false := ⟨RX3, TX3, kCl_3, by decide, rfl, fun _ => rfl, Or.inl (gT_of (tb_1 (List.mem_of_getElem? (i := 64) rfl)) rfl)⟩
theorem fg_X1_18 : kFG RX1 18 3 6 := ⟨RX3, TX3, kCl_3, by decide, Or.inr (by decide +kernel)⟩
theorem fg_X3_31 : kFG RX3 31 3 6 := ⟨RX3, TX3, kCl_3, by decide, Or.inl (gT_of (tb_1 (List.mem_of_getElem? (i := 66) rfl)) rfl)⟩
theorem fp_X3_31 : kFL RX3 31 3 6 true := ⟨RX3, TX3, kCl_3, by decide, rfl, fun _ => rfl, Or.inl (gT_of (tb_1 (List.mem_of_getElem? (i := 66) rfl)) rfl)⟩
theorem fg_X1_32 : kFG RX1 32 3 7 := ⟨RX3, TX3, kCl_3, by decide, Or.inr (by decide +kernel)⟩
theorem fg_X3_34 : kFG RX3 34 3 7 := ⟨RX3, TX3, kCl_3, by decide, Or.inl (gT_of (tb_1 (List.mem_of_getElem? (i := 68) rfl)) rfl)⟩
theorem fp_X3_34 : kFL RX3 34 3 7 true := ⟨RX3, TX3, kCl_3, by decide, rfl, fun _ => rfl, Or.inl (gT_of (tb_1 (List.mem_of_getElem? (i := 68) rfl)) rfl)⟩
theorem fg_X1_36 : kFG RX1 36 3 8 := ⟨RX3, TX3, kCl_3, by decide, Or.inr (by decide +kernel)⟩
theorem fg_X3_37 : kFG RX3 37 3 8 := ⟨RX3, TX3, kCl_3, by decide, Or.inl (gT_of (tb_1 (List.mem_of_getElem? (i := 70) rfl)) rfl)⟩
theorem fp_X3_37 : kFL RX3 37 3 8 true := ⟨RX3, TX3, kCl_3, by decide, rfl, fun _ => rfl, Or.inl (gT_of (tb_1 (List.mem_of_getElem? (i := 70) rfl)) rfl)⟩
theorem fg_X1_40 : kFG RX1 40 3 9 := ⟨RX3, TX3, kCl_3, by decide, Or.inr (by decide +kernel)⟩
theorem fg_X3_40 : kFG RX3 40 3 9 := ⟨RX3, TX3, kCl_3, by decide, Or.inl (gT_of (tb_1 (List.mem_of_getElem? (i := 72) rfl)) rfl)⟩
theorem fp_X3_40 : kFL RX3 40 3 9 true := ⟨RX3, TX3, kCl_3, by decide, rfl, fun _ => rfl, Or.inl (gT_of (tb_1 (List.mem_of_getElem? (i := 72) rfl)) rfl)⟩
theorem fg_X3_43 : kFG RX3 43 3 10 := ⟨RX3, TX3, kCl_3, by decide, Or.inl (gT_of (tb_1 (List.mem_of_getElem? (i := 73) rfl)) rfl)⟩
theorem fp_X3_43 : kFL RX3 43 3 10 true := ⟨RX3, TX3, kCl_3, by decide, rfl, fun _ => rfl, Or.inl (gT_of (tb_1 (List.mem_of_getElem? (i := 73) rfl)) rfl)⟩
theorem fg_X1_44 : kFG RX1 44 3 10 := ⟨RX3, TX3, kCl_3, by decide, Or.inr (by decide +kernel)⟩
theorem fg_X3_46 : kFG RX3 46 3 11 := ⟨RX3, TX3, kCl_3, by decide, Or.inl (gT_of (tb_1 (List.mem_of_getElem? (i := 75) rfl)) rfl)⟩
theorem fp_X3_46 : kFL RX3 46 3 11 true := ⟨RX3, TX3, kCl_3, by decide, rfl, fun _ => rfl, Or.inl (gT_of (tb_1 (List.mem_of_getElem? (i := 75) rfl)) rfl)⟩
theorem fg_X1_48 : kFG RX1 48 3 11 := ⟨RX3, TX3, kCl_3, by decide, Or.inr (by decide +kernel)⟩
theorem fg_X3_49 : kFG RX3 49 3 12 := ⟨RX3, TX3, kCl_3, by decide, Or.inl (gT_of (tb_1 (List.mem_of_getElem? (i := 77) rfl)) rfl)⟩
theorem fp_X3_49 : kFL RX3 49 3 12 true := ⟨RX3, TX3, kCl_3, by decide, rfl, fun _ => rfl, Or.inl (gT_of (tb_1 (List.mem_of_getElem? (i := 77) rfl)) rfl)⟩
theorem fg_X1_52 : kFG RX1 52 3 12 := ⟨RX3, TX3, kCl_3, by decide, Or.inr (by decide +kernel)⟩
theorem fg_X3_52 : kFG RX3 52 3 13 := ⟨RX3, TX3, kCl_3, by decide, Or.inl (gT_of (tb_1 (List.mem_of_getElem? (i := 79) rfl)) rfl)⟩
theorem fp_X3_52 : kFL RX3 52 3 13 true := ⟨RX3, TX3, kCl_3, by decide, rfl, fun _ => rfl, Or.inl (gT_of (tb_1 (List.mem_of_getElem? (i := 79) rfl)) rfl)⟩
theorem fg_X1_56 : kFG RX1 56 3 13 := ⟨RX3, TX3, kCl_3, by decide, Or.inr (by decide +kernel)⟩
theorem fg_X3_55 : kFG RX3 55 3 14 := ⟨RX3, TX3, kCl_3, by decide, Or.inl (gT_of (tb_1 (List.mem_of_getElem? (i := 81) rfl)) rfl)⟩
theorem fp_X3_55 : kFL RX3 55 3 14 true := ⟨RX3, TX3, kCl_3, by decide, rfl, fun _ => rfl, Or.inl (gT_of (tb_1 (List.mem_of_getElem? (i := 81) rfl)) rfl)⟩
theorem fg_X3_58 : kFG RX3 58 3 15 := ⟨RX3, TX3, kCl_3, by decide, Or.inl (gT_of (tb_1 (List.mem_of_getElem? (i := 82) rfl)) rfl)⟩
theorem fp_X3_58 : kFL RX3 58 3 15 true := ⟨RX3, TX3, kCl_3, by decide, rfl, fun _ => rfl, Or.inl (gT_of (tb_1 (List.mem_of_getElem? (i := 82) rfl)) rfl)⟩
theorem fg_X1_15 : kFG RX1 15 1 0 := ⟨RX1, TX1, kCl_1, by decide, Or.inl (gT_of (tb_1 (List.mem_of_getElem? (i := 138) rfl)) rfl)⟩
theorem fp_X1_15 : kFL RX1 15 1 0 true := ⟨RX1, TX1, kCl_1, by decide, rfl, fun _ => rfl, Or.inl (gT_of (tb_1 (List.mem_of_getElem? (i := 138) rfl)) rfl)⟩
theorem fg_X6_195 : kFG RX6 195 1 0 := ⟨RX1, TX1, kCl_1, by decide, Or.inl (gT_of (tb_1 (List.mem_of_getElem? (i := 139) rfl)) rfl)⟩
theorem fg_X1_31 : kFG RX1 31 1 1 := ⟨RX1, TX1, kCl_1, by decide, Or.inl (gT_of (tb_1 (List.mem_of_getElem? (i := 140) rfl)) rfl)⟩
theorem fp_X1_31 : kFL RX1 31 1 1 true := ⟨RX1, TX1, kCl_1, by decide, rfl, fun _ => rfl, Or.inl (gT_of (tb_1 (List.mem_of_getElem? (i := 140) rfl)) rfl)⟩
theorem fg_X1_35 : kFG RX1 35 1 2 := ⟨RX1, TX1, kCl_1, by decide, Or.inl (gT_of (tb_1 (List.mem_of_getElem? (i := 141) rfl)) rfl)⟩
theorem fp_X1_35 : kFL RX1 35 1 2 true := ⟨RX1, TX1, kCl_1, by decide, rfl, fun _ => rfl, Or.inl (gT_of (tb_1 (List.mem_of_getElem? (i := 141) rfl)) rfl)⟩
theorem fg_X1_39 : kFG RX1 39 1 3 := ⟨RX1, TX1, kCl_1, by decide, Or.inl (gT_of (tb_1 (List.mem_of_getElem? (i := 142) rfl)) rfl)⟩
theorem fp_X1_39 : kFL RX1 39 1 3 true := ⟨RX1, TX1, kCl_1, by decide, rfl, fun _ => rfl, Or.inl (gT_of (tb_1 (List.mem_of_getElem? (i := 142) rfl)) rfl)⟩
theorem fg_X1_43 : kFG RX1 43 1 4 := ⟨RX1, TX1, kCl_1, by decide, Or.inl (gT_of (tb_1 (List.mem_of_getElem? (i := 143) rfl)) rfl)⟩
theorem fp_X1_43 : kFL RX1 43 1 4 true := ⟨RX1, TX1, kCl_1, by decide, rfl, fun _ => rfl, Or.inl (gT_of (tb_1 (List.mem_of_getElem? (i := 143) rfl)) rfl)⟩
theorem fg_X1_47 : kFG RX1 47 1 5 := ⟨RX1, TX1, kCl_1, by decide, Or.inl (gT_of (tb_1 (List.mem_of_getElem? (i := 144) rfl)) rfl)⟩
theorem fp_X1_47 : kFL RX1 47 1 5 true := ⟨RX1, TX1, kCl_1, by decide, rfl, fun _ => rfl, Or.inl (gT_of (tb_1 (List.mem_of_getElem? (i := 144) rfl)) rfl)⟩
theorem fg_X1_51 : kFG RX1 51 1 6 := ⟨RX1, TX1, kCl_1, by decide, Or.inl (gT_of (tb_1 (List.mem_of_getElem? (i := 145) rfl)) rfl)⟩
theorem fp_X1_51 : kFL RX1 51 1 6 true := ⟨RX1, TX1, kCl_1, by decide, rfl, fun _ => rfl, Or.inl (gT_of (tb_1 (List.mem_of_getElem? (i := 145) rfl)) rfl)⟩
theorem fg_X1_55 : kFG RX1 55 1 7 := ⟨RX1, TX1, kCl_1, by decide, Or.inl (gT_of (tb_1 (List.mem_of_getElem? (i := 146) rfl)) rfl)⟩
theorem fp_X1_55 : kFL RX1 55 1 7 true := ⟨RX1, TX1, kCl_1, by decide, rfl, fun _ => rfl, Or.inl (gT_of (tb_1 (List.mem_of_getElem? (i := 146) rfl)) rfl)⟩
theorem fg_X1_59 : kFG RX1 59 1 8 := ⟨RX1, TX1, kCl_1, by decide, Or.inl (gT_of (tb_1 (List.mem_of_getElem? (i := 147) rfl)) rfl)⟩
theorem fp_X1_59 : kFL RX1 59 1 8 true := ⟨RX1, TX1, kCl_1, by decide, rfl, fun _ => rfl, Or.inl (gT_of (tb_1 (List.mem_of_getElem? (i := 147) rfl)) rfl)⟩
theorem fg_X0_17 : kFG RX0 17 0 0 := ⟨RX0, TX0, kCl_0, by decide, Or.inl (gT_of (tb_1 (List.mem_of_getElem? (i := 181) rfl)) rfl)⟩
theorem fp_X0_17 : kFL RX0 17 0 0 false := ⟨RX0, TX0, kCl_0, by decide, rfl, fun _ => rfl, Or.inl (gT_of (tb_1 (List.mem_of_getElem? (i := 181) rfl)) rfl)⟩
theorem fg_X4_80 : kFG RX4 80 0 0 := ⟨RX0, TX0, kCl_0, by decide, Or.inl (gT_of (tb_1 (List.mem_of_getElem? (i := 182) rfl)) rfl)⟩
theorem fp_X4_80 : kFL RX4 80 0 0 false := ⟨RX0, TX0, kCl_0, by decide, rfl, (fun h => by cases h), Or.inl (gT_of (tb_1 (List.mem_of_getElem? (i := 182) rfl)) rfl)⟩
theorem fg_X6_116 : kFG RX6 116 0 0 := ⟨RX0, TX0, kCl_0, by decide, Or.inl (gT_of (tb_1 (List.mem_of_getElem? (i := 183) rfl)) rfl)⟩
theorem fp_X6_116 : kFL RX6 116 0 0 false := ⟨RX0, TX0, kCl_0, by decide, rfl, (fun h => by cases h), Or.inl (gT_of (tb_1 (List.mem_of_getElem? (i := 183) rfl)) rfl)⟩
theorem fg_X2_71 : kFG RX2 71 0 0 := ⟨RX0, TX0, kCl_0, by decide, Or.inl (gT_of (tb_1 (List.mem_of_getElem? (i := 184) rfl)) rfl)⟩
theorem fp_X2_71 : kFL RX2 71 0 0 false := ⟨RX0, TX0, kCl_0, by decide, rfl, (fun h => by cases h), Or.inl (gT_of (tb_1 (List.mem_of_getElem? (i := 184) rfl)) rfl)⟩
theorem fg_X0_13 : kFG RX0 13 0 1 := ⟨RX0, TX0, kCl_0, by decide, Or.inl (gT_of (tb_1 (List.mem_of_getElem? (i := 185) rfl)) rfl)⟩
theorem fp_X0_13 : kFL RX0 13 0 1 false := ⟨RX0, TX0, kCl_0, by decide, rfl, fun _ => rfl, Or.inl (gT_of (tb_1 (List.mem_of_getElem? (i := 185) rfl)) rfl)⟩
theorem fg_X2_64 : kFG RX2 64 0 1 := ⟨RX0, TX0, kCl_0, by decide, Or.inl (gT_of (tb_1 (List.mem_of_getElem? (i := 186) rfl)) rfl)⟩
theorem fp_X2_64 : kFL RX2 64 0 1 false := ⟨RX0, TX0, kCl_0, by decide, rfl, (fun h => by cases h), Or.inl (gT_of (tb_1 (List.mem_of_getElem? (i := 186) rfl)) rfl)⟩
theorem fg_X4_77 : kFG RX4 77 0 1 := ⟨RX0, TX0, kCl_0, by decide, Or.inl (gT_of (tb_1 (List.mem_of_getElem? (i := 187) rfl)) rfl)⟩
theorem fp_X4_77 : kFL RX4 77 0 1 false := ⟨RX0, TX0, kCl_0, by decide, rfl, (fun h => by cases h), Or.inl (gT_of (tb_1 (List.mem_of_getElem? (i := 187) rfl)) rfl)⟩
theorem fg_X6_119 : kFG RX6 119 0 1 := ⟨RX0, TX0, kCl_0, by decide, Or.inl (gT_of (tb_1 (List.mem_of_getElem? (i := 188) rfl)) rfl)⟩
theorem fp_X6_119 : kFL RX6 119 0 1 false := ⟨RX0, TX0, kCl_0, by decide, rfl, (fun h => by cases h), Or.inl (gT_of (tb_1 (List.mem_of_getElem? (i := 188) rfl)) rfl)⟩
theorem fg_X0_20 : kFG RX0 20 0 2 := ⟨RX0, TX0, kCl_0, by decide, Or.inl (gT_of (tb_1 (List.mem_of_getElem? (i := 189) rfl)) rfl)⟩
theorem fp_X0_20 : kFL RX0 20 0 2 false := ⟨RX0, TX0, kCl_0, by decide, rfl, fun _ => rfl, Or.inl (gT_of (tb_1 (List.mem_of_getElem? (i := 189) rfl)) rfl)⟩
theorem fg_X2_58 : kFG RX2 58 0 2 := ⟨RX0, TX0, kCl_0, by decide, Or.inl (gT_of (tb_1 (List.mem_of_getElem? (i := 190) rfl)) rfl)⟩
theorem fp_X2_58 : kFL RX2 58 0 2 false := ⟨RX0, TX0, kCl_0, by decide, rfl, (fun h => by cases h), Or.inl (gT_of (tb_1 (List.mem_of_getElem? (i := 190) rfl)) rfl)⟩
theorem fg_X6_122 : kFG RX6 122 0 2 := ⟨RX0, TX0, kCl_0, by decide, Or.inl (gT_of (tb_1 (List.mem_of_getElem? (i := 191) rfl)) rfl)⟩
theorem fp_X6_122 : kFL RX6 122 0 2 false := ⟨RX0, TX0, kCl_0, by decide, rfl, (fun h => by cases h), Or.inl (gT_of (tb_1 (List.mem_of_getElem? (i := 191) rfl)) rfl)⟩
theorem fg_X4_83 : kFG RX4 83 0 2 := ⟨RX0, TX0, kCl_0, by decide, Or.inl (gT_of (tb_1 (List.mem_of_getElem? (i := 192) rfl)) rfl)⟩
theorem fp_X4_83 : kFL RX4 83 0 2 false := ⟨RX0, TX0, kCl_0, by decide, rfl, (fun h => by cases h), Or.inl (gT_of (tb_1 (List.mem_of_getElem? (i := 192) rfl)) rfl)⟩
theorem fg_X0_23 : kFG RX0 23 0 3 := ⟨RX0, TX0, kCl_0, by decide, Or.inl (gT_of (tb_1 (List.mem_of_getElem? (i := 193) rfl)) rfl)⟩
theorem fp_X0_23 : kFL RX0 23 0 3 false := ⟨RX0, TX0, kCl_0, by decide, rfl, fun _ => rfl, Or.inl (gT_of (tb_1 (List.mem_of_getElem? (i := 193) rfl)) rfl)⟩
theorem fg_X6_104 : kFG RX6 104 0 3 := ⟨RX0, TX0, kCl_0, by decide, Or.inl (gT_of (tb_1 (List.mem_of_getElem? (i := 194) rfl)) rfl)⟩
theorem fp_X6_104 : kFL RX6 104 0 3 false := ⟨RX0, TX0, kCl_0, by decide, rfl, (fun h => by cases h), Or.inl (gT_of (tb_1 (List.mem_of_getElem? (i := 194) rfl)) rfl)⟩
theorem fg_X4_122 : kFG RX4 122 0 3 := ⟨RX0, TX0, kCl_0, by decide, Or.inl (gT_of (tb_1 (List.mem_of_getElem? (i := 195) rfl)) rfl)⟩
theorem fp_X4_122 : kFL RX4 122 0 3 false := ⟨RX0, TX0, kCl_0, by decide, rfl, (fun h => by cases h), Or.inl (gT_of (tb_1 (List.mem_of_getElem? (i := 195) rfl)) rfl)⟩
theorem fg_X0_26 : kFG RX0 26 0 4 := ⟨RX0, TX0, kCl_0, by decide, Or.inl (gT_of (tb_1 (List.mem_of_getElem? (i := 196) rfl)) rfl)⟩
theorem fp_X0_26 : kFL RX0 26 0 4 false := ⟨RX0, TX0, kCl_0, by decide, rfl, fun _ => rfl, Or.inl (gT_of (tb_1 (List.mem_of_getElem? (i := 196) rfl)) rfl)⟩
theorem fg_X6_109 : kFG RX6 109 0 4 := ⟨RX0, TX0, kCl_0, by decide, Or.inl (gT_of (tb_1 (List.mem_of_getElem? (i := 197) rfl)) rfl)⟩
theorem fp_X6_109 : kFL RX6 109 0 4 false := ⟨RX0, TX0, kCl_0, by decide, rfl, (fun h => by cases h), Or.inl (gT_of (tb_1 (List.mem_of_getElem? (i := 197) rfl)) rfl)⟩
theorem fg_X0_29 : kFG RX0 29 0 5 := ⟨RX0, TX0, kCl_0, by decide, Or.inl (gT_of (tb_1 (List.mem_of_getElem? (i := 198) rfl)) rfl)⟩
theorem fp_X0_29 : kFL RX0 29 0 5 false := ⟨RX0, TX0, kCl_0, by decide, rfl, fun _ => rfl, Or.inl (gT_of (tb_1 (List.mem_of_getElem? (i := 198) rfl)) rfl)⟩
theorem fg_X6_134 : kFG RX6 134 0 5 := ⟨RX0, TX0, kCl_0, by decide, Or.inl (gT_of (tb_1 (List.mem_of_getElem? (i := 199) rfl)) rfl)⟩
theorem fp_X6_134 : kFL RX6 134 0 5 false := ⟨RX0, TX0, kCl_0, by decide, rfl, (fun h => by cases h), Or.inl (gT_of (tb_1 (List.mem_of_getElem? (i := 199) rfl)) rfl)⟩
theorem fg_X4_90 : kFG RX4 90 0 5 := ⟨RX0, TX0, kCl_0, by decide, Or.inl (gT_of (tb_1 (List.mem_of_getElem? (i := 200) rfl)) rfl)⟩
theorem fp_X4_90 : kFL RX4 90 0 5 false := ⟨RX0, TX0, kCl_0, by decide, rfl, (fun h => by cases h), Or.inl (gT_of (tb_1 (List.mem_of_getElem? (i := 200) rfl)) rfl)⟩
theorem fg_X0_32 : kFG RX0 32 0 6 := ⟨RX0, TX0, kCl_0, by decide, Or.inl (gT_of (tb_1 (List.mem_of_getElem? (i := 201) rfl)) rfl)⟩
theorem fp_X0_32 : kFL RX0 32 0 6 false := ⟨RX0, TX0, kCl_0, by decide, rfl, fun _ => rfl, Or.inl (gT_of (tb_1 (List.mem_of_getElem? (i := 201) rfl)) rfl)⟩
theorem fg_X6_137 : kFG RX6 137 0 6 := ⟨RX0, TX0, kCl_0, by decide, Or.inl (gT_of (tb_1 (List.mem_of_getElem? (i := 202) rfl)) rfl)⟩
theorem fp_X6_137 : kFL RX6 137 0 6 false := ⟨RX0, TX0, kCl_0, by decide, rfl, (fun h => by cases h), Or.inl (gT_of (tb_1 (List.mem_of_getElem? (i := 202) rfl)) rfl)⟩
theorem fg_X4_153 : kFG RX4 153 0 6 := ⟨RX0, TX0, kCl_0, by decide, Or.inl (gT_of (tb_1 (List.mem_of_getElem? (i := 203) rfl)) rfl)⟩
theorem fp_X4_153 : kFL RX4 153 0 6 false := ⟨RX0, TX0, kCl_0, by decide, rfl, (fun h => by cases h), Or.inl (gT_of (tb_1 (List.mem_of_getElem? (i := 203) rfl)) rfl)⟩
theorem fg_X0_35 : kFG RX0 35 0 7 := ⟨RX0, TX0, kCl_0, by decide, Or.inl (gT_of (tb_1 (List.mem_of_getElem? (i := 204) rfl)) rfl)⟩
theorem fp_X0_35 : kFL RX0 35 0 7 false := ⟨RX0, TX0, kCl_0, by decide, rfl, fun _ => rfl, Or.inl (gT_of (tb_1 (List.mem_of_getElem? (i := 204) rfl)) rfl)⟩
theorem fg_X6_184 : kFG RX6 184 0 7 := ⟨RX0, TX0, kCl_0, by decide, Or.inl (gT_of (tb_1 (List.mem_of_getElem? (i := 205) rfl)) rfl)⟩
theorem fp_X6_184 : kFL RX6 184 0 7 false := ⟨RX0, TX0, kCl_0, by decide, rfl, (fun h => by cases h), Or.inl (gT_of (tb_1 (List.mem_of_getElem? (i := 205) rfl)) rfl)⟩
theorem fg_X0_39 : kFG RX0 39 0 8 := ⟨RX0, TX0, kCl_0, by decide, Or.inl (gT_of (tb_1 (List.mem_of_getElem? (i := 206) rfl)) rfl)⟩
theorem fp_X0_39 : kFL RX0 39 0 8 false := ⟨RX0, TX0, kCl_0, by decide, rfl, fun _ => rfl, Or.inl (gT_of (tb_1 (List.mem_of_getElem? (i := 206) rfl)) rfl)⟩
theorem fg_X0_9 : kFG RX0 9 0 9 := ⟨RX0, TX0, kCl_0, by decide, Or.inl (gT_of (tb_1 (List.mem_of_getElem? (i := 207) rfl)) rfl)⟩
theorem fp_X0_9 : kFL RX0 9 0 9 true := ⟨RX0, TX0, kCl_0, by decide, rfl, fun _ => rfl, Or.inl (gT_of (tb_1 (List.mem_of_getElem? (i := 207) rfl)) rfl)⟩
theorem fg_X0_52 : kFG RX0 52 0 10 := ⟨RX0, TX0, kCl_0, by decide, Or.inl (gT_of (tb_1 (List.mem_of_getElem? (i := 208) rfl)) rfl)⟩
theorem fp_X0_52 : kFL RX0 52 0 10 false := ⟨RX0, TX0, kCl_0, by decide, rfl, fun _ => rfl, Or.inl (gT_of (tb_1 (List.mem_of_getElem? (i := 208) rfl)) rfl)⟩
theorem fg_X6_125 : kFG RX6 125 0 10 := ⟨RX0, TX0, kCl_0, by decide, Or.inl (gT_of (tb_1 (List.mem_of_getElem? (i := 209) rfl)) rfl)⟩
theorem fp_X6_125 : kFL RX6 125 0 10 false := ⟨RX0, TX0, kCl_0, by decide, rfl, (fun h => by cases h), Or.inl (gT_of (tb_1 (List.mem_of_getElem? (i := 209) rfl)) rfl)⟩
theorem fg_X4_97 : kFG RX4 97 0 10 := ⟨RX0, TX0, kCl_0, by decide, Or.inl (gT_of (tb_1 (List.mem_of_getElem? (i := 210) rfl)) rfl)⟩
theorem fp_X4_97 : kFL RX4 97 0 10 false := ⟨RX0, TX0, kCl_0, by decide, rfl, (fun h => by cases h), Or.inl (gT_of (tb_1 (List.mem_of_getElem? (i := 210) rfl)) rfl)⟩
theorem fg_X2_37 : kFG RX2 37 0 11 := ⟨RX0, TX0, kCl_0, by decide, Or.inl (gT_of (tb_1 (List.mem_of_getElem? (i := 211) rfl)) rfl)⟩
theorem fp_X2_37 : kFL RX2 37 0 11 false := ⟨RX0, TX0, kCl_0, by decide, rfl, (fun h => by cases h), Or.inl (gT_of (tb_1 (List.mem_of_getElem? (i := 211) rfl)) rfl)⟩
theorem fg_X6_128 : kFG RX6 128 0 11 := ⟨RX0, TX0, kCl_0, by decide, Or.inl (gT_of (tb_1 (List.mem_of_getElem? (i := 212) rfl)) rfl)⟩
theorem fp_X6_128 : kFL RX6 128 0 11 false := ⟨RX0, TX0, kCl_0, by decide, rfl, (fun h => by cases h), Or.inl (gT_of (tb_1 (List.mem_of_getElem? (i := 212) rfl)) rfl)⟩
theorem fg_X4_100 : kFG RX4 100 0 11 := ⟨RX0, TX0, kCl_0, by decide, Or.inl (gT_of (tb_1 (List.mem_of_getElem? (i := 213) rfl)) rfl)⟩
theorem fp_X4_100 : kFL RX4 100 0 11 false := ⟨RX0, TX0, kCl_0, by decide, rfl, (fun h => by cases h), Or.inl (gT_of (tb_1 (List.mem_of_getElem? (i := 213) rfl)) rfl)⟩
theorem fg_X0_55 : kFG RX0 55 0 12 := ⟨RX0, TX0, kCl_0, by decide, Or.inl (gT_of (tb_1 (List.mem_of_getElem? (i := 214) rfl)) rfl)⟩
theorem fp_X0_55 : kFL RX0 55 0 12 false := ⟨RX0, TX0, kCl_0, by decide, rfl, fun _ => rfl, Or.inl (gT_of (tb_1 (List.mem_of_getElem? (i := 214) rfl)) rfl)⟩
theorem fg_X6_164 : kFG RX6 164 0 12 := ⟨RX0, TX0, kCl_0, by decide, Or.inl (gT_of (tb_1 (List.mem_of_getElem? (i := 215) rfl)) rfl)⟩
theorem fp_X6_164 : kFL RX6 164 0 12 false := ⟨RX0, TX0, kCl_0, by decide, rfl, (fun h => by cases h), Or.inl (gT_of (tb_1 (List.mem_of_getElem? (i := 215) rfl)) rfl)⟩
theorem fg_X4_103 : kFG RX4 103 0 12 := ⟨RX0, TX0, kCl_0, by decide, Or.inl (gT_of (tb_1 (List.mem_of_getElem? (i := 216) rfl)) rfl)⟩
theorem fp_X4_103 : kFL RX4 103 0 12 false := ⟨RX0, TX0, kCl_0, by decide, rfl, (fun h => by cases h), Or.inl (gT_of (tb_1 (List.mem_of_getElem? (i := 216) rfl)) rfl)⟩
theorem fg_X0_58 : kFG RX0 58 0 13 := ⟨RX0, TX0, kCl_0, by decide, Or.inl (gT_of (tb_1 (List.mem_of_getElem? (i := 217) rfl)) rfl)⟩
theorem fp_X0_58 : kFL RX0 58 0 13 false := ⟨RX0, TX0, kCl_0, by decide, rfl, fun _ => rfl, Or.inl (gT_of (tb_1 (List.mem_of_getElem? (i := 217) rfl)) rfl)⟩
theorem fg_X6_131 : kFG RX6 131 0 13 := ⟨RX0, TX0, kCl_0, by decide, Or.inl (gT_of (tb_1 (List.mem_of_getElem? (i := 218) rfl)) rfl)⟩
theorem fp_X6_131 : kFL RX6 131 0 13 false := ⟨RX0, TX0, kCl_0, by decide, rfl, (fun h => by cases h), Or.inl (gT_of (tb_1 (List.mem_of_getElem? (i := 218) rfl)) rfl)⟩
theorem fg_X4_106 : kFG RX4 106 0 13 := ⟨RX0, TX0, kCl_0, by decide, Or.inl (gT_of (tb_1 (List.mem_of_getElem? (i := 219) rfl)) rfl)⟩
theorem fp_X4_106 : kFL RX4 106 0 13 false := ⟨RX0, TX0, kCl_0, by decide, rfl, (fun h => by cases h), Or.inl (gT_of (tb_1 (List.mem_of_getElem? (i := 219) rfl)) rfl)⟩
theorem fg_X0_76 : kFG RX0 76 0 14 := ⟨RX0, TX0, kCl_0, by decide, Or.inl (gT_of (tb_1 (List.mem_of_getElem? (i := 220) rfl)) rfl)⟩
theorem fp_X0_76 : kFL RX0 76 0 14 false := ⟨RX0, TX0, kCl_0, by decide, rfl, fun _ => rfl, Or.inl (gT_of (tb_1 (List.mem_of_getElem? (i := 220) rfl)) rfl)⟩
theorem fg_X0_83 : kFG RX0 83 0 15 := ⟨RX0, TX0, kCl_0, by decide, Or.inl (gT_of (tb_1 (List.mem_of_getElem? (i := 221) rfl)) rfl)⟩
theorem fp_X0_83 : kFL RX0 83 0 15 false := ⟨RX0, TX0, kCl_0, by decide, rfl, fun _ => rfl, Or.inl (gT_of (tb_1 (List.mem_of_getElem? (i := 221) rfl)) rfl)⟩
theorem fg_X4_146 : kFG RX4 146 0 15 := ⟨RX0, TX0, kCl_0, by decide, Or.inr (by decide +kernel)⟩
theorem fp_X4_146 : kFL RX4 146 0 15 false := ⟨RX0, TX0, kCl_0, by decide, rfl, (fun h => by cases h), Or.inr ⟨by decide, by decide +kernel⟩⟩
theorem fg_X4_9 : kFG RX4 9 4 0 := ⟨RX4, TX4, kCl_4, by decide, Or.inl (gT_of (tb_2 (List.mem_of_getElem? (i := 16) rfl)) rfl)⟩
theorem fp_X4_9 : kFL RX4 9 4 0 false := ⟨RX4, TX4, kCl_4, by decide, rfl, fun _ => rfl, Or.inl (gT_of (tb_2 (List.mem_of_getElem? (i := 16) rfl)) rfl)⟩
theorem fg_X6_76 : kFG RX6 76 4 0 := ⟨RX4, TX4, kCl_4, by decide, Or.inl (gT_of (tb_2 (List.mem_of_getElem? (i := 17) rfl)) rfl)⟩
theorem fp_X6_76 : kFL RX6 76 4 0 false := ⟨RX4, TX4, kCl_4, by decide, rfl, (fun h => by cases h), Or.inl (gT_of (tb_2 (List.mem_of_getElem? (i := 17) rfl)) rfl)⟩
theorem fg_X4_15 : kFG RX4 15 4 1 := ⟨RX4, TX4, kCl_4, by decide, Or.inl (gT_of (tb_2 (List.mem_of_getElem? (i := 18) rfl)) rfl)⟩
theorem fp_X4_15 : kFL RX4 15 4 1 false := ⟨RX4, TX4, kCl_4, by decide, rfl, fun _ => rfl, Or.inl (gT_of (tb_2 (List.mem_of_getElem? (i := 18) rfl)) rfl)⟩
theorem fg_X6_63 : kFG RX6 63 4 1 := ⟨RX4, TX4, kCl_4, by decide, Or.inl (gT_of (tb_2 (List.mem_of_getElem? (i := 19) rfl)) rfl)⟩
theorem fp_X6_63 : kFL RX6 63 4 1 false := ⟨RX4, TX4, kCl_4, by decide, rfl, (fun h => by cases h), Or.inl (gT_of (tb_2 (List.mem_of_getElem? (i := 19) rfl)) rfl)⟩
theorem fg_X4_18 : kFG RX4 18 4 2 := ⟨RX4, TX4, kCl_4, by decide, Or.inl (gT_of (tb_2 (List.mem_of_getElem? (i := 20) rfl)) rfl)⟩
theorem fp_X4_18 : kFL RX4 18 4 2 false := ⟨RX4, TX4, kCl_4, by decide, rfl, fun _ => rfl, Or.inl (gT_of (tb_2 (List.mem_of_getElem? (i := 20) rfl)) rfl)⟩
theorem fg_X6_188 : kFG RX6 188 4 2 := ⟨RX4, TX4, kCl_4, by decide, Or.inl (gT_of (tb_2 (List.mem_of_getElem? (i := 21) rfl)) rfl)⟩
theorem fp_X6_188 : kFL RX6 188 4 2 false := ⟨RX4, TX4, kCl_4, by decide, rfl, (fun h => by cases h), Or.inl (gT_of (tb_2 (List.mem_of_getElem? (i := 21) rfl)) rfl)⟩
theorem fg_X4_21 : kFG RX4 21 4 3 := ⟨RX4, TX4, kCl_4, by decide, Or.inl (gT_of (tb_2 (List.mem_of_getElem? (i := 22) rfl)) rfl)⟩
theorem fp_X4_21 : kFL RX4 21 4 3 false := ⟨RX4, TX4, kCl_4, by decide, rfl, fun _ => rfl, Or.inl (gT_of (tb_2 (List.mem_of_getElem? (i := 22) rfl)) rfl)⟩
theorem fg_X6_94 : kFG RX6 94 4 3 := ⟨RX4, TX4, kCl_4, by decide, Or.inl (gT_of (tb_2 (List.mem_of_getElem? (i := 23) rfl)) rfl)⟩
theorem fp_X6_94 : kFL RX6 94 4 3 false := ⟨RX4, TX4, kCl_4, by decide, rfl, (fun h => by cases h), Or.inl (gT_of (tb_2 (List.mem_of_getElem? (i := 23) rfl)) rfl)⟩
theorem fg_X4_24 : kFG RX4 24 4 4 := ⟨RX4, TX4, kCl_4, by decide, Or.inl (gT_of (tb_2 (List.mem_of_getElem? (i := 24) rfl)) rfl)⟩
theorem fp_X4_24 : kFL RX4 24 4 4 false := ⟨RX4, TX4, kCl_4, by decide, rfl, fun _ => rfl, Or.inl (gT_of (tb_2 (List.mem_of_getElem? (i := 24) rfl)) rfl)⟩
theorem fg_X2_30 : kFG RX2 30 4 4 := ⟨RX4, TX4, kCl_4, by decide, Or.inl (gT_of (tb_2 (List.mem_of_getElem? (i := 25) rfl)) rfl)⟩
theorem fp_X2_30 : kFL RX2 30 4 4 false := ⟨RX4, TX4, kCl_4, by decide, rfl, (fun h => by cases h), Or.inl (gT_of (tb_2 (List.mem_of_getElem? (i := 25) rfl)) rfl)⟩
theorem fg_X6_67 : kFG RX6 67 4 4 := ⟨RX4, TX4, kCl_4, by decide, Or.inl (gT_of (tb_2 (List.mem_of_getElem? (i := 26) rfl)) rfl)⟩
theorem fp_X6_67 : kFL RX6 67 4 4 false := ⟨RX4, TX4, kCl_4, by decide, rfl, (fun h => by cases h), Or.inl (gT_of (tb_2 (List.mem_of_getElem? (i := 26) rfl)) rfl)⟩
theorem fg_X4_27 : kFG RX4 27 4 5 := ⟨RX4, TX4, kCl_4, by decide, Or.inl (gT_of (tb_2 (List.mem_of_getElem? (i := 27) rfl)) rfl)⟩
theorem fp_X4_27 : kFL RX4 27 4 5 false := ⟨RX4, TX4, kCl_4, by decide, rfl, fun _ => rfl, Or.inl (gT_of (tb_2 (List.mem_of_getElem? (i := 27) rfl)) rfl)⟩
theorem fg_X6_70 : kFG RX6 70 4 5 := ⟨RX4, TX4, kCl_4, by decide, Or.inl (gT_of (tb_2 (List.mem_of_getElem? (i := 28) rfl)) rfl)⟩
theorem fp_X6_70 : kFL RX6 70 4 5 false := ⟨RX4, TX4, kCl_4, by decide, rfl, (fun h => by cases h), Or.inl (gT_of (tb_2 (List.mem_of_getElem? (i := 28) rfl)) rfl)⟩
theorem fg_X4_30 : kFG RX4 30 4 6 := ⟨RX4, TX4, kCl_4, by decide, Or.inl (gT_of (tb_2 (List.mem_of_getElem? (i := 29) rfl)) rfl)⟩
theorem fp_X4_30 : kFL RX4 30 4 6 false := ⟨RX4, TX4, kCl_4, by decide, rfl, fun _ => rfl, Or.inl (gT_of (tb_2 (List.mem_of_getElem? (i := 29) rfl)) rfl)⟩
theorem fg_X6_73 : kFG RX6 73 4 6 := ⟨RX4, TX4, kCl_4, by decide, Or.inl (gT_of (tb_2 (List.mem_of_getElem? (i := 30) rfl)) rfl)⟩
theorem fp_X6_73 : kFL RX6 73 4 6 false := ⟨RX4, TX4, kCl_4, by decide, rfl, (fun h => by cases h), Or.inl (gT_of (tb_2 (List.mem_of_getElem? (i := 30) rfl)) rfl)⟩
theorem fg_X4_35 : kFG RX4 35 4 7 := ⟨RX4, TX4, kCl_4, by decide, Or.inl (gT_of (tb_2 (List.mem_of_getElem? (i := 31) rfl)) rfl)⟩
theorem fp_X4_35 : kFL RX4 35 4 7 true := ⟨RX4, TX4, kCl_4, by decide, rfl, fun _ => rfl, Or.inl (gT_of (tb_2 (List.mem_of_getElem? (i := 31) rfl)) rfl)⟩
theorem fg_X2_33 : kFG RX2 33 4 7 := ⟨RX4, TX4, kCl_4, by decide, Or.inl (gT_of (tb_2 (List.mem_of_getElem? (i := 32) rfl)) rfl)⟩
theorem fg_X6_100 : kFG RX6 100 4 7 := ⟨RX4, TX4, kCl_4, by decide, Or.inl (gT_of (tb_2 (List.mem_of_getElem? (i := 33) rfl)) rfl)⟩
theorem fg_X4_41 : kFG RX4 41 4 8 := ⟨RX4, TX4, kCl_4, by decide, Or.inl (gT_of (tb_2 (List.mem_of_getElem? (i := 34) rfl)) rfl)⟩
theorem fp_X4_41 : kFL RX4 41 4 8 true := ⟨RX4, TX4, kCl_4, by decide, rfl, fun _ => rfl, Or.inl (gT_of (tb_2 (List.mem_of_getElem? (i := 34) rfl)) rfl)⟩
theorem fg_X6_157 : kFG RX6 157 4 8 := ⟨RX4, TX4, kCl_4, by decide, Or.inl (gT_of (tb_2 (List.mem_of_getElem? (i := 35) rfl)) rfl)⟩
theorem fg_X4_45 : kFG RX4 45 4 9 := ⟨RX4, TX4, kCl_4, by decide, Or.inl (gT_of (tb_2 (List.mem_of_getElem? (i := 36) rfl)) rfl)⟩
theorem fp_X4_45 : kFL RX4 45 4 9 true := ⟨RX4, TX4, kCl_4, by decide, rfl, fun _ => rfl, Or.inl (gT_of (tb_2 (List.mem_of_getElem? (i := 36) rfl)) rfl)⟩
theorem fg_X4_49 : kFG RX4 49 4 10 := ⟨RX4, TX4, kCl_4, by decide, Or.inl (gT_of (tb_2 (List.mem_of_getElem? (i := 37) rfl)) rfl)⟩
theorem fp_X4_49 : kFL RX4 49 4 10 true := ⟨RX4, TX4, kCl_4, by decide, rfl, fun _ => rfl, Or.inl (gT_of (tb_2 (List.mem_of_getElem? (i := 37) rfl)) rfl)⟩
theorem fg_X4_52 : kFG RX4 52 4 11 := ⟨RX4, TX4, kCl_4, by decide, Or.inl (gT_of (tb_2 (List.mem_of_getElem? (i := 38) rfl)) rfl)⟩
theorem fp_X4_52 : kFL RX4 52 4 11 true := ⟨RX4, TX4, kCl_4, by decide, rfl, fun _ => rfl, Or.inl (gT_of (tb_2 (List.mem_of_getElem? (i := 38) rfl)) rfl)⟩
theorem fg_X4_55 : kFG RX4 55 4 12 := ⟨RX4, TX4, kCl_4, by decide, Or.inl (gT_of (tb_2 (List.mem_of_getElem? (i := 39) rfl)) rfl)⟩
theorem fp_X4_55 : kFL RX4 55 4 12 true := ⟨RX4, TX4, kCl_4, by decide, rfl, fun _ => rfl, Or.inl (gT_of (tb_2 (List.mem_of_getElem? (i := 39) rfl)) rfl)⟩
theorem fg_X4_58 : kFG RX4 58 4 13 := ⟨RX4, TX4, kCl_4, by decide, Or.inl (gT_of (tb_2 (List.mem_of_getElem? (i := 40) rfl)) rfl)⟩
theorem fp_X4_58 : kFL RX4 58 4 13 true := ⟨RX4, TX4, kCl_4, by decide, rfl, fun _ => rfl, Or.inl (gT_of (tb_2 (List.mem_of_getElem? (i := 40) rfl)) rfl)⟩
theorem fg_X6_177 : kFG RX6 177 4 13 := ⟨RX4, TX4, kCl_4, by decide, Or.inl (gT_of (tb_2 (List.mem_of_getElem? (i := 41) rfl)) rfl)⟩
theorem fg_X4_61 : kFG RX4 61 4 14 := ⟨RX4, TX4, kCl_4, by decide, Or.inl (gT_of (tb_2 (List.mem_of_getElem? (i := 42) rfl)) rfl)⟩
theorem fp_X4_61 : kFL RX4 61 4 14 true := ⟨RX4, TX4, kCl_4, by decide, rfl, fun _ => rfl, Or.inl (gT_of (tb_2 (List.mem_of_getElem? (i := 42) rfl)) rfl)⟩
theorem fg_X6_181 : kFG RX6 181 4 14 := ⟨RX4, TX4, kCl_4, by decide, Or.inl (gT_of (tb_2 (List.mem_of_getElem? (i := 43) rfl)) rfl)⟩
theorem fg_X5_9 : kFG RX5 9 5 0 := ⟨RX5, TX5, kCl_5, by decide, Or.inl (gT_of (tb_2 (List.mem_of_getElem? (i := 80) rfl)) rfl)⟩
theorem fp_X5_9 : kFL RX5 9 5 0 false := ⟨RX5, TX5, kCl_5, by decide, rfl, fun _ => rfl, Or.inl (gT_of (tb_2 (List.mem_of_getElem? (i := 80) rfl)) rfl)⟩
theorem fg_X6_251 : kFG RX6 251 5 0 := ⟨RX5, TX5, kCl_5, by decide, Or.inl (gT_of (tb_2 (List.mem_of_getElem? (i := 81) rfl)) rfl)⟩
theorem fp_X6_251 : kFL RX6 251 5 0 false := ⟨RX5, TX5, kCl_5, by decide, rfl, (fun h => by cases h), Or.inl (gT_of (tb_2 (List.mem_of_getElem? (i := 81) rfl)) rfl)⟩
theorem fg_X5_15 : kFG RX5 15 5 1 := ⟨RX5, TX5, kCl_5, by decide, Or.inl (gT_of (tb_2 (List.mem_of_getElem? (i := 82) rfl)) rfl)⟩
theorem fp_X5_15 : kFL RX5 15 5 1 false := ⟨RX5, TX5, kCl_5, by decide, rfl, fun _ => rfl, Or.inl (gT_of (tb_2 (List.mem_of_getElem? (i := 82) rfl)) rfl)⟩
theorem fg_X6_252 : kFG RX6 252 5 1 := ⟨RX5, TX5, kCl_5, by decide, Or.inl (gT_of (tb_2 (List.mem_of_getElem? (i := 83) rfl)) rfl)⟩
theorem fp_X6_252 : kFL RX6 252 5 1 false := ⟨RX5, TX5, kCl_5, by decide, rfl, (fun h => by cases h), Or.inl (gT_of (tb_2 (List.mem_of_getElem? (i := 83) rfl)) rfl)⟩
theorem fg_X5_18 : kFG RX5 18 5 2 := ⟨RX5, TX5, kCl_5, by decide, Or.inl (gT_of (tb_2 (List.mem_of_getElem? (i := 84) rfl)) rfl)⟩
theorem fp_X5_18 : kFL RX5 18 5 2 true := ⟨RX5, TX5, kCl_5, by decide, rfl, fun _ => rfl, Or.inl (gT_of (tb_2 (List.mem_of_getElem? (i := 84) rfl)) rfl)⟩
theorem fg_X6_244 : kFG RX6 244 5 2 := ⟨RX5, TX5, kCl_5, by decide, Or.inl (gT_of (tb_2 (List.mem_of_getElem? (i := 85) rfl)) rfl)⟩
theorem fg_X6_40 : kFG RX6 40 6 0 := ⟨RX6, TX6, kCl_6, by decide, Or.inl (gT_of (tb_2 (List.mem_of_getElem? (i := 93) rfl)) rfl)⟩
theorem fp_X6_40 : kFL RX6 40 6 0 true := ⟨RX6, TX6, kCl_6, by decide, rfl, fun _ => rfl, Or.inl (gT_of (tb_2 (List.mem_of_getElem? (i := 93) rfl)) rfl)⟩
theorem fg_X6_47 : kFG RX6 47 6 1 := ⟨RX6, TX6, kCl_6, by decide, Or.inl (gT_of (tb_2 (List.mem_of_getElem? (i := 94) rfl)) rfl)⟩
theorem fp_X6_47 : kFL RX6 47 6 1 true := ⟨RX6, TX6, kCl_6, by decide, rfl, fun _ => rfl, Or.inl (gT_of (tb_2 (List.mem_of_getElem? (i := 94) rfl)) rfl)⟩
theorem fg_X6_51 : kFG RX6 51 6 2 := ⟨RX6, TX6, kCl_6, by decide, Or.inl (gT_of (tb_2 (List.mem_of_getElem? (i := 95) rfl)) rfl)⟩
theorem fp_X6_51 : kFL RX6 51 6 2 true := ⟨RX6, TX6, kCl_6, by decide, rfl, fun _ => rfl, Or.inl (gT_of (tb_2 (List.mem_of_getElem? (i := 95) rfl)) rfl)⟩
theorem fg_X6_11 : kFG RX6 11 6 3 := ⟨RX6, TX6, kCl_6, by decide, Or.inl (gT_of (tb_2 (List.mem_of_getElem? (i := 96) rfl)) rfl)⟩
theorem fp_X6_11 : kFL RX6 11 6 3 true := ⟨RX6, TX6, kCl_6, by decide, rfl, fun _ => rfl, Or.inl (gT_of (tb_2 (List.mem_of_getElem? (i := 96) rfl)) rfl)⟩
theorem fg_X6_15 : kFG RX6 15 6 4 := ⟨RX6, TX6, kCl_6, by decide, Or.inl (gT_of (tb_2 (List.mem_of_getElem? (i := 97) rfl)) rfl)⟩
theorem fp_X6_15 : kFL RX6 15 6 4 true := ⟨RX6, TX6, kCl_6, by decide, rfl, fun _ => rfl, Or.inl (gT_of (tb_2 (List.mem_of_getElem? (i := 97) rfl)) rfl)⟩
theorem fg_X6_22 : kFG RX6 22 6 5 := ⟨RX6, TX6, kCl_6, by decide, Or.inl (gT_of (tb_2 (List.mem_of_getElem? (i := 98) rfl)) rfl)⟩
theorem fp_X6_22 : kFL RX6 22 6 5 true := ⟨RX6, TX6, kCl_6, by decide, rfl, fun _ => rfl, Or.inl (gT_of (tb_2 (List.mem_of_getElem? (i := 98) rfl)) rfl)⟩
theorem fg_X6_28 : kFG RX6 28 6 6 := ⟨RX6, TX6, kCl_6, by decide, Or.inl (gT_of (tb_2 (List.mem_of_getElem? (i := 99) rfl)) rfl)⟩
theorem fp_X6_28 : kFL RX6 28 6 6 true := ⟨RX6, TX6, kCl_6, by decide, rfl, fun _ => rfl, Or.inl (gT_of (tb_2 (List.mem_of_getElem? (i := 99) rfl)) rfl)⟩
theorem fg_X7_7 : kFG RX7 7 7 0 := ⟨RX7, TX7, kCl_7, by decide, Or.inl (gT_of (tb_4 (List.mem_of_getElem? (i := 51) rfl)) rfl)⟩
theorem fp_X7_7 : kFL RX7 7 7 0 true := ⟨RX7, TX7, kCl_7, by decide, rfl, fun _ => rfl, Or.inl (gT_of (tb_4 (List.mem_of_getElem? (i := 51) rfl)) rfl)⟩
theorem fg_X7_13 : kFG RX7 13 7 1 := ⟨RX7, TX7, kCl_7, by decide, Or.inl (gT_of (tb_4 (List.mem_of_getElem? (i := 52) rfl)) rfl)⟩
theorem fp_X7_13 : kFL RX7 13 7 1 true := ⟨RX7, TX7, kCl_7, by decide, rfl, fun _ => rfl, Or.inl (gT_of (tb_4 (List.mem_of_getElem? (i := 52) rfl)) rfl)⟩
theorem fg_X7_17 : kFG RX7 17 7 2 := ⟨RX7, TX7, kCl_7, by decide, Or.inl (gT_of (tb_4 (List.mem_of_getElem? (i := 53) rfl)) rfl)⟩
theorem fp_X7_17 : kFL RX7 17 7 2 true := ⟨RX7, TX7, kCl_7, by decide, rfl, fun _ => rfl, Or.inl (gT_of (tb_4 (List.mem_of_getElem? (i := 53) rfl)) rfl)⟩
theorem fg_X7_106 : kFG RX7 106 7 3 := ⟨RX7, TX7, kCl_7, by decide, Or.inl (gT_of (tb_4 (List.mem_of_getElem? (i := 54) rfl)) rfl)⟩
theorem fp_X7_106 : kFL RX7 106 7 3 false := ⟨RX7, TX7, kCl_7, by decide, rfl, fun _ => rfl, Or.inl (gT_of (tb_4 (List.mem_of_getElem? (i := 54) rfl)) rfl)⟩
theorem fg_X7_20 : kFG RX7 20 7 4 := ⟨RX7, TX7, kCl_7, by decide, Or.inl (gT_of (tb_4 (List.mem_of_getElem? (i := 55) rfl)) rfl)⟩
theorem fp_X7_20 : kFL RX7 20 7 4 true := ⟨RX7, TX7, kCl_7, by decide, rfl, fun _ => rfl, Or.inl (gT_of (tb_4 (List.mem_of_getElem? (i := 55) rfl)) rfl)⟩
theorem fg_X7_23 : kFG RX7 23 7 5 := ⟨RX7, TX7, kCl_7, by decide, Or.inl (gT_of (tb_4 (List.mem_of_getElem? (i := 56) rfl)) rfl)⟩
theorem fp_X7_23 : kFL RX7 23 7 5 true := ⟨RX7, TX7, kCl_7, by decide, rfl, fun _ => rfl, Or.inl (gT_of (tb_4 (List.mem_of_getElem? (i := 56) rfl)) rfl)⟩
theorem fg_X7_26 : kFG RX7 26 7 6 := ⟨RX7, TX7, kCl_7, by decide, Or.inl (gT_of (tb_4 (List.mem_of_getElem? (i := 57) rfl)) rfl)⟩
theorem fp_X7_26 : kFL RX7 26 7 6 true := ⟨RX7, TX7, kCl_7, by decide, rfl, fun _ => rfl, Or.inl (gT_of (tb_4 (List.mem_of_getElem? (i := 57) rfl)) rfl)⟩
theorem fg_X7_29 : kFG RX7 29 7 7 := ⟨RX7, TX7, kCl_7, by decide, Or.inl (gT_of (tb_4 (List.mem_of_getElem? (i := 58) rfl)) rfl)⟩
theorem fp_X7_29 : kFL RX7 29 7 7 true := ⟨RX7, TX7, kCl_7, by decide, rfl, fun _ => rfl, Or.inl (gT_of (tb_4 (List.mem_of_getElem? (i := 58) rfl)) rfl)⟩
theorem fg_X7_32 : kFG RX7 32 7 8 := ⟨RX7, TX7, kCl_7, by decide, Or.inl (gT_of (tb_4 (List.mem_of_getElem? (i := 59) rfl)) rfl)⟩
theorem fp_X7_32 : kFL RX7 32 7 8 true := ⟨RX7, TX7, kCl_7, by decide, rfl, fun _ => rfl, Or.inl (gT_of (tb_4 (List.mem_of_getElem? (i := 59) rfl)) rfl)⟩
theorem fg_X7_35 : kFG RX7 35 7 9 := ⟨RX7, TX7, kCl_7, by decide, Or.inl (gT_of (tb_4 (List.mem_of_getElem? (i := 60) rfl)) rfl)⟩
theorem fp_X7_35 : kFL RX7 35 7 9 true := ⟨RX7, TX7, kCl_7, by decide, rfl, fun _ => rfl, Or.inl (gT_of (tb_4 (List.mem_of_getElem? (i := 60) rfl)) rfl)⟩
theorem fg_X7_110 : kFG RX7 110 7 10 := ⟨RX7, TX7, kCl_7, by decide, Or.inl (gT_of (tb_4 (List.mem_of_getElem? (i := 61) rfl)) rfl)⟩
theorem fp_X7_110 : kFL RX7 110 7 10 false := ⟨RX7, TX7, kCl_7, by decide, rfl, fun _ => rfl, Or.inl (gT_of (tb_4 (List.mem_of_getElem? (i := 61) rfl)) rfl)⟩
theorem fg_X7_137 : kFG RX7 137 7 11 := ⟨RX7, TX7, kCl_7, by decide, Or.inl (gT_of (tb_4 (List.mem_of_getElem? (i := 62) rfl)) rfl)⟩
theorem fp_X7_137 : kFL RX7 137 7 11 false := ⟨RX7, TX7, kCl_7, by decide, rfl, fun _ => rfl, Or.inl (gT_of (tb_4 (List.mem_of_getElem? (i := 62) rfl)) rfl)⟩
theorem fg_X7_140 : kFG RX7 140 7 12 := ⟨RX7, TX7, kCl_7, by decide, Or.inl (gT_of (tb_4 (List.mem_of_getElem? (i := 63) rfl)) rfl)⟩
theorem fp_X7_140 : kFL RX7 140 7 12 false := ⟨RX7, TX7, kCl_7, by decide, rfl, fun _ => rfl, Or.inl (gT_of (tb_4 (List.mem_of_getElem? (i := 63) rfl)) rfl)⟩
theorem fg_X7_38 : kFG RX7 38 7 13 := ⟨RX7, TX7, kCl_7, by decide, Or.inl (gT_of (tb_4 (List.mem_of_getElem? (i := 64) rfl)) rfl)⟩
theorem fp_X7_38 : kFL RX7 38 7 13 true := ⟨RX7, TX7, kCl_7, by decide, rfl, fun _ => rfl, Or.inl (gT_of (tb_4 (List.mem_of_getElem? (i := 64) rfl)) rfl)⟩
theorem fg_X7_41 : kFG RX7 41 7 14 := ⟨RX7, TX7, kCl_7, by decide, Or.inl (gT_of (tb_4 (List.mem_of_getElem? (i := 65) rfl)) rfl)⟩
theorem fp_X7_41 : kFL RX7 41 7 14 true := ⟨RX7, TX7, kCl_7, by decide, rfl, fun _ => rfl, Or.inl (gT_of (tb_4 (List.mem_of_getElem? (i := 65) rfl)) rfl)⟩
theorem fg_X7_44 : kFG RX7 44 7 15 := ⟨RX7, TX7, kCl_7, by decide, Or.inl (gT_of (tb_4 (List.mem_of_getElem? (i := 66) rfl)) rfl)⟩
theorem fp_X7_44 : kFL RX7 44 7 15 true := ⟨RX7, TX7, kCl_7, by decide, rfl, fun _ => rfl, Or.inl (gT_of (tb_4 (List.mem_of_getElem? (i := 66) rfl)) rfl)⟩
theorem fg_X7_156 : kFG RX7 156 7 16 := ⟨RX7, TX7, kCl_7, by decide, Or.inl (gT_of (tb_4 (List.mem_of_getElem? (i := 67) rfl)) rfl)⟩
theorem fp_X7_156 : kFL RX7 156 7 16 false := ⟨RX7, TX7, kCl_7, by decide, rfl, fun _ => rfl, Or.inl (gT_of (tb_4 (List.mem_of_getElem? (i := 67) rfl)) rfl)⟩
theorem fg_X7_159 : kFG RX7 159 7 17 := ⟨RX7, TX7, kCl_7, by decide, Or.inl (gT_of (tb_4 (List.mem_of_getElem? (i := 68) rfl)) rfl)⟩
theorem fp_X7_159 : kFL RX7 159 7 17 false := ⟨RX7, TX7, kCl_7, by decide, rfl, fun _ => rfl, Or.inl (gT_of (tb_4 (List.mem_of_getElem? (i := 68) rfl)) rfl)⟩
theorem fg_X7_47 : kFG RX7 47 7 18 := ⟨RX7, TX7, kCl_7, by decide, Or.inl (gT_of (tb_4 (List.mem_of_getElem? (i := 69) rfl)) rfl)⟩
theorem fp_X7_47 : kFL RX7 47 7 18 true := ⟨RX7, TX7, kCl_7, by decide, rfl, fun _ => rfl, Or.inl (gT_of (tb_4 (List.mem_of_getElem? (i := 69) rfl)) rfl)⟩
theorem fg_X7_50 : kFG RX7 50 7 19 := ⟨RX7, TX7, kCl_7, by decide, Or.inl (gT_of (tb_4 (List.mem_of_getElem? (i := 70) rfl)) rfl)⟩
theorem fp_X7_50 : kFL RX7 50 7 19 true := ⟨RX7, TX7, kCl_7, by decide, rfl, fun _ => rfl, Or.inl (gT_of (tb_4 (List.mem_of_getElem? (i := 70) rfl)) rfl)⟩
theorem fg_X7_203 : kFG RX7 203 7 20 := ⟨RX7, TX7, kCl_7, by decide, Or.inl (gT_of (tb_4 (List.mem_of_getElem? (i := 71) rfl)) rfl)⟩
theorem fp_X7_203 : kFL RX7 203 7 20 false := ⟨RX7, TX7, kCl_7, by decide, rfl, fun _ => rfl, Or.inl (gT_of (tb_4 (List.mem_of_getElem? (i := 71) rfl)) rfl)⟩
theorem mb_L_9 : kMB RL 9 0 mX6_init := ⟨gT_of (tb_1 (List.mem_of_getElem? (i := 15) rfl)) rfl, gT_of (tb_1 (List.mem_of_getElem? (i := 1) rfl)) rfl, gT_of (tb_1 (List.mem_of_getElem? (i := 17) rfl)) rfl, ⟨by decide +kernel, by decide +kernel, by decide +kernel⟩, by decide⟩
theorem mc_L_9 : kMC RL 9 0 mX6_init := ⟨mb_L_9, gT_of (tb_1 (List.mem_of_getElem? (i := 16) rfl)) rfl, rfl, rfl⟩
theorem mn_X6_21 : kMN RX6 21 0 mX2_init := ⟨by decide +kernel, gT_of (tb_1 (List.mem_of_getElem? (i := 2) rfl)) rfl, gT_of (tb_1 (List.mem_of_getElem? (i := 27) rfl)) rfl, ⟨by decide +kernel, by decide +kernel, by decide +kernel⟩, by decide, gT_of (tb_1 (List.mem_of_getElem? (i := 26) rfl)) rfl, rfl, rfl⟩
theorem mn_X6_34 : kMN RX6 34 0 mX3_init := ⟨by decide +kernel, gT_of (tb_1 (List.mem_of_getElem? (i := 3) rfl)) rfl, gT_of (tb_1 (List.mem_of_getElem? (i := 52) rfl)) rfl, ⟨by decide +kernel, by decide +kernel, by decide +kernel⟩, by decide, gT_of (tb_1 (List.mem_of_getElem? (i := 51) rfl)) rfl, rfl, rfl⟩
theorem mb_X6_37 : kMB RX6 37 1 mX1_init := ⟨gT_of (tb_1 (List.mem_of_getElem? (i := 118) rfl)) rfl, gT_of (tb_1 (List.mem_of_getElem? (i := 4) rfl)) rfl, gT_of (tb_1 (List.mem_of_getElem? (i := 120) rfl)) rfl, ⟨by decide +kernel, by decide +kernel, by decide +kernel⟩, by decide⟩
theorem mc_X6_37 : kMC RX6 37 1 mX1_init := ⟨mb_X6_37, gT_of (tb_1 (List.mem_of_getElem? (i := 119) rfl)) rfl, rfl, rfl⟩
theorem mb_X1_25 : kMB RX1 25 2 mJ7_copyOf_59c91 := ⟨gT_of (tb_1 (List.mem_of_getElem? (i := 122) rfl)) rfl, gT_of (tb_1 (List.mem_of_getElem? (i := 5) rfl)) rfl, gT_of (tb_1 (List.mem_of_getElem? (i := 124) rfl)) rfl, ⟨by decide +kernel, by decide +kernel, by decide +kernel⟩, by decide⟩
theorem ms_X1_25 : kMS RX1 25 2 mJ7_copyOf_59c91 := ⟨mb_X1_25, gT_of (tb_1 (List.mem_of_getElem? (i := 123) rfl)) rfl⟩
theorem mb_J7_304 : kMB RJ7 304 2 mJ9_min_7cf53 := ⟨gT_of (tb_1 (List.mem_of_getElem? (i := 132) rfl)) rfl, gT_of (tb_1 (List.mem_of_getElem? (i := 6) rfl)) rfl, gT_of (tb_1 (List.mem_of_getElem? (i := 134) rfl)) rfl, ⟨by decide +kernel, by decide +kernel, by decide +kernel⟩, by decide⟩
theorem ms_J7_304 : kMS RJ7 304 2 mJ9_min_7cf53 := ⟨mb_J7_304, gT_of (tb_1 (List.mem_of_getElem? (i := 133) rfl)) rfl⟩
theorem mb_X6_44 : kMB RX6 44 1 mX4_init := ⟨gT_of (tb_1 (List.mem_of_getElem? (i := 168) rfl)) rfl, gT_of (tb_1 (List.mem_of_getElem? (i := 8) rfl)) rfl, gT_of (tb_1 (List.mem_of_getElem? (i := 170) rfl)) rfl, ⟨by decide +kernel, by decide +kernel, by decide +kernel⟩, by decide⟩
theorem mc_X6_44 : kMC RX6 44 1 mX4_init := ⟨mb_X6_44, gT_of (tb_1 (List.mem_of_getElem? (i := 169) rfl)) rfl, rfl, rfl⟩
theorem mn_X4_64 : kMN RX4 64 0 mX0_init := ⟨by decide +kernel, gT_of (tb_1 (List.mem_of_getElem? (i := 9) rfl)) rfl, gT_of (tb_1 (List.mem_of_getElem? (i := 179) rfl)) rfl, ⟨by decide +kernel, by decide +kernel, by decide +kernel⟩, by decide, gT_of (tb_1 (List.mem_of_getElem? (i := 178) rfl)) rfl, rfl, rfl⟩
theorem mn_X6_54 : kMN RX6 54 0 mX5_init := ⟨by decide +kernel, gT_of (tb_1 (List.mem_of_getElem? (i := 10) rfl)) rfl, gT_of (tb_2 (List.mem_of_getElem? (i := 78) rfl)) rfl, ⟨by decide +kernel, by decide +kernel, by decide +kernel⟩, by decide, gT_of (tb_2 (List.mem_of_getElem? (i := 77) rfl)) rfl, rfl, rfl⟩
theorem mb_L_13 : kMB RL 13 2 mX6_ring := ⟨gT_of (tb_2 (List.mem_of_getElem? (i := 115) rfl)) rfl, gT_of (tb_1 (List.mem_of_getElem? (i := 1) rfl)) rfl, gT_of (tb_2 (List.mem_of_getElem? (i := 118) rfl)) rfl, ⟨by decide +kernel, by decide +kernel, by decide +kernel⟩, by decide⟩
theorem mv_L_13 : kMV RL 13 2 mX6_ring := ⟨mb_L_13, gT_of (tb_2 (List.mem_of_getElem? (i := 116) rfl)) rfl, gT_of (tb_2 (List.mem_of_getElem? (i := 117) rfl)) rfl⟩
theorem mb_X6_55 : kMB RX6 55 1 mX6_changeLength := ⟨gT_of (tb_2 (List.mem_of_getElem? (i := 119) rfl)) rfl, gT_of (tb_1 (List.mem_of_getElem? (i := 1) rfl)) rfl, gT_of (tb_2 (List.mem_of_getElem? (i := 122) rfl)) rfl, ⟨by decide +kernel, by decide +kernel, by decide +kernel⟩, by decide⟩
theorem mv_X6_55 : kMV RX6 55 1 mX6_changeLength := ⟨mb_X6_55, gT_of (tb_2 (List.mem_of_getElem? (i := 121) rfl)) rfl, List.mem_filter.mpr ⟨List.mem_append_left _ (List.mem_of_getElem? (i := 0) rfl), rfl⟩⟩
theorem mb_X6_59 : kMB RX6 59 3 mX6_within := ⟨gT_of (tb_2 (List.mem_of_getElem? (i := 123) rfl)) rfl, gT_of (tb_1 (List.mem_of_getElem? (i := 1) rfl)) rfl, gT_of (tb_2 (List.mem_of_getElem? (i := 125) rfl)) rfl, ⟨by decide +kernel, by decide +kernel, by decide +kernel⟩, by decide⟩
theorem ms_X6_59 : kMS RX6 59 3 mX6_within := ⟨mb_X6_59, gT_of (tb_2 (List.mem_of_getElem? (i := 124) rfl)) rfl⟩
theorem mb_L_18 : kMB RL 18 3 mX6_car := ⟨gT_of (tb_2 (List.mem_of_getElem? (i := 126) rfl)) rfl, gT_of (tb_1 (List.mem_of_getElem? (i := 1) rfl)) rfl, gT_of (tb_2 (List.mem_of_getElem? (i := 129) rfl)) rfl, ⟨by decide +kernel, by decide +kernel, by decide +kernel⟩, by decide⟩
theorem mv_L_18 : kMV RL 18 3 mX6_car := ⟨mb_L_18, gT_of (tb_2 (List.mem_of_getElem? (i := 127) rfl)) rfl, gT_of (tb_2 (List.mem_of_getElem? (i := 128) rfl)) rfl⟩
theorem mb_X6_79 : kMB RX6 79 1 mX6_isCell := ⟨gT_of (tb_2 (List.mem_of_getElem? (i := 130) rfl)) rfl, gT_of (tb_1 (List.mem_of_getElem? (i := 1) rfl)) rfl, gT_of (tb_2 (List.mem_of_getElem? (i := 133) rfl)) rfl, ⟨by decide +kernel, by decide +kernel, by decide +kernel⟩, by decide⟩
theorem mv_X6_79 : kMV RX6 79 1 mX6_isCell := ⟨mb_X6_79, gT_of (tb_2 (List.mem_of_getElem? (i := 132) rfl)) rfl, List.mem_filter.mpr ⟨List.mem_append_left _ (List.mem_of_getElem? (i := 1) rfl), rfl⟩⟩
theorem mb_X6_83 : kMB RX6 83 1 mX6_isPace := ⟨gT_of (tb_2 (List.mem_of_getElem? (i := 134) rfl)) rfl, gT_of (tb_1 (List.mem_of_getElem? (i := 1) rfl)) rfl, gT_of (tb_2 (List.mem_of_getElem? (i := 136) rfl)) rfl, ⟨by decide +kernel, by decide +kernel, by decide +kernel⟩, by decide⟩
theorem ms_X6_83 : kMS RX6 83 1 mX6_isPace := ⟨mb_X6_83, gT_of (tb_2 (List.mem_of_getElem? (i := 135) rfl)) rfl⟩
theorem mb_X6_86 : kMB RX6 86 2 mX4_isTaken := ⟨gT_of (tb_2 (List.mem_of_getElem? (i := 137) rfl)) rfl, gT_of (tb_1 (List.mem_of_getElem? (i := 8) rfl)) rfl, gT_of (tb_2 (List.mem_of_getElem? (i := 140) rfl)) rfl, ⟨by decide +kernel, by decide +kernel, by decide +kernel⟩, by decide⟩
theorem mv_X6_86 : kMV RX6 86 2 mX4_isTaken := ⟨mb_X6_86, gT_of (tb_2 (List.mem_of_getElem? (i := 138) rfl)) rfl, gT_of (tb_2 (List.mem_of_getElem? (i := 139) rfl)) rfl⟩
theorem mb_X6_90 : kMB RX6 90 3 mX4_addCar := ⟨gT_of (tb_2 (List.mem_of_getElem? (i := 141) rfl)) rfl, gT_of (tb_1 (List.mem_of_getElem? (i := 8) rfl)) rfl, gT_of (tb_2 (List.mem_of_getElem? (i := 144) rfl)) rfl, ⟨by decide +kernel, by decide +kernel, by decide +kernel⟩, by decide⟩
theorem mv_X6_90 : kMV RX6 90 3 mX4_addCar := ⟨mb_X6_90, gT_of (tb_2 (List.mem_of_getElem? (i := 142) rfl)) rfl, gT_of (tb_2 (List.mem_of_getElem? (i := 143) rfl)) rfl⟩
theorem mb_X4_73 : kMB RX4 73 3 mX0_begin := ⟨gT_of (tb_2 (List.mem_of_getElem? (i := 145) rfl)) rfl, gT_of (tb_1 (List.mem_of_getElem? (i := 9) rfl)) rfl, gT_of (tb_2 (List.mem_of_getElem? (i := 148) rfl)) rfl, ⟨by decide +kernel, by decide +kernel, by decide +kernel⟩, by decide⟩
theorem mv_X4_73 : kMV RX4 73 3 mX0_begin := ⟨mb_X4_73, gT_of (tb_2 (List.mem_of_getElem? (i := 146) rfl)) rfl, gT_of (tb_2 (List.mem_of_getElem? (i := 147) rfl)) rfl⟩
theorem mb_L_23 : kMB RL 23 2 mX6_evenly := ⟨gT_of (tb_2 (List.mem_of_getElem? (i := 149) rfl)) rfl, gT_of (tb_1 (List.mem_of_getElem? (i := 1) rfl)) rfl, gT_of (tb_2 (List.mem_of_getElem? (i := 152) rfl)) rfl, ⟨by decide +kernel, by decide +kernel, by decide +kernel⟩, by decide⟩
theorem mv_L_23 : kMV RL 23 2 mX6_evenly := ⟨mb_L_23, gT_of (tb_2 (List.mem_of_getElem? (i := 150) rfl)) rfl, gT_of (tb_2 (List.mem_of_getElem? (i := 151) rfl)) rfl⟩
theorem mb_L_27 : kMB RL 27 3 mX6_set := ⟨gT_of (tb_2 (List.mem_of_getElem? (i := 153) rfl)) rfl, gT_of (tb_1 (List.mem_of_getElem? (i := 1) rfl)) rfl, gT_of (tb_2 (List.mem_of_getElem? (i := 156) rfl)) rfl, ⟨by decide +kernel, by decide +kernel, by decide +kernel⟩, by decide⟩
theorem mv_L_27 : kMV RL 27 3 mX6_set := ⟨mb_L_27, gT_of (tb_2 (List.mem_of_getElem? (i := 154) rfl)) rfl, gT_of (tb_2 (List.mem_of_getElem? (i := 155) rfl)) rfl⟩
theorem mb_X6_97 : kMB RX6 97 1 mX6_isCar := ⟨gT_of (tb_2 (List.mem_of_getElem? (i := 157) rfl)) rfl, gT_of (tb_1 (List.mem_of_getElem? (i := 1) rfl)) rfl, gT_of (tb_2 (List.mem_of_getElem? (i := 160) rfl)) rfl, ⟨by decide +kernel, by decide +kernel, by decide +kernel⟩, by decide⟩
theorem mv_X6_97 : kMV RX6 97 1 mX6_isCar := ⟨mb_X6_97, gT_of (tb_2 (List.mem_of_getElem? (i := 159) rfl)) rfl, List.mem_filter.mpr ⟨List.mem_append_left _ (List.mem_of_getElem? (i := 2) rfl), rfl⟩⟩
theorem mb_L_31 : kMB RL 31 2 mX6_told := ⟨gT_of (tb_2 (List.mem_of_getElem? (i := 161) rfl)) rfl, gT_of (tb_1 (List.mem_of_getElem? (i := 1) rfl)) rfl, gT_of (tb_2 (List.mem_of_getElem? (i := 164) rfl)) rfl, ⟨by decide +kernel, by decide +kernel, by decide +kernel⟩, by decide⟩
theorem mv_L_31 : kMV RL 31 2 mX6_told := ⟨mb_L_31, gT_of (tb_2 (List.mem_of_getElem? (i := 162) rfl)) rfl, gT_of (tb_2 (List.mem_of_getElem? (i := 163) rfl)) rfl⟩
theorem mb_X6_112 : kMB RX6 112 1 mX4_lookFrom := ⟨gT_of (tb_2 (List.mem_of_getElem? (i := 165) rfl)) rfl, gT_of (tb_1 (List.mem_of_getElem? (i := 8) rfl)) rfl, gT_of (tb_2 (List.mem_of_getElem? (i := 168) rfl)) rfl, ⟨by decide +kernel, by decide +kernel, by decide +kernel⟩, by decide⟩
theorem mv_X6_112 : kMV RX6 112 1 mX4_lookFrom := ⟨mb_X6_112, gT_of (tb_2 (List.mem_of_getElem? (i := 166) rfl)) rfl, gT_of (tb_2 (List.mem_of_getElem? (i := 167) rfl)) rfl⟩
theorem mb_X4_93 : kMB RX4 93 2 mX4_cellsOn := ⟨gT_of (tb_2 (List.mem_of_getElem? (i := 169) rfl)) rfl, gT_of (tb_1 (List.mem_of_getElem? (i := 8) rfl)) rfl, gT_of (tb_2 (List.mem_of_getElem? (i := 172) rfl)) rfl, ⟨by decide +kernel, by decide +kernel, by decide +kernel⟩, by decide⟩
theorem mv_X4_93 : kMV RX4 93 2 mX4_cellsOn := ⟨mb_X4_93, gT_of (tb_2 (List.mem_of_getElem? (i := 171) rfl)) rfl, List.mem_filter.mpr ⟨List.mem_append_left _ (List.mem_of_getElem? (i := 3) rfl), rfl⟩⟩
theorem mb_L_37 : kMB RL 37 2 mX6_type := ⟨gT_of (tb_2 (List.mem_of_getElem? (i := 173) rfl)) rfl, gT_of (tb_1 (List.mem_of_getElem? (i := 1) rfl)) rfl, gT_of (tb_2 (List.mem_of_getElem? (i := 176) rfl)) rfl, ⟨by decide +kernel, by decide +kernel, by decide +kernel⟩, by decide⟩
theorem mv_L_37 : kMV RL 37 2 mX6_type := ⟨mb_L_37, gT_of (tb_2 (List.mem_of_getElem? (i := 174) rfl)) rfl, gT_of (tb_2 (List.mem_of_getElem? (i := 175) rfl)) rfl⟩
theorem mb_X6_140 : kMB RX6 140 2 mX6_byteOf := ⟨gT_of (tb_2 (List.mem_of_getElem? (i := 177) rfl)) rfl, gT_of (tb_1 (List.mem_of_getElem? (i := 1) rfl)) rfl, gT_of (tb_2 (List.mem_of_getElem? (i := 179) rfl)) rfl, ⟨by decide +kernel, by decide +kernel, by decide +kernel⟩, by decide⟩
theorem ms_X6_140 : kMS RX6 140 2 mX6_byteOf := ⟨mb_X6_140, gT_of (tb_2 (List.mem_of_getElem? (i := 178) rfl)) rfl⟩
theorem mb_X6_147 : kMB RX6 147 1 mX3_append := ⟨gT_of (tb_2 (List.mem_of_getElem? (i := 180) rfl)) rfl, gT_of (tb_1 (List.mem_of_getElem? (i := 3) rfl)) rfl, gT_of (tb_2 (List.mem_of_getElem? (i := 183) rfl)) rfl, ⟨by decide +kernel, by decide +kernel, by decide +kernel⟩, by decide⟩
theorem mv_X6_147 : kMV RX6 147 1 mX3_append := ⟨mb_X6_147, gT_of (tb_2 (List.mem_of_getElem? (i := 181) rfl)) rfl, gT_of (tb_2 (List.mem_of_getElem? (i := 182) rfl)) rfl⟩
theorem mb_L_42 : kMB RL 42 1 mX6_habit := ⟨gT_of (tb_2 (List.mem_of_getElem? (i := 184) rfl)) rfl, gT_of (tb_1 (List.mem_of_getElem? (i := 1) rfl)) rfl, gT_of (tb_2 (List.mem_of_getElem? (i := 187) rfl)) rfl, ⟨by decide +kernel, by decide +kernel, by decide +kernel⟩, by decide⟩
theorem mv_L_42 : kMV RL 42 1 mX6_habit := ⟨mb_L_42, gT_of (tb_2 (List.mem_of_getElem? (i := 185) rfl)) rfl, gT_of (tb_2 (List.mem_of_getElem? (i := 186) rfl)) rfl⟩
theorem mb_X6_150 : kMB RX6 150 0 mX3_readHabit := ⟨gT_of (tb_2 (List.mem_of_getElem? (i := 188) rfl)) rfl, gT_of (tb_1 (List.mem_of_getElem? (i := 3) rfl)) rfl, gT_of (tb_2 (List.mem_of_getElem? (i := 191) rfl)) rfl, ⟨by decide +kernel, by decide +kernel, by decide +kernel⟩, by decide⟩
theorem mv_X6_150 : kMV RX6 150 0 mX3_readHabit := ⟨mb_X6_150, gT_of (tb_2 (List.mem_of_getElem? (i := 189) rfl)) rfl, gT_of (tb_2 (List.mem_of_getElem? (i := 190) rfl)) rfl⟩
theorem mb_X3_61 : kMB RX3 61 0 mX3_newLabel := ⟨gT_of (tb_2 (List.mem_of_getElem? (i := 192) rfl)) rfl, gT_of (tb_1 (List.mem_of_getElem? (i := 3) rfl)) rfl, gT_of (tb_2 (List.mem_of_getElem? (i := 195) rfl)) rfl, ⟨by decide +kernel, by decide +kernel, by decide +kernel⟩, by decide⟩
theorem mv_X3_61 : kMV RX3 61 0 mX3_newLabel := ⟨mb_X3_61, gT_of (tb_2 (List.mem_of_getElem? (i := 194) rfl)) rfl, List.mem_filter.mpr ⟨List.mem_append_left _ (List.mem_of_getElem? (i := 4) rfl), rfl⟩⟩
theorem mb_X3_112 : kMB RX3 112 2 mJ9_min_7cf53 := ⟨gT_of (tb_2 (List.mem_of_getElem? (i := 196) rfl)) rfl, gT_of (tb_1 (List.mem_of_getElem? (i := 6) rfl)) rfl, gT_of (tb_1 (List.mem_of_getElem? (i := 134) rfl)) rfl, ⟨by decide +kernel, by decide +kernel, by decide +kernel⟩, by decide⟩
theorem ms_X3_112 : kMS RX3 112 2 mJ9_min_7cf53 := ⟨mb_X3_112, gT_of (tb_1 (List.mem_of_getElem? (i := 133) rfl)) rfl⟩
theorem mb_X3_65 : kMB RX3 65 3 mX3_readTest := ⟨gT_of (tb_2 (List.mem_of_getElem? (i := 197) rfl)) rfl, gT_of (tb_1 (List.mem_of_getElem? (i := 3) rfl)) rfl, gT_of (tb_2 (List.mem_of_getElem? (i := 200) rfl)) rfl, ⟨by decide +kernel, by decide +kernel, by decide +kernel⟩, by decide⟩
theorem mv_X3_65 : kMV RX3 65 3 mX3_readTest := ⟨mb_X3_65, gT_of (tb_2 (List.mem_of_getElem? (i := 199) rfl)) rfl, List.mem_filter.mpr ⟨List.mem_append_left _ (List.mem_of_getElem? (i := 5) rfl), rfl⟩⟩
theorem mb_X3_93 : kMB RX3 93 3 mX3_readCase := ⟨gT_of (tb_2 (List.mem_of_getElem? (i := 201) rfl)) rfl, gT_of (tb_1 (List.mem_of_getElem? (i := 3) rfl)) rfl, gT_of (tb_2 (List.mem_of_getElem? (i := 204) rfl)) rfl, ⟨by decide +kernel, by decide +kernel, by decide +kernel⟩, by decide⟩
theorem mv_X3_93 : kMV RX3 93 3 mX3_readCase := ⟨mb_X3_93, gT_of (tb_2 (List.mem_of_getElem? (i := 203) rfl)) rfl, List.mem_filter.mpr ⟨List.mem_append_left _ (List.mem_of_getElem? (i := 6) rfl), rfl⟩⟩
theorem mb_X3_69 : kMB RX3 69 1 mX3_take := ⟨gT_of (tb_2 (List.mem_of_getElem? (i := 205) rfl)) rfl, gT_of (tb_1 (List.mem_of_getElem? (i := 3) rfl)) rfl, gT_of (tb_2 (List.mem_of_getElem? (i := 208) rfl)) rfl, ⟨by decide +kernel, by decide +kernel, by decide +kernel⟩, by decide⟩
theorem mv_X3_69 : kMV RX3 69 1 mX3_take := ⟨mb_X3_69, gT_of (tb_2 (List.mem_of_getElem? (i := 207) rfl)) rfl, List.mem_filter.mpr ⟨List.mem_append_left _ (List.mem_of_getElem? (i := 7) rfl), rfl⟩⟩
theorem mb_X3_81 : kMB RX3 81 0 mX3_next := ⟨gT_of (tb_2 (List.mem_of_getElem? (i := 209) rfl)) rfl, gT_of (tb_1 (List.mem_of_getElem? (i := 3) rfl)) rfl, gT_of (tb_2 (List.mem_of_getElem? (i := 212) rfl)) rfl, ⟨by decide +kernel, by decide +kernel, by decide +kernel⟩, by decide⟩
theorem mv_X3_81 : kMV RX3 81 0 mX3_next := ⟨mb_X3_81, gT_of (tb_2 (List.mem_of_getElem? (i := 211) rfl)) rfl, List.mem_filter.mpr ⟨List.mem_append_left _ (List.mem_of_getElem? (i := 8) rfl), rfl⟩⟩
theorem mb_X3_99 : kMB RX3 99 3 mX3_readBare := ⟨gT_of (tb_2 (List.mem_of_getElem? (i := 213) rfl)) rfl, gT_of (tb_1 (List.mem_of_getElem? (i := 3) rfl)) rfl, gT_of (tb_2 (List.mem_of_getElem? (i := 216) rfl)) rfl, ⟨by decide +kernel, by decide +kernel, by decide +kernel⟩, by decide⟩
theorem mv_X3_99 : kMV RX3 99 3 mX3_readBare := ⟨mb_X3_99, gT_of (tb_2 (List.mem_of_getElem? (i := 215) rfl)) rfl, List.mem_filter.mpr ⟨List.mem_append_left _ (List.mem_of_getElem? (i := 9) rfl), rfl⟩⟩
theorem mb_X3_102 : kMB RX3 102 3 mX3_addClaim := ⟨gT_of (tb_2 (List.mem_of_getElem? (i := 217) rfl)) rfl, gT_of (tb_1 (List.mem_of_getElem? (i := 3) rfl)) rfl, gT_of (tb_2 (List.mem_of_getElem? (i := 220) rfl)) rfl, ⟨by decide +kernel, by decide +kernel, by decide +kernel⟩, by decide⟩
theorem mv_X3_102 : kMV RX3 102 3 mX3_addClaim := ⟨mb_X3_102, gT_of (tb_2 (List.mem_of_getElem? (i := 219) rfl)) rfl, List.mem_filter.mpr ⟨List.mem_append_left _ (List.mem_of_getElem? (i := 10) rfl), rfl⟩⟩
theorem mb_X3_106 : kMB RX3 106 0 mX3_readComparison := ⟨gT_of (tb_2 (List.mem_of_getElem? (i := 221) rfl)) rfl, gT_of (tb_1 (List.mem_of_getElem? (i := 3) rfl)) rfl, gT_of (tb_2 (List.mem_of_getElem? (i := 224) rfl)) rfl, ⟨by decide +kernel, by decide +kernel, by decide +kernel⟩, by decide⟩
theorem mv_X3_106 : kMV RX3 106 0 mX3_readComparison := ⟨mb_X3_106, gT_of (tb_2 (List.mem_of_getElem? (i := 223) rfl)) rfl, List.mem_filter.mpr ⟨List.mem_append_left _ (List.mem_of_getElem? (i := 11) rfl), rfl⟩⟩
theorem mb_X3_90 : kMB RX3 90 1 mX3_isDigit := ⟨gT_of (tb_2 (List.mem_of_getElem? (i := 225) rfl)) rfl, gT_of (tb_1 (List.mem_of_getElem? (i := 3) rfl)) rfl, gT_of (tb_2 (List.mem_of_getElem? (i := 227) rfl)) rfl, ⟨by decide +kernel, by decide +kernel, by decide +kernel⟩, by decide⟩
theorem ms_X3_90 : kMS RX3 90 1 mX3_isDigit := ⟨mb_X3_90, gT_of (tb_2 (List.mem_of_getElem? (i := 226) rfl)) rfl⟩
theorem mb_X3_109 : kMB RX3 109 0 mX3_readNumber := ⟨gT_of (tb_2 (List.mem_of_getElem? (i := 228) rfl)) rfl, gT_of (tb_1 (List.mem_of_getElem? (i := 3) rfl)) rfl, gT_of (tb_2 (List.mem_of_getElem? (i := 231) rfl)) rfl, ⟨by decide +kernel, by decide +kernel, by decide +kernel⟩, by decide⟩
theorem mv_X3_109 : kMV RX3 109 0 mX3_readNumber := ⟨mb_X3_109, gT_of (tb_2 (List.mem_of_getElem? (i := 230) rfl)) rfl, List.mem_filter.mpr ⟨List.mem_append_left _ (List.mem_of_getElem? (i := 12) rfl), rfl⟩⟩
theorem mb_X3_96 : kMB RX3 96 2 mX3_join := ⟨gT_of (tb_2 (List.mem_of_getElem? (i := 232) rfl)) rfl, gT_of (tb_1 (List.mem_of_getElem? (i := 3) rfl)) rfl, gT_of (tb_2 (List.mem_of_getElem? (i := 235) rfl)) rfl, ⟨by decide +kernel, by decide +kernel, by decide +kernel⟩, by decide⟩
theorem mv_X3_96 : kMV RX3 96 2 mX3_join := ⟨mb_X3_96, gT_of (tb_2 (List.mem_of_getElem? (i := 234) rfl)) rfl, List.mem_filter.mpr ⟨List.mem_append_left _ (List.mem_of_getElem? (i := 13) rfl), rfl⟩⟩
theorem mb_X3_87 : kMB RX3 87 2 mX3_fix := ⟨gT_of (tb_2 (List.mem_of_getElem? (i := 236) rfl)) rfl, gT_of (tb_1 (List.mem_of_getElem? (i := 3) rfl)) rfl, gT_of (tb_2 (List.mem_of_getElem? (i := 239) rfl)) rfl, ⟨by decide +kernel, by decide +kernel, by decide +kernel⟩, by decide⟩
theorem mv_X3_87 : kMV RX3 87 2 mX3_fix := ⟨mb_X3_87, gT_of (tb_2 (List.mem_of_getElem? (i := 238) rfl)) rfl, List.mem_filter.mpr ⟨List.mem_append_left _ (List.mem_of_getElem? (i := 14) rfl), rfl⟩⟩
theorem mb_X3_73 : kMB RX3 73 0 mX3_readAct := ⟨gT_of (tb_3 (List.mem_of_getElem? (i := 0) rfl)) rfl, gT_of (tb_1 (List.mem_of_getElem? (i := 3) rfl)) rfl, gT_of (tb_3 (List.mem_of_getElem? (i := 3) rfl)) rfl, ⟨by decide +kernel, by decide +kernel, by decide +kernel⟩, by decide⟩
theorem mv_X3_73 : kMV RX3 73 0 mX3_readAct := ⟨mb_X3_73, gT_of (tb_3 (List.mem_of_getElem? (i := 2) rfl)) rfl, List.mem_filter.mpr ⟨List.mem_append_left _ (List.mem_of_getElem? (i := 15) rfl), rfl⟩⟩
theorem mb_X3_77 : kMB RX3 77 2 mX3_endClause := ⟨gT_of (tb_3 (List.mem_of_getElem? (i := 4) rfl)) rfl, gT_of (tb_1 (List.mem_of_getElem? (i := 3) rfl)) rfl, gT_of (tb_3 (List.mem_of_getElem? (i := 7) rfl)) rfl, ⟨by decide +kernel, by decide +kernel, by decide +kernel⟩, by decide⟩
theorem mv_X3_77 : kMV RX3 77 2 mX3_endClause := ⟨mb_X3_77, gT_of (tb_3 (List.mem_of_getElem? (i := 6) rfl)) rfl, List.mem_filter.mpr ⟨List.mem_append_left _ (List.mem_of_getElem? (i := 16) rfl), rfl⟩⟩
theorem mb_X3_84 : kMB RX3 84 0 mX3_followLabels := ⟨gT_of (tb_3 (List.mem_of_getElem? (i := 8) rfl)) rfl, gT_of (tb_1 (List.mem_of_getElem? (i := 3) rfl)) rfl, gT_of (tb_3 (List.mem_of_getElem? (i := 11) rfl)) rfl, ⟨by decide +kernel, by decide +kernel, by decide +kernel⟩, by decide⟩
theorem mv_X3_84 : kMV RX3 84 0 mX3_followLabels := ⟨mb_X3_84, gT_of (tb_3 (List.mem_of_getElem? (i := 10) rfl)) rfl, List.mem_filter.mpr ⟨List.mem_append_left _ (List.mem_of_getElem? (i := 17) rfl), rfl⟩⟩
theorem mb_X3_118 : kMB RX3 118 1 mX3_follow := ⟨gT_of (tb_3 (List.mem_of_getElem? (i := 12) rfl)) rfl, gT_of (tb_1 (List.mem_of_getElem? (i := 3) rfl)) rfl, gT_of (tb_3 (List.mem_of_getElem? (i := 15) rfl)) rfl, ⟨by decide +kernel, by decide +kernel, by decide +kernel⟩, by decide⟩
theorem mv_X3_118 : kMV RX3 118 1 mX3_follow := ⟨mb_X3_118, gT_of (tb_3 (List.mem_of_getElem? (i := 14) rfl)) rfl, List.mem_filter.mpr ⟨List.mem_append_left _ (List.mem_of_getElem? (i := 18) rfl), rfl⟩⟩
theorem mb_L_47 : kMB RL 47 1 mX6_holds := ⟨gT_of (tb_3 (List.mem_of_getElem? (i := 16) rfl)) rfl, gT_of (tb_1 (List.mem_of_getElem? (i := 1) rfl)) rfl, gT_of (tb_3 (List.mem_of_getElem? (i := 19) rfl)) rfl, ⟨by decide +kernel, by decide +kernel, by decide +kernel⟩, by decide⟩
theorem mv_L_47 : kMV RL 47 1 mX6_holds := ⟨mb_L_47, gT_of (tb_3 (List.mem_of_getElem? (i := 17) rfl)) rfl, gT_of (tb_3 (List.mem_of_getElem? (i := 18) rfl)) rfl⟩
theorem mb_X6_167 : kMB RX6 167 4 mX1_clauseFor := ⟨gT_of (tb_3 (List.mem_of_getElem? (i := 20) rfl)) rfl, gT_of (tb_1 (List.mem_of_getElem? (i := 4) rfl)) rfl, gT_of (tb_3 (List.mem_of_getElem? (i := 23) rfl)) rfl, ⟨by decide +kernel, by decide +kernel, by decide +kernel⟩, by decide⟩
theorem mv_X6_167 : kMV RX6 167 4 mX1_clauseFor := ⟨mb_X6_167, gT_of (tb_3 (List.mem_of_getElem? (i := 21) rfl)) rfl, gT_of (tb_3 (List.mem_of_getElem? (i := 22) rfl)) rfl⟩
theorem mb_X1_60 : kMB RX1 60 3 mX1_isSo := ⟨gT_of (tb_3 (List.mem_of_getElem? (i := 24) rfl)) rfl, gT_of (tb_1 (List.mem_of_getElem? (i := 4) rfl)) rfl, gT_of (tb_3 (List.mem_of_getElem? (i := 26) rfl)) rfl, ⟨by decide +kernel, by decide +kernel, by decide +kernel⟩, by decide⟩
theorem ms_X1_60 : kMS RX1 60 3 mX1_isSo := ⟨mb_X1_60, gT_of (tb_3 (List.mem_of_getElem? (i := 25) rfl)) rfl⟩
theorem mb_L_51 : kMB RL 51 3 mX6_board := ⟨gT_of (tb_3 (List.mem_of_getElem? (i := 27) rfl)) rfl, gT_of (tb_1 (List.mem_of_getElem? (i := 1) rfl)) rfl, gT_of (tb_3 (List.mem_of_getElem? (i := 30) rfl)) rfl, ⟨by decide +kernel, by decide +kernel, by decide +kernel⟩, by decide⟩
theorem mv_L_51 : kMV RL 51 3 mX6_board := ⟨mb_L_51, gT_of (tb_3 (List.mem_of_getElem? (i := 28) rfl)) rfl, gT_of (tb_3 (List.mem_of_getElem? (i := 29) rfl)) rfl⟩
theorem mb_X6_171 : kMB RX6 171 3 mX4_addBoard := ⟨gT_of (tb_3 (List.mem_of_getElem? (i := 31) rfl)) rfl, gT_of (tb_1 (List.mem_of_getElem? (i := 8) rfl)) rfl, gT_of (tb_3 (List.mem_of_getElem? (i := 34) rfl)) rfl, ⟨by decide +kernel, by decide +kernel, by decide +kernel⟩, by decide⟩
theorem mv_X6_171 : kMV RX6 171 3 mX4_addBoard := ⟨mb_X6_171, gT_of (tb_3 (List.mem_of_getElem? (i := 32) rfl)) rfl, gT_of (tb_3 (List.mem_of_getElem? (i := 33) rfl)) rfl⟩
theorem mb_L_55 : kMB RL 55 1 mX6_loop := ⟨gT_of (tb_3 (List.mem_of_getElem? (i := 35) rfl)) rfl, gT_of (tb_1 (List.mem_of_getElem? (i := 1) rfl)) rfl, gT_of (tb_3 (List.mem_of_getElem? (i := 38) rfl)) rfl, ⟨by decide +kernel, by decide +kernel, by decide +kernel⟩, by decide⟩
theorem mv_L_55 : kMV RL 55 1 mX6_loop := ⟨mb_L_55, gT_of (tb_3 (List.mem_of_getElem? (i := 36) rfl)) rfl, gT_of (tb_3 (List.mem_of_getElem? (i := 37) rfl)) rfl⟩
theorem mb_X6_174 : kMB RX6 174 1 mX4_addLoop := ⟨gT_of (tb_3 (List.mem_of_getElem? (i := 39) rfl)) rfl, gT_of (tb_1 (List.mem_of_getElem? (i := 8) rfl)) rfl, gT_of (tb_3 (List.mem_of_getElem? (i := 42) rfl)) rfl, ⟨by decide +kernel, by decide +kernel, by decide +kernel⟩, by decide⟩
theorem mv_X6_174 : kMV RX6 174 1 mX4_addLoop := ⟨mb_X6_174, gT_of (tb_3 (List.mem_of_getElem? (i := 40) rfl)) rfl, gT_of (tb_3 (List.mem_of_getElem? (i := 41) rfl)) rfl⟩
theorem mb_L_59 : kMB RL 59 2 mX6_looped := ⟨gT_of (tb_3 (List.mem_of_getElem? (i := 43) rfl)) rfl, gT_of (tb_1 (List.mem_of_getElem? (i := 1) rfl)) rfl, gT_of (tb_3 (List.mem_of_getElem? (i := 46) rfl)) rfl, ⟨by decide +kernel, by decide +kernel, by decide +kernel⟩, by decide⟩
theorem mv_L_59 : kMV RL 59 2 mX6_looped := ⟨mb_L_59, gT_of (tb_3 (List.mem_of_getElem? (i := 44) rfl)) rfl, gT_of (tb_3 (List.mem_of_getElem? (i := 45) rfl)) rfl⟩
theorem mb_L_63 : kMB RL 63 1 mX6_tap := ⟨gT_of (tb_3 (List.mem_of_getElem? (i := 47) rfl)) rfl, gT_of (tb_1 (List.mem_of_getElem? (i := 1) rfl)) rfl, gT_of (tb_3 (List.mem_of_getElem? (i := 50) rfl)) rfl, ⟨by decide +kernel, by decide +kernel, by decide +kernel⟩, by decide⟩
theorem mv_L_63 : kMV RL 63 1 mX6_tap := ⟨mb_L_63, gT_of (tb_3 (List.mem_of_getElem? (i := 48) rfl)) rfl, gT_of (tb_3 (List.mem_of_getElem? (i := 49) rfl)) rfl⟩
theorem mb_L_67 : kMB RL 67 1 mX6_ticks := ⟨gT_of (tb_3 (List.mem_of_getElem? (i := 51) rfl)) rfl, gT_of (tb_1 (List.mem_of_getElem? (i := 1) rfl)) rfl, gT_of (tb_3 (List.mem_of_getElem? (i := 54) rfl)) rfl, ⟨by decide +kernel, by decide +kernel, by decide +kernel⟩, by decide⟩
theorem mv_L_67 : kMV RL 67 1 mX6_ticks := ⟨mb_L_67, gT_of (tb_3 (List.mem_of_getElem? (i := 52) rfl)) rfl, gT_of (tb_3 (List.mem_of_getElem? (i := 53) rfl)) rfl⟩
theorem mb_X6_192 : kMB RX6 192 1 mX4_run := ⟨gT_of (tb_3 (List.mem_of_getElem? (i := 56) rfl)) rfl, gT_of (tb_1 (List.mem_of_getElem? (i := 8) rfl)) rfl, gT_of (tb_3 (List.mem_of_getElem? (i := 59) rfl)) rfl, ⟨by decide +kernel, by decide +kernel, by decide +kernel⟩, by decide⟩
theorem mv_X6_192 : kMV RX6 192 1 mX4_run := ⟨mb_X6_192, gT_of (tb_3 (List.mem_of_getElem? (i := 57) rfl)) rfl, gT_of (tb_3 (List.mem_of_getElem? (i := 58) rfl)) rfl⟩
theorem mb_X4_113 : kMB RX4 113 0 mX4_tick := ⟨gT_of (tb_3 (List.mem_of_getElem? (i := 60) rfl)) rfl, gT_of (tb_1 (List.mem_of_getElem? (i := 8) rfl)) rfl, gT_of (tb_3 (List.mem_of_getElem? (i := 63) rfl)) rfl, ⟨by decide +kernel, by decide +kernel, by decide +kernel⟩, by decide⟩
theorem mv_X4_113 : kMV RX4 113 0 mX4_tick := ⟨mb_X4_113, gT_of (tb_3 (List.mem_of_getElem? (i := 61) rfl)) rfl, gT_of (tb_3 (List.mem_of_getElem? (i := 62) rfl)) rfl⟩
theorem mb_X4_116 : kMB RX4 116 0 mX4_lookFromAll := ⟨gT_of (tb_3 (List.mem_of_getElem? (i := 64) rfl)) rfl, gT_of (tb_1 (List.mem_of_getElem? (i := 8) rfl)) rfl, gT_of (tb_3 (List.mem_of_getElem? (i := 67) rfl)) rfl, ⟨by decide +kernel, by decide +kernel, by decide +kernel⟩, by decide⟩
theorem mv_X4_116 : kMV RX4 116 0 mX4_lookFromAll := ⟨mb_X4_116, gT_of (tb_3 (List.mem_of_getElem? (i := 65) rfl)) rfl, gT_of (tb_3 (List.mem_of_getElem? (i := 66) rfl)) rfl⟩
theorem mb_X4_109 : kMB RX4 109 1 mX4_lookFrom := ⟨gT_of (tb_3 (List.mem_of_getElem? (i := 68) rfl)) rfl, gT_of (tb_1 (List.mem_of_getElem? (i := 8) rfl)) rfl, gT_of (tb_2 (List.mem_of_getElem? (i := 168) rfl)) rfl, ⟨by decide +kernel, by decide +kernel, by decide +kernel⟩, by decide⟩
theorem mv_X4_109 : kMV RX4 109 1 mX4_lookFrom := ⟨mb_X4_109, gT_of (tb_2 (List.mem_of_getElem? (i := 166) rfl)) rfl, gT_of (tb_2 (List.mem_of_getElem? (i := 167) rfl)) rfl⟩
theorem mb_X4_119 : kMB RX4 119 0 mX0_note := ⟨gT_of (tb_3 (List.mem_of_getElem? (i := 69) rfl)) rfl, gT_of (tb_1 (List.mem_of_getElem? (i := 9) rfl)) rfl, gT_of (tb_3 (List.mem_of_getElem? (i := 72) rfl)) rfl, ⟨by decide +kernel, by decide +kernel, by decide +kernel⟩, by decide⟩
theorem mv_X4_119 : kMV RX4 119 0 mX0_note := ⟨mb_X4_119, gT_of (tb_3 (List.mem_of_getElem? (i := 70) rfl)) rfl, gT_of (tb_3 (List.mem_of_getElem? (i := 71) rfl)) rfl⟩
theorem mb_X0_48 : kMB RX0 48 1 mX0_placeOf := ⟨gT_of (tb_3 (List.mem_of_getElem? (i := 73) rfl)) rfl, gT_of (tb_1 (List.mem_of_getElem? (i := 9) rfl)) rfl, gT_of (tb_3 (List.mem_of_getElem? (i := 75) rfl)) rfl, ⟨by decide +kernel, by decide +kernel, by decide +kernel⟩, by decide⟩
theorem ms_X0_48 : kMS RX0 48 1 mX0_placeOf := ⟨mb_X0_48, gT_of (tb_3 (List.mem_of_getElem? (i := 74) rfl)) rfl⟩
theorem mb_X4_125 : kMB RX4 125 1 mX0_decide := ⟨gT_of (tb_3 (List.mem_of_getElem? (i := 76) rfl)) rfl, gT_of (tb_1 (List.mem_of_getElem? (i := 9) rfl)) rfl, gT_of (tb_3 (List.mem_of_getElem? (i := 79) rfl)) rfl, ⟨by decide +kernel, by decide +kernel, by decide +kernel⟩, by decide⟩
theorem mv_X4_125 : kMV RX4 125 1 mX0_decide := ⟨mb_X4_125, gT_of (tb_3 (List.mem_of_getElem? (i := 77) rfl)) rfl, gT_of (tb_3 (List.mem_of_getElem? (i := 78) rfl)) rfl⟩
theorem mb_X0_61 : kMB RX0 61 2 mJ9_max_7cf53 := ⟨gT_of (tb_3 (List.mem_of_getElem? (i := 80) rfl)) rfl, gT_of (tb_1 (List.mem_of_getElem? (i := 6) rfl)) rfl, gT_of (tb_3 (List.mem_of_getElem? (i := 82) rfl)) rfl, ⟨by decide +kernel, by decide +kernel, by decide +kernel⟩, by decide⟩
theorem ms_X0_61 : kMS RX0 61 2 mJ9_max_7cf53 := ⟨mb_X0_61, gT_of (tb_3 (List.mem_of_getElem? (i := 81) rfl)) rfl⟩
theorem mb_X0_67 : kMB RX0 67 4 mX1_clauseFor := ⟨gT_of (tb_3 (List.mem_of_getElem? (i := 83) rfl)) rfl, gT_of (tb_1 (List.mem_of_getElem? (i := 4) rfl)) rfl, gT_of (tb_3 (List.mem_of_getElem? (i := 23) rfl)) rfl, ⟨by decide +kernel, by decide +kernel, by decide +kernel⟩, by decide⟩
theorem mv_X0_67 : kMV RX0 67 4 mX1_clauseFor := ⟨mb_X0_67, gT_of (tb_3 (List.mem_of_getElem? (i := 21) rfl)) rfl, gT_of (tb_3 (List.mem_of_getElem? (i := 22) rfl)) rfl⟩
theorem mb_X0_73 : kMB RX0 73 2 mX1_paceBy := ⟨gT_of (tb_3 (List.mem_of_getElem? (i := 84) rfl)) rfl, gT_of (tb_1 (List.mem_of_getElem? (i := 4) rfl)) rfl, gT_of (tb_3 (List.mem_of_getElem? (i := 87) rfl)) rfl, ⟨by decide +kernel, by decide +kernel, by decide +kernel⟩, by decide⟩
theorem mv_X0_73 : kMV RX0 73 2 mX1_paceBy := ⟨mb_X0_73, gT_of (tb_3 (List.mem_of_getElem? (i := 85) rfl)) rfl, gT_of (tb_3 (List.mem_of_getElem? (i := 86) rfl)) rfl⟩
theorem mb_X0_79 : kMB RX0 79 1 mX1_changesBy := ⟨gT_of (tb_3 (List.mem_of_getElem? (i := 88) rfl)) rfl, gT_of (tb_1 (List.mem_of_getElem? (i := 4) rfl)) rfl, gT_of (tb_3 (List.mem_of_getElem? (i := 91) rfl)) rfl, ⟨by decide +kernel, by decide +kernel, by decide +kernel⟩, by decide⟩
theorem mv_X0_79 : kMV RX0 79 1 mX1_changesBy := ⟨mb_X0_79, gT_of (tb_3 (List.mem_of_getElem? (i := 89) rfl)) rfl, gT_of (tb_3 (List.mem_of_getElem? (i := 90) rfl)) rfl⟩
theorem mb_X4_129 : kMB RX4 129 0 mX4_changeLanes := ⟨gT_of (tb_3 (List.mem_of_getElem? (i := 92) rfl)) rfl, gT_of (tb_1 (List.mem_of_getElem? (i := 8) rfl)) rfl, gT_of (tb_3 (List.mem_of_getElem? (i := 95) rfl)) rfl, ⟨by decide +kernel, by decide +kernel, by decide +kernel⟩, by decide⟩
theorem mv_X4_129 : kMV RX4 129 0 mX4_changeLanes := ⟨mb_X4_129, gT_of (tb_3 (List.mem_of_getElem? (i := 94) rfl)) rfl, List.mem_filter.mpr ⟨List.mem_append_left _ (List.mem_of_getElem? (i := 19) rfl), rfl⟩⟩
theorem mb_X4_150 : kMB RX4 150 1 mX4_hasRoomBeside := ⟨gT_of (tb_3 (List.mem_of_getElem? (i := 96) rfl)) rfl, gT_of (tb_1 (List.mem_of_getElem? (i := 8) rfl)) rfl, gT_of (tb_3 (List.mem_of_getElem? (i := 99) rfl)) rfl, ⟨by decide +kernel, by decide +kernel, by decide +kernel⟩, by decide⟩
theorem mv_X4_150 : kMV RX4 150 1 mX4_hasRoomBeside := ⟨mb_X4_150, gT_of (tb_3 (List.mem_of_getElem? (i := 98) rfl)) rfl, List.mem_filter.mpr ⟨List.mem_append_left _ (List.mem_of_getElem? (i := 20) rfl), rfl⟩⟩
theorem mb_X4_133 : kMB RX4 133 1 mX4_limitAt := ⟨gT_of (tb_3 (List.mem_of_getElem? (i := 100) rfl)) rfl, gT_of (tb_1 (List.mem_of_getElem? (i := 8) rfl)) rfl, gT_of (tb_3 (List.mem_of_getElem? (i := 103) rfl)) rfl, ⟨by decide +kernel, by decide +kernel, by decide +kernel⟩, by decide⟩
theorem mv_X4_133 : kMV RX4 133 1 mX4_limitAt := ⟨mb_X4_133, gT_of (tb_3 (List.mem_of_getElem? (i := 102) rfl)) rfl, List.mem_filter.mpr ⟨List.mem_append_left _ (List.mem_of_getElem? (i := 21) rfl), rfl⟩⟩
theorem mb_X4_156 : kMB RX4 156 2 mJ9_min_7cf53 := ⟨gT_of (tb_3 (List.mem_of_getElem? (i := 104) rfl)) rfl, gT_of (tb_1 (List.mem_of_getElem? (i := 6) rfl)) rfl, gT_of (tb_1 (List.mem_of_getElem? (i := 134) rfl)) rfl, ⟨by decide +kernel, by decide +kernel, by decide +kernel⟩, by decide⟩
theorem ms_X4_156 : kMS RX4 156 2 mJ9_min_7cf53 := ⟨mb_X4_156, gT_of (tb_1 (List.mem_of_getElem? (i := 133) rfl)) rfl⟩
theorem mb_X4_137 : kMB RX4 137 1 mX0_settlePace := ⟨gT_of (tb_3 (List.mem_of_getElem? (i := 105) rfl)) rfl, gT_of (tb_1 (List.mem_of_getElem? (i := 9) rfl)) rfl, gT_of (tb_3 (List.mem_of_getElem? (i := 108) rfl)) rfl, ⟨by decide +kernel, by decide +kernel, by decide +kernel⟩, by decide⟩
theorem mv_X4_137 : kMV RX4 137 1 mX0_settlePace := ⟨mb_X4_137, gT_of (tb_3 (List.mem_of_getElem? (i := 106) rfl)) rfl, gT_of (tb_3 (List.mem_of_getElem? (i := 107) rfl)) rfl⟩
theorem mb_X0_86 : kMB RX0 86 2 mJ9_min_7cf53 := ⟨gT_of (tb_3 (List.mem_of_getElem? (i := 109) rfl)) rfl, gT_of (tb_1 (List.mem_of_getElem? (i := 6) rfl)) rfl, gT_of (tb_1 (List.mem_of_getElem? (i := 134) rfl)) rfl, ⟨by decide +kernel, by decide +kernel, by decide +kernel⟩, by decide⟩
theorem ms_X0_86 : kMS RX0 86 2 mJ9_min_7cf53 := ⟨mb_X0_86, gT_of (tb_1 (List.mem_of_getElem? (i := 133) rfl)) rfl⟩
theorem mb_X4_140 : kMB RX4 140 1 mX4_goOn := ⟨gT_of (tb_3 (List.mem_of_getElem? (i := 110) rfl)) rfl, gT_of (tb_1 (List.mem_of_getElem? (i := 8) rfl)) rfl, gT_of (tb_3 (List.mem_of_getElem? (i := 113) rfl)) rfl, ⟨by decide +kernel, by decide +kernel, by decide +kernel⟩, by decide⟩
theorem mv_X4_140 : kMV RX4 140 1 mX4_goOn := ⟨mb_X4_140, gT_of (tb_3 (List.mem_of_getElem? (i := 112) rfl)) rfl, List.mem_filter.mpr ⟨List.mem_append_left _ (List.mem_of_getElem? (i := 22) rfl), rfl⟩⟩
theorem mb_X4_143 : kMB RX4 143 0 mX4_markFirst := ⟨gT_of (tb_3 (List.mem_of_getElem? (i := 114) rfl)) rfl, gT_of (tb_1 (List.mem_of_getElem? (i := 8) rfl)) rfl, gT_of (tb_3 (List.mem_of_getElem? (i := 117) rfl)) rfl, ⟨by decide +kernel, by decide +kernel, by decide +kernel⟩, by decide⟩
theorem mv_X4_143 : kMV RX4 143 0 mX4_markFirst := ⟨mb_X4_143, gT_of (tb_3 (List.mem_of_getElem? (i := 116) rfl)) rfl, List.mem_filter.mpr ⟨List.mem_append_left _ (List.mem_of_getElem? (i := 23) rfl), rfl⟩⟩
theorem mb_X4_161 : kMB RX4 161 0 mX4_isEven := ⟨gT_of (tb_3 (List.mem_of_getElem? (i := 118) rfl)) rfl, gT_of (tb_1 (List.mem_of_getElem? (i := 8) rfl)) rfl, gT_of (tb_3 (List.mem_of_getElem? (i := 121) rfl)) rfl, ⟨by decide +kernel, by decide +kernel, by decide +kernel⟩, by decide⟩
theorem mv_X4_161 : kMV RX4 161 0 mX4_isEven := ⟨mb_X4_161, gT_of (tb_3 (List.mem_of_getElem? (i := 119) rfl)) rfl, gT_of (tb_3 (List.mem_of_getElem? (i := 120) rfl)) rfl⟩
theorem mb_L_71 : kMB RL 71 1 mX6_count := ⟨gT_of (tb_3 (List.mem_of_getElem? (i := 122) rfl)) rfl, gT_of (tb_1 (List.mem_of_getElem? (i := 1) rfl)) rfl, gT_of (tb_3 (List.mem_of_getElem? (i := 125) rfl)) rfl, ⟨by decide +kernel, by decide +kernel, by decide +kernel⟩, by decide⟩
theorem mv_L_71 : kMV RL 71 1 mX6_count := ⟨mb_L_71, gT_of (tb_3 (List.mem_of_getElem? (i := 123) rfl)) rfl, gT_of (tb_3 (List.mem_of_getElem? (i := 124) rfl)) rfl⟩
theorem mb_X6_196 : kMB RX6 196 1 mX2_findIn := ⟨gT_of (tb_3 (List.mem_of_getElem? (i := 126) rfl)) rfl, gT_of (tb_1 (List.mem_of_getElem? (i := 2) rfl)) rfl, gT_of (tb_3 (List.mem_of_getElem? (i := 129) rfl)) rfl, ⟨by decide +kernel, by decide +kernel, by decide +kernel⟩, by decide⟩
theorem mv_X6_196 : kMV RX6 196 1 mX2_findIn := ⟨mb_X6_196, gT_of (tb_3 (List.mem_of_getElem? (i := 127) rfl)) rfl, gT_of (tb_3 (List.mem_of_getElem? (i := 128) rfl)) rfl⟩
theorem mb_X2_25 : kMB RX2 25 0 mX4_lookFromAll := ⟨gT_of (tb_3 (List.mem_of_getElem? (i := 130) rfl)) rfl, gT_of (tb_1 (List.mem_of_getElem? (i := 8) rfl)) rfl, gT_of (tb_3 (List.mem_of_getElem? (i := 67) rfl)) rfl, ⟨by decide +kernel, by decide +kernel, by decide +kernel⟩, by decide⟩
theorem mv_X2_25 : kMV RX2 25 0 mX4_lookFromAll := ⟨mb_X2_25, gT_of (tb_3 (List.mem_of_getElem? (i := 65) rfl)) rfl, gT_of (tb_3 (List.mem_of_getElem? (i := 66) rfl)) rfl⟩
theorem mb_X2_42 : kMB RX2 42 2 mX2_isHead := ⟨gT_of (tb_3 (List.mem_of_getElem? (i := 131) rfl)) rfl, gT_of (tb_1 (List.mem_of_getElem? (i := 2) rfl)) rfl, gT_of (tb_3 (List.mem_of_getElem? (i := 134) rfl)) rfl, ⟨by decide +kernel, by decide +kernel, by decide +kernel⟩, by decide⟩
theorem mv_X2_42 : kMV RX2 42 2 mX2_isHead := ⟨mb_X2_42, gT_of (tb_3 (List.mem_of_getElem? (i := 133) rfl)) rfl, List.mem_filter.mpr ⟨List.mem_append_left _ (List.mem_of_getElem? (i := 24) rfl), rfl⟩⟩
theorem mb_X2_61 : kMB RX2 61 2 mX2_isLeastOfSlowLane := ⟨gT_of (tb_3 (List.mem_of_getElem? (i := 135) rfl)) rfl, gT_of (tb_1 (List.mem_of_getElem? (i := 2) rfl)) rfl, gT_of (tb_3 (List.mem_of_getElem? (i := 138) rfl)) rfl, ⟨by decide +kernel, by decide +kernel, by decide +kernel⟩, by decide⟩
theorem mv_X2_61 : kMV RX2 61 2 mX2_isLeastOfSlowLane := ⟨mb_X2_61, gT_of (tb_3 (List.mem_of_getElem? (i := 137) rfl)) rfl, List.mem_filter.mpr ⟨List.mem_append_left _ (List.mem_of_getElem? (i := 25) rfl), rfl⟩⟩
theorem mb_X2_46 : kMB RX2 46 2 mX2_sizeBehind := ⟨gT_of (tb_3 (List.mem_of_getElem? (i := 139) rfl)) rfl, gT_of (tb_1 (List.mem_of_getElem? (i := 2) rfl)) rfl, gT_of (tb_3 (List.mem_of_getElem? (i := 142) rfl)) rfl, ⟨by decide +kernel, by decide +kernel, by decide +kernel⟩, by decide⟩
theorem mv_X2_46 : kMV RX2 46 2 mX2_sizeBehind := ⟨mb_X2_46, gT_of (tb_3 (List.mem_of_getElem? (i := 141) rfl)) rfl, List.mem_filter.mpr ⟨List.mem_append_left _ (List.mem_of_getElem? (i := 26) rfl), rfl⟩⟩
theorem mb_X2_50 : kMB RX2 50 3 mX2_insert := ⟨gT_of (tb_3 (List.mem_of_getElem? (i := 143) rfl)) rfl, gT_of (tb_1 (List.mem_of_getElem? (i := 2) rfl)) rfl, gT_of (tb_3 (List.mem_of_getElem? (i := 146) rfl)) rfl, ⟨by decide +kernel, by decide +kernel, by decide +kernel⟩, by decide⟩
theorem mv_X2_50 : kMV RX2 50 3 mX2_insert := ⟨mb_X2_50, gT_of (tb_3 (List.mem_of_getElem? (i := 145) rfl)) rfl, List.mem_filter.mpr ⟨List.mem_append_left _ (List.mem_of_getElem? (i := 27) rfl), rfl⟩⟩
theorem mb_X2_67 : kMB RX2 67 2 mX2_comesAhead := ⟨gT_of (tb_3 (List.mem_of_getElem? (i := 147) rfl)) rfl, gT_of (tb_1 (List.mem_of_getElem? (i := 2) rfl)) rfl, gT_of (tb_3 (List.mem_of_getElem? (i := 149) rfl)) rfl, ⟨by decide +kernel, by decide +kernel, by decide +kernel⟩, by decide⟩
theorem ms_X2_67 : kMS RX2 67 2 mX2_comesAhead := ⟨mb_X2_67, gT_of (tb_3 (List.mem_of_getElem? (i := 148) rfl)) rfl⟩
theorem mb_X6_200 : kMB RX6 200 1 mX2_carsIn := ⟨gT_of (tb_3 (List.mem_of_getElem? (i := 150) rfl)) rfl, gT_of (tb_1 (List.mem_of_getElem? (i := 2) rfl)) rfl, gT_of (tb_3 (List.mem_of_getElem? (i := 153) rfl)) rfl, ⟨by decide +kernel, by decide +kernel, by decide +kernel⟩, by decide⟩
theorem mv_X6_200 : kMV RX6 200 1 mX2_carsIn := ⟨mb_X6_200, gT_of (tb_3 (List.mem_of_getElem? (i := 151) rfl)) rfl, gT_of (tb_3 (List.mem_of_getElem? (i := 152) rfl)) rfl⟩
theorem mb_X2_54 : kMB RX2 54 1 mX2_findIn := ⟨gT_of (tb_3 (List.mem_of_getElem? (i := 154) rfl)) rfl, gT_of (tb_1 (List.mem_of_getElem? (i := 2) rfl)) rfl, gT_of (tb_3 (List.mem_of_getElem? (i := 129) rfl)) rfl, ⟨by decide +kernel, by decide +kernel, by decide +kernel⟩, by decide⟩
theorem mv_X2_54 : kMV RX2 54 1 mX2_findIn := ⟨mb_X2_54, gT_of (tb_3 (List.mem_of_getElem? (i := 127) rfl)) rfl, gT_of (tb_3 (List.mem_of_getElem? (i := 128) rfl)) rfl⟩
theorem mb_X6_203 : kMB RX6 203 0 mX4_isEven := ⟨gT_of (tb_3 (List.mem_of_getElem? (i := 155) rfl)) rfl, gT_of (tb_1 (List.mem_of_getElem? (i := 8) rfl)) rfl, gT_of (tb_3 (List.mem_of_getElem? (i := 121) rfl)) rfl, ⟨by decide +kernel, by decide +kernel, by decide +kernel⟩, by decide⟩
theorem mv_X6_203 : kMV RX6 203 0 mX4_isEven := ⟨mb_X6_203, gT_of (tb_3 (List.mem_of_getElem? (i := 119) rfl)) rfl, gT_of (tb_3 (List.mem_of_getElem? (i := 120) rfl)) rfl⟩
theorem mb_L_75 : kMB RL 75 2 mX6_knot := ⟨gT_of (tb_3 (List.mem_of_getElem? (i := 156) rfl)) rfl, gT_of (tb_1 (List.mem_of_getElem? (i := 1) rfl)) rfl, gT_of (tb_3 (List.mem_of_getElem? (i := 159) rfl)) rfl, ⟨by decide +kernel, by decide +kernel, by decide +kernel⟩, by decide⟩
theorem mv_L_75 : kMV RL 75 2 mX6_knot := ⟨mb_L_75, gT_of (tb_3 (List.mem_of_getElem? (i := 157) rfl)) rfl, gT_of (tb_3 (List.mem_of_getElem? (i := 158) rfl)) rfl⟩
theorem mb_L_79 : kMB RL 79 0 mX6_first := ⟨gT_of (tb_3 (List.mem_of_getElem? (i := 160) rfl)) rfl, gT_of (tb_1 (List.mem_of_getElem? (i := 1) rfl)) rfl, gT_of (tb_3 (List.mem_of_getElem? (i := 163) rfl)) rfl, ⟨by decide +kernel, by decide +kernel, by decide +kernel⟩, by decide⟩
theorem mv_L_79 : kMV RL 79 0 mX6_first := ⟨mb_L_79, gT_of (tb_3 (List.mem_of_getElem? (i := 161) rfl)) rfl, gT_of (tb_3 (List.mem_of_getElem? (i := 162) rfl)) rfl⟩
theorem mb_L_84 : kMB RL 84 3 mX6_cost := ⟨gT_of (tb_3 (List.mem_of_getElem? (i := 164) rfl)) rfl, gT_of (tb_1 (List.mem_of_getElem? (i := 1) rfl)) rfl, gT_of (tb_3 (List.mem_of_getElem? (i := 167) rfl)) rfl, ⟨by decide +kernel, by decide +kernel, by decide +kernel⟩, by decide⟩
theorem mv_L_84 : kMV RL 84 3 mX6_cost := ⟨mb_L_84, gT_of (tb_3 (List.mem_of_getElem? (i := 165) rfl)) rfl, gT_of (tb_3 (List.mem_of_getElem? (i := 166) rfl)) rfl⟩
theorem mb_X6_212 : kMB RX6 212 3 mX6_foretell := ⟨gT_of (tb_3 (List.mem_of_getElem? (i := 169) rfl)) rfl, gT_of (tb_1 (List.mem_of_getElem? (i := 1) rfl)) rfl, gT_of (tb_3 (List.mem_of_getElem? (i := 172) rfl)) rfl, ⟨by decide +kernel, by decide +kernel, by decide +kernel⟩, by decide⟩
theorem mv_X6_212 : kMV RX6 212 3 mX6_foretell := ⟨mb_X6_212, gT_of (tb_3 (List.mem_of_getElem? (i := 171) rfl)) rfl, List.mem_filter.mpr ⟨List.mem_append_left _ (List.mem_of_getElem? (i := 28) rfl), rfl⟩⟩
theorem mb_X6_227 : kMB RX6 227 1 mX4_takeFrom := ⟨gT_of (tb_3 (List.mem_of_getElem? (i := 173) rfl)) rfl, gT_of (tb_1 (List.mem_of_getElem? (i := 8) rfl)) rfl, gT_of (tb_3 (List.mem_of_getElem? (i := 176) rfl)) rfl, ⟨by decide +kernel, by decide +kernel, by decide +kernel⟩, by decide⟩
theorem mv_X6_227 : kMV RX6 227 1 mX4_takeFrom := ⟨mb_X6_227, gT_of (tb_3 (List.mem_of_getElem? (i := 174) rfl)) rfl, gT_of (tb_3 (List.mem_of_getElem? (i := 175) rfl)) rfl⟩
theorem mb_X4_65 : kMB RX4 65 1 mX0_takeFrom := ⟨gT_of (tb_3 (List.mem_of_getElem? (i := 177) rfl)) rfl, gT_of (tb_1 (List.mem_of_getElem? (i := 9) rfl)) rfl, gT_of (tb_3 (List.mem_of_getElem? (i := 180) rfl)) rfl, ⟨by decide +kernel, by decide +kernel, by decide +kernel⟩, by decide⟩
theorem mv_X4_65 : kMV RX4 65 1 mX0_takeFrom := ⟨mb_X4_65, gT_of (tb_3 (List.mem_of_getElem? (i := 178) rfl)) rfl, gT_of (tb_3 (List.mem_of_getElem? (i := 179) rfl)) rfl⟩
theorem mb_X4_69 : kMB RX4 69 1 mX4_takeBoardsAndLoops := ⟨gT_of (tb_3 (List.mem_of_getElem? (i := 182) rfl)) rfl, gT_of (tb_1 (List.mem_of_getElem? (i := 8) rfl)) rfl, gT_of (tb_3 (List.mem_of_getElem? (i := 185) rfl)) rfl, ⟨by decide +kernel, by decide +kernel, by decide +kernel⟩, by decide⟩
theorem mv_X4_69 : kMV RX4 69 1 mX4_takeBoardsAndLoops := ⟨mb_X4_69, gT_of (tb_3 (List.mem_of_getElem? (i := 184) rfl)) rfl, List.mem_filter.mpr ⟨List.mem_append_left _ (List.mem_of_getElem? (i := 29) rfl), rfl⟩⟩
theorem mb_X6_216 : kMB RX6 216 1 mX4_cellsGone := ⟨gT_of (tb_3 (List.mem_of_getElem? (i := 186) rfl)) rfl, gT_of (tb_1 (List.mem_of_getElem? (i := 8) rfl)) rfl, gT_of (tb_3 (List.mem_of_getElem? (i := 189) rfl)) rfl, ⟨by decide +kernel, by decide +kernel, by decide +kernel⟩, by decide⟩
theorem mv_X6_216 : kMV RX6 216 1 mX4_cellsGone := ⟨mb_X6_216, gT_of (tb_3 (List.mem_of_getElem? (i := 187) rfl)) rfl, gT_of (tb_3 (List.mem_of_getElem? (i := 188) rfl)) rfl⟩
theorem mb_L_88 : kMB RL 88 2 mX6_after := ⟨gT_of (tb_3 (List.mem_of_getElem? (i := 190) rfl)) rfl, gT_of (tb_1 (List.mem_of_getElem? (i := 1) rfl)) rfl, gT_of (tb_3 (List.mem_of_getElem? (i := 193) rfl)) rfl, ⟨by decide +kernel, by decide +kernel, by decide +kernel⟩, by decide⟩
theorem mv_L_88 : kMV RL 88 2 mX6_after := ⟨mb_L_88, gT_of (tb_3 (List.mem_of_getElem? (i := 191) rfl)) rfl, gT_of (tb_3 (List.mem_of_getElem? (i := 192) rfl)) rfl⟩
theorem mb_L_92 : kMB RL 92 2 mX6_calmed := ⟨gT_of (tb_3 (List.mem_of_getElem? (i := 194) rfl)) rfl, gT_of (tb_1 (List.mem_of_getElem? (i := 1) rfl)) rfl, gT_of (tb_3 (List.mem_of_getElem? (i := 197) rfl)) rfl, ⟨by decide +kernel, by decide +kernel, by decide +kernel⟩, by decide⟩
theorem mv_L_92 : kMV RL 92 2 mX6_calmed := ⟨mb_L_92, gT_of (tb_3 (List.mem_of_getElem? (i := 195) rfl)) rfl, gT_of (tb_3 (List.mem_of_getElem? (i := 196) rfl)) rfl⟩
theorem mb_X6_219 : kMB RX6 219 1 mJ6_bitCount_0f7a4 := ⟨gT_of (tb_3 (List.mem_of_getElem? (i := 198) rfl)) rfl, gT_of (tb_1 (List.mem_of_getElem? (i := 12) rfl)) rfl, gT_of (tb_3 (List.mem_of_getElem? (i := 200) rfl)) rfl, ⟨by decide +kernel, by decide +kernel, by decide +kernel⟩, by decide⟩
theorem ms_X6_219 : kMS RX6 219 1 mJ6_bitCount_0f7a4 := ⟨mb_X6_219, gT_of (tb_3 (List.mem_of_getElem? (i := 199) rfl)) rfl⟩
theorem mb_X6_224 : kMB RX6 224 3 mX6_isCalmWith := ⟨gT_of (tb_3 (List.mem_of_getElem? (i := 204) rfl)) rfl, gT_of (tb_1 (List.mem_of_getElem? (i := 1) rfl)) rfl, gT_of (tb_3 (List.mem_of_getElem? (i := 207) rfl)) rfl, ⟨by decide +kernel, by decide +kernel, by decide +kernel⟩, by decide⟩
theorem mv_X6_224 : kMV RX6 224 3 mX6_isCalmWith := ⟨mb_X6_224, gT_of (tb_3 (List.mem_of_getElem? (i := 206) rfl)) rfl, List.mem_filter.mpr ⟨List.mem_append_left _ (List.mem_of_getElem? (i := 30) rfl), rfl⟩⟩
theorem mb_L_96 : kMB RL 96 1 mX6_round := ⟨gT_of (tb_3 (List.mem_of_getElem? (i := 208) rfl)) rfl, gT_of (tb_1 (List.mem_of_getElem? (i := 1) rfl)) rfl, gT_of (tb_3 (List.mem_of_getElem? (i := 211) rfl)) rfl, ⟨by decide +kernel, by decide +kernel, by decide +kernel⟩, by decide⟩
theorem mv_L_96 : kMV RL 96 1 mX6_round := ⟨mb_L_96, gT_of (tb_3 (List.mem_of_getElem? (i := 209) rfl)) rfl, gT_of (tb_3 (List.mem_of_getElem? (i := 210) rfl)) rfl⟩
theorem mb_X6_231 : kMB RX6 231 0 mX4_tick := ⟨gT_of (tb_3 (List.mem_of_getElem? (i := 212) rfl)) rfl, gT_of (tb_1 (List.mem_of_getElem? (i := 8) rfl)) rfl, gT_of (tb_3 (List.mem_of_getElem? (i := 63) rfl)) rfl, ⟨by decide +kernel, by decide +kernel, by decide +kernel⟩, by decide⟩
theorem mv_X6_231 : kMV RX6 231 0 mX4_tick := ⟨mb_X6_231, gT_of (tb_3 (List.mem_of_getElem? (i := 61) rfl)) rfl, gT_of (tb_3 (List.mem_of_getElem? (i := 62) rfl)) rfl⟩
theorem mb_X6_234 : kMB RX6 234 1 mX4_isLike := ⟨gT_of (tb_3 (List.mem_of_getElem? (i := 213) rfl)) rfl, gT_of (tb_1 (List.mem_of_getElem? (i := 8) rfl)) rfl, gT_of (tb_3 (List.mem_of_getElem? (i := 216) rfl)) rfl, ⟨by decide +kernel, by decide +kernel, by decide +kernel⟩, by decide⟩
theorem mv_X6_234 : kMV RX6 234 1 mX4_isLike := ⟨mb_X6_234, gT_of (tb_3 (List.mem_of_getElem? (i := 214) rfl)) rfl, gT_of (tb_3 (List.mem_of_getElem? (i := 215) rfl)) rfl⟩
theorem mb_X4_86 : kMB RX4 86 1 mX0_isLike := ⟨gT_of (tb_3 (List.mem_of_getElem? (i := 217) rfl)) rfl, gT_of (tb_1 (List.mem_of_getElem? (i := 9) rfl)) rfl, gT_of (tb_3 (List.mem_of_getElem? (i := 220) rfl)) rfl, ⟨by decide +kernel, by decide +kernel, by decide +kernel⟩, by decide⟩
theorem mv_X4_86 : kMV RX4 86 1 mX0_isLike := ⟨mb_X4_86, gT_of (tb_3 (List.mem_of_getElem? (i := 218) rfl)) rfl, gT_of (tb_3 (List.mem_of_getElem? (i := 219) rfl)) rfl⟩
theorem mb_X0_89 : kMB RX0 89 1 mX0_remembersLike := ⟨gT_of (tb_3 (List.mem_of_getElem? (i := 221) rfl)) rfl, gT_of (tb_1 (List.mem_of_getElem? (i := 9) rfl)) rfl, gT_of (tb_3 (List.mem_of_getElem? (i := 224) rfl)) rfl, ⟨by decide +kernel, by decide +kernel, by decide +kernel⟩, by decide⟩
theorem mv_X0_89 : kMV RX0 89 1 mX0_remembersLike := ⟨mb_X0_89, gT_of (tb_3 (List.mem_of_getElem? (i := 223) rfl)) rfl, List.mem_filter.mpr ⟨List.mem_append_left _ (List.mem_of_getElem? (i := 31) rfl), rfl⟩⟩
theorem mb_L_100 : kMB RL 100 1 mX6_evens := ⟨gT_of (tb_3 (List.mem_of_getElem? (i := 225) rfl)) rfl, gT_of (tb_1 (List.mem_of_getElem? (i := 1) rfl)) rfl, gT_of (tb_3 (List.mem_of_getElem? (i := 228) rfl)) rfl, ⟨by decide +kernel, by decide +kernel, by decide +kernel⟩, by decide⟩
theorem mv_L_100 : kMV RL 100 1 mX6_evens := ⟨mb_L_100, gT_of (tb_3 (List.mem_of_getElem? (i := 226) rfl)) rfl, gT_of (tb_3 (List.mem_of_getElem? (i := 227) rfl)) rfl⟩
theorem mb_L_104 : kMB RL 104 1 mX6_image := ⟨gT_of (tb_3 (List.mem_of_getElem? (i := 229) rfl)) rfl, gT_of (tb_1 (List.mem_of_getElem? (i := 1) rfl)) rfl, gT_of (tb_3 (List.mem_of_getElem? (i := 232) rfl)) rfl, ⟨by decide +kernel, by decide +kernel, by decide +kernel⟩, by decide⟩
theorem mv_L_104 : kMV RL 104 1 mX6_image := ⟨mb_L_104, gT_of (tb_3 (List.mem_of_getElem? (i := 230) rfl)) rfl, gT_of (tb_3 (List.mem_of_getElem? (i := 231) rfl)) rfl⟩
theorem mb_L_108 : kMB RL 108 1 mX6_restore := ⟨gT_of (tb_3 (List.mem_of_getElem? (i := 233) rfl)) rfl, gT_of (tb_1 (List.mem_of_getElem? (i := 1) rfl)) rfl, gT_of (tb_3 (List.mem_of_getElem? (i := 236) rfl)) rfl, ⟨by decide +kernel, by decide +kernel, by decide +kernel⟩, by decide⟩
theorem mv_L_108 : kMV RL 108 1 mX6_restore := ⟨mb_L_108, gT_of (tb_3 (List.mem_of_getElem? (i := 234) rfl)) rfl, gT_of (tb_3 (List.mem_of_getElem? (i := 235) rfl)) rfl⟩
theorem mb_L_112 : kMB RL 112 3 mX6_paces := ⟨gT_of (tb_3 (List.mem_of_getElem? (i := 237) rfl)) rfl, gT_of (tb_1 (List.mem_of_getElem? (i := 1) rfl)) rfl, gT_of (tb_4 (List.mem_of_getElem? (i := 0) rfl)) rfl, ⟨by decide +kernel, by decide +kernel, by decide +kernel⟩, by decide⟩
theorem mv_L_112 : kMV RL 112 3 mX6_paces := ⟨mb_L_112, gT_of (tb_3 (List.mem_of_getElem? (i := 238) rfl)) rfl, gT_of (tb_3 (List.mem_of_getElem? (i := 239) rfl)) rfl⟩
theorem mb_X6_238 : kMB RX6 238 1 mX6_isSheet := ⟨gT_of (tb_4 (List.mem_of_getElem? (i := 1) rfl)) rfl, gT_of (tb_1 (List.mem_of_getElem? (i := 1) rfl)) rfl, gT_of (tb_4 (List.mem_of_getElem? (i := 3) rfl)) rfl, ⟨by decide +kernel, by decide +kernel, by decide +kernel⟩, by decide⟩
theorem ms_X6_238 : kMS RX6 238 1 mX6_isSheet := ⟨mb_X6_238, gT_of (tb_4 (List.mem_of_getElem? (i := 2) rfl)) rfl⟩
theorem mb_X6_241 : kMB RX6 241 3 mX5_lookedAt := ⟨gT_of (tb_4 (List.mem_of_getElem? (i := 4) rfl)) rfl, gT_of (tb_1 (List.mem_of_getElem? (i := 10) rfl)) rfl, gT_of (tb_4 (List.mem_of_getElem? (i := 7) rfl)) rfl, ⟨by decide +kernel, by decide +kernel, by decide +kernel⟩, by decide⟩
theorem mv_X6_241 : kMV RX6 241 3 mX5_lookedAt := ⟨mb_X6_241, gT_of (tb_4 (List.mem_of_getElem? (i := 5) rfl)) rfl, gT_of (tb_4 (List.mem_of_getElem? (i := 6) rfl)) rfl⟩
theorem mb_X5_28 : kMB RX5 28 2 mX5_hasItems := ⟨gT_of (tb_4 (List.mem_of_getElem? (i := 8) rfl)) rfl, gT_of (tb_1 (List.mem_of_getElem? (i := 10) rfl)) rfl, gT_of (tb_4 (List.mem_of_getElem? (i := 11) rfl)) rfl, ⟨by decide +kernel, by decide +kernel, by decide +kernel⟩, by decide⟩
theorem mv_X5_28 : kMV RX5 28 2 mX5_hasItems := ⟨mb_X5_28, gT_of (tb_4 (List.mem_of_getElem? (i := 9) rfl)) rfl, gT_of (tb_4 (List.mem_of_getElem? (i := 10) rfl)) rfl⟩
theorem mb_L_116 : kMB RL 116 2 mX6_taps := ⟨gT_of (tb_4 (List.mem_of_getElem? (i := 12) rfl)) rfl, gT_of (tb_1 (List.mem_of_getElem? (i := 1) rfl)) rfl, gT_of (tb_4 (List.mem_of_getElem? (i := 15) rfl)) rfl, ⟨by decide +kernel, by decide +kernel, by decide +kernel⟩, by decide⟩
theorem mv_L_116 : kMV RL 116 2 mX6_taps := ⟨mb_L_116, gT_of (tb_4 (List.mem_of_getElem? (i := 13) rfl)) rfl, gT_of (tb_4 (List.mem_of_getElem? (i := 14) rfl)) rfl⟩
theorem mb_L_120 : kMB RL 120 3 mX6_sheet := ⟨gT_of (tb_4 (List.mem_of_getElem? (i := 16) rfl)) rfl, gT_of (tb_1 (List.mem_of_getElem? (i := 1) rfl)) rfl, gT_of (tb_4 (List.mem_of_getElem? (i := 19) rfl)) rfl, ⟨by decide +kernel, by decide +kernel, by decide +kernel⟩, by decide⟩
theorem mv_L_120 : kMV RL 120 3 mX6_sheet := ⟨mb_L_120, gT_of (tb_4 (List.mem_of_getElem? (i := 17) rfl)) rfl, gT_of (tb_4 (List.mem_of_getElem? (i := 18) rfl)) rfl⟩
theorem mb_X6_247 : kMB RX6 247 2 mX5_begin := ⟨gT_of (tb_4 (List.mem_of_getElem? (i := 20) rfl)) rfl, gT_of (tb_1 (List.mem_of_getElem? (i := 10) rfl)) rfl, gT_of (tb_4 (List.mem_of_getElem? (i := 23) rfl)) rfl, ⟨by decide +kernel, by decide +kernel, by decide +kernel⟩, by decide⟩
theorem mv_X6_247 : kMV RX6 247 2 mX5_begin := ⟨mb_X6_247, gT_of (tb_4 (List.mem_of_getElem? (i := 21) rfl)) rfl, gT_of (tb_4 (List.mem_of_getElem? (i := 22) rfl)) rfl⟩
theorem mb_X5_22 : kMB RX5 22 2 mJ7_fill_53178 := ⟨gT_of (tb_4 (List.mem_of_getElem? (i := 24) rfl)) rfl, gT_of (tb_1 (List.mem_of_getElem? (i := 5) rfl)) rfl, gT_of (tb_4 (List.mem_of_getElem? (i := 26) rfl)) rfl, ⟨by decide +kernel, by decide +kernel, by decide +kernel⟩, by decide⟩
theorem ms_X5_22 : kMS RX5 22 2 mJ7_fill_53178 := ⟨mb_X5_22, gT_of (tb_4 (List.mem_of_getElem? (i := 25) rfl)) rfl⟩
theorem mb_L_124 : kMB RL 124 1 mX6_drop := ⟨gT_of (tb_4 (List.mem_of_getElem? (i := 27) rfl)) rfl, gT_of (tb_1 (List.mem_of_getElem? (i := 1) rfl)) rfl, gT_of (tb_4 (List.mem_of_getElem? (i := 30) rfl)) rfl, ⟨by decide +kernel, by decide +kernel, by decide +kernel⟩, by decide⟩
theorem mv_L_124 : kMV RL 124 1 mX6_drop := ⟨mb_L_124, gT_of (tb_4 (List.mem_of_getElem? (i := 28) rfl)) rfl, gT_of (tb_4 (List.mem_of_getElem? (i := 29) rfl)) rfl⟩
theorem mb_L_128 : kMB RL 128 4 mX6_item := ⟨gT_of (tb_4 (List.mem_of_getElem? (i := 31) rfl)) rfl, gT_of (tb_1 (List.mem_of_getElem? (i := 1) rfl)) rfl, gT_of (tb_4 (List.mem_of_getElem? (i := 34) rfl)) rfl, ⟨by decide +kernel, by decide +kernel, by decide +kernel⟩, by decide⟩
theorem mv_L_128 : kMV RL 128 4 mX6_item := ⟨mb_L_128, gT_of (tb_4 (List.mem_of_getElem? (i := 32) rfl)) rfl, gT_of (tb_4 (List.mem_of_getElem? (i := 33) rfl)) rfl⟩
theorem mb_X6_253 : kMB RX6 253 2 mX5_put := ⟨gT_of (tb_4 (List.mem_of_getElem? (i := 35) rfl)) rfl, gT_of (tb_1 (List.mem_of_getElem? (i := 10) rfl)) rfl, gT_of (tb_4 (List.mem_of_getElem? (i := 38) rfl)) rfl, ⟨by decide +kernel, by decide +kernel, by decide +kernel⟩, by decide⟩
theorem mv_X6_253 : kMV RX6 253 2 mX5_put := ⟨mb_X6_253, gT_of (tb_4 (List.mem_of_getElem? (i := 36) rfl)) rfl, gT_of (tb_4 (List.mem_of_getElem? (i := 37) rfl)) rfl⟩
theorem mb_L_133 : kMB RL 133 5 mX6_copy := ⟨gT_of (tb_4 (List.mem_of_getElem? (i := 39) rfl)) rfl, gT_of (tb_1 (List.mem_of_getElem? (i := 1) rfl)) rfl, gT_of (tb_4 (List.mem_of_getElem? (i := 42) rfl)) rfl, ⟨by decide +kernel, by decide +kernel, by decide +kernel⟩, by decide⟩
theorem mv_L_133 : kMV RL 133 5 mX6_copy := ⟨mb_L_133, gT_of (tb_4 (List.mem_of_getElem? (i := 40) rfl)) rfl, gT_of (tb_4 (List.mem_of_getElem? (i := 41) rfl)) rfl⟩
theorem mb_X6_256 : kMB RX6 256 2 mX5_hasItems := ⟨gT_of (tb_4 (List.mem_of_getElem? (i := 43) rfl)) rfl, gT_of (tb_1 (List.mem_of_getElem? (i := 10) rfl)) rfl, gT_of (tb_4 (List.mem_of_getElem? (i := 11) rfl)) rfl, ⟨by decide +kernel, by decide +kernel, by decide +kernel⟩, by decide⟩
theorem mv_X6_256 : kMV RX6 256 2 mX5_hasItems := ⟨mb_X6_256, gT_of (tb_4 (List.mem_of_getElem? (i := 9) rfl)) rfl, gT_of (tb_4 (List.mem_of_getElem? (i := 10) rfl)) rfl⟩
theorem mb_L_12 : kMB RL 12 0 mX7_init := ⟨gT_of (tb_4 (List.mem_of_getElem? (i := 47) rfl)) rfl, gT_of (tb_1 (List.mem_of_getElem? (i := 11) rfl)) rfl, gT_of (tb_4 (List.mem_of_getElem? (i := 49) rfl)) rfl, ⟨by decide +kernel, by decide +kernel, by decide +kernel⟩, by decide⟩
theorem mc_L_12 : kMC RL 12 0 mX7_init := ⟨mb_L_12, gT_of (tb_4 (List.mem_of_getElem? (i := 48) rfl)) rfl, rfl, rfl⟩
theorem mb_L_17 : kMB RL 17 2 mX7_ring := ⟨gT_of (tb_4 (List.mem_of_getElem? (i := 115) rfl)) rfl, gT_of (tb_1 (List.mem_of_getElem? (i := 11) rfl)) rfl, gT_of (tb_4 (List.mem_of_getElem? (i := 118) rfl)) rfl, ⟨by decide +kernel, by decide +kernel, by decide +kernel⟩, by decide⟩
theorem mv_L_17 : kMV RL 17 2 mX7_ring := ⟨mb_L_17, gT_of (tb_4 (List.mem_of_getElem? (i := 116) rfl)) rfl, gT_of (tb_4 (List.mem_of_getElem? (i := 117) rfl)) rfl⟩
theorem mb_X7_53 : kMB RX7 53 3 mX7_in := ⟨gT_of (tb_4 (List.mem_of_getElem? (i := 119) rfl)) rfl, gT_of (tb_1 (List.mem_of_getElem? (i := 11) rfl)) rfl, gT_of (tb_4 (List.mem_of_getElem? (i := 121) rfl)) rfl, ⟨by decide +kernel, by decide +kernel, by decide +kernel⟩, by decide⟩
theorem ms_X7_53 : kMS RX7 53 3 mX7_in := ⟨mb_X7_53, gT_of (tb_4 (List.mem_of_getElem? (i := 120) rfl)) rfl⟩
theorem mb_L_22 : kMB RL 22 3 mX7_car := ⟨gT_of (tb_4 (List.mem_of_getElem? (i := 125) rfl)) rfl, gT_of (tb_1 (List.mem_of_getElem? (i := 11) rfl)) rfl, gT_of (tb_4 (List.mem_of_getElem? (i := 128) rfl)) rfl, ⟨by decide +kernel, by decide +kernel, by decide +kernel⟩, by decide⟩
theorem mv_L_22 : kMV RL 22 3 mX7_car := ⟨mb_L_22, gT_of (tb_4 (List.mem_of_getElem? (i := 126) rfl)) rfl, gT_of (tb_4 (List.mem_of_getElem? (i := 127) rfl)) rfl⟩
theorem mb_X7_77 : kMB RX7 77 3 mX7_carAt := ⟨gT_of (tb_4 (List.mem_of_getElem? (i := 129) rfl)) rfl, gT_of (tb_1 (List.mem_of_getElem? (i := 11) rfl)) rfl, gT_of (tb_4 (List.mem_of_getElem? (i := 132) rfl)) rfl, ⟨by decide +kernel, by decide +kernel, by decide +kernel⟩, by decide⟩
theorem mv_X7_77 : kMV RX7 77 3 mX7_carAt := ⟨mb_X7_77, gT_of (tb_4 (List.mem_of_getElem? (i := 131) rfl)) rfl, List.mem_filter.mpr ⟨List.mem_append_left _ (List.mem_of_getElem? (i := 32) rfl), rfl⟩⟩
theorem mb_X7_57 : kMB RX7 57 3 mX7_of := ⟨gT_of (tb_4 (List.mem_of_getElem? (i := 133) rfl)) rfl, gT_of (tb_1 (List.mem_of_getElem? (i := 11) rfl)) rfl, gT_of (tb_4 (List.mem_of_getElem? (i := 136) rfl)) rfl, ⟨by decide +kernel, by decide +kernel, by decide +kernel⟩, by decide⟩
theorem mv_X7_57 : kMV RX7 57 3 mX7_of := ⟨mb_X7_57, gT_of (tb_4 (List.mem_of_getElem? (i := 135) rfl)) rfl, List.mem_filter.mpr ⟨List.mem_append_left _ (List.mem_of_getElem? (i := 33) rfl), rfl⟩⟩
theorem mb_X7_80 : kMB RX7 80 3 mX7_put := ⟨gT_of (tb_4 (List.mem_of_getElem? (i := 137) rfl)) rfl, gT_of (tb_1 (List.mem_of_getElem? (i := 11) rfl)) rfl, gT_of (tb_4 (List.mem_of_getElem? (i := 140) rfl)) rfl, ⟨by decide +kernel, by decide +kernel, by decide +kernel⟩, by decide⟩
theorem mv_X7_80 : kMV RX7 80 3 mX7_put := ⟨mb_X7_80, gT_of (tb_4 (List.mem_of_getElem? (i := 139) rfl)) rfl, List.mem_filter.mpr ⟨List.mem_append_left _ (List.mem_of_getElem? (i := 34) rfl), rfl⟩⟩
theorem mb_X7_74 : kMB RX7 74 3 mX7_at := ⟨gT_of (tb_4 (List.mem_of_getElem? (i := 141) rfl)) rfl, gT_of (tb_1 (List.mem_of_getElem? (i := 11) rfl)) rfl, gT_of (tb_4 (List.mem_of_getElem? (i := 143) rfl)) rfl, ⟨by decide +kernel, by decide +kernel, by decide +kernel⟩, by decide⟩
theorem ms_X7_74 : kMS RX7 74 3 mX7_at := ⟨mb_X7_74, gT_of (tb_4 (List.mem_of_getElem? (i := 142) rfl)) rfl⟩
theorem mb_L_26 : kMB RL 26 2 mX7_evenly := ⟨gT_of (tb_4 (List.mem_of_getElem? (i := 144) rfl)) rfl, gT_of (tb_1 (List.mem_of_getElem? (i := 11) rfl)) rfl, gT_of (tb_4 (List.mem_of_getElem? (i := 147) rfl)) rfl, ⟨by decide +kernel, by decide +kernel, by decide +kernel⟩, by decide⟩
theorem mv_L_26 : kMV RL 26 2 mX7_evenly := ⟨mb_L_26, gT_of (tb_4 (List.mem_of_getElem? (i := 145) rfl)) rfl, gT_of (tb_4 (List.mem_of_getElem? (i := 146) rfl)) rfl⟩
theorem mb_L_30 : kMB RL 30 3 mX7_set := ⟨gT_of (tb_4 (List.mem_of_getElem? (i := 148) rfl)) rfl, gT_of (tb_1 (List.mem_of_getElem? (i := 11) rfl)) rfl, gT_of (tb_4 (List.mem_of_getElem? (i := 151) rfl)) rfl, ⟨by decide +kernel, by decide +kernel, by decide +kernel⟩, by decide⟩
theorem mv_L_30 : kMV RL 30 3 mX7_set := ⟨mb_L_30, gT_of (tb_4 (List.mem_of_getElem? (i := 149) rfl)) rfl, gT_of (tb_4 (List.mem_of_getElem? (i := 150) rfl)) rfl⟩
theorem mb_X7_84 : kMB RX7 84 1 mX7_isCar := ⟨gT_of (tb_4 (List.mem_of_getElem? (i := 152) rfl)) rfl, gT_of (tb_1 (List.mem_of_getElem? (i := 11) rfl)) rfl, gT_of (tb_4 (List.mem_of_getElem? (i := 155) rfl)) rfl, ⟨by decide +kernel, by decide +kernel, by decide +kernel⟩, by decide⟩
theorem mv_X7_84 : kMV RX7 84 1 mX7_isCar := ⟨mb_X7_84, gT_of (tb_4 (List.mem_of_getElem? (i := 154) rfl)) rfl, List.mem_filter.mpr ⟨List.mem_append_left _ (List.mem_of_getElem? (i := 35) rfl), rfl⟩⟩
theorem mb_L_34 : kMB RL 34 2 mX7_told := ⟨gT_of (tb_4 (List.mem_of_getElem? (i := 158) rfl)) rfl, gT_of (tb_1 (List.mem_of_getElem? (i := 11) rfl)) rfl, gT_of (tb_4 (List.mem_of_getElem? (i := 161) rfl)) rfl, ⟨by decide +kernel, by decide +kernel, by decide +kernel⟩, by decide⟩
theorem mv_L_34 : kMV RL 34 2 mX7_told := ⟨mb_L_34, gT_of (tb_4 (List.mem_of_getElem? (i := 159) rfl)) rfl, gT_of (tb_4 (List.mem_of_getElem? (i := 160) rfl)) rfl⟩
theorem mb_X7_92 : kMB RX7 92 2 mX7_gap := ⟨gT_of (tb_4 (List.mem_of_getElem? (i := 162) rfl)) rfl, gT_of (tb_1 (List.mem_of_getElem? (i := 11) rfl)) rfl, gT_of (tb_4 (List.mem_of_getElem? (i := 165) rfl)) rfl, ⟨by decide +kernel, by decide +kernel, by decide +kernel⟩, by decide⟩
theorem mv_X7_92 : kMV RX7 92 2 mX7_gap := ⟨mb_X7_92, gT_of (tb_4 (List.mem_of_getElem? (i := 164) rfl)) rfl, List.mem_filter.mpr ⟨List.mem_append_left _ (List.mem_of_getElem? (i := 36) rfl), rfl⟩⟩
theorem mb_X7_64 : kMB RX7 64 2 mX7_ahead := ⟨gT_of (tb_4 (List.mem_of_getElem? (i := 166) rfl)) rfl, gT_of (tb_1 (List.mem_of_getElem? (i := 11) rfl)) rfl, gT_of (tb_4 (List.mem_of_getElem? (i := 169) rfl)) rfl, ⟨by decide +kernel, by decide +kernel, by decide +kernel⟩, by decide⟩
theorem mv_X7_64 : kMV RX7 64 2 mX7_ahead := ⟨mb_X7_64, gT_of (tb_4 (List.mem_of_getElem? (i := 168) rfl)) rfl, List.mem_filter.mpr ⟨List.mem_append_left _ (List.mem_of_getElem? (i := 37) rfl), rfl⟩⟩
theorem mb_X7_61 : kMB RX7 61 3 mX7_on := ⟨gT_of (tb_4 (List.mem_of_getElem? (i := 170) rfl)) rfl, gT_of (tb_1 (List.mem_of_getElem? (i := 11) rfl)) rfl, gT_of (tb_4 (List.mem_of_getElem? (i := 173) rfl)) rfl, ⟨by decide +kernel, by decide +kernel, by decide +kernel⟩, by decide⟩
theorem mv_X7_61 : kMV RX7 61 3 mX7_on := ⟨mb_X7_61, gT_of (tb_4 (List.mem_of_getElem? (i := 172) rfl)) rfl, List.mem_filter.mpr ⟨List.mem_append_left _ (List.mem_of_getElem? (i := 38) rfl), rfl⟩⟩
theorem mb_X7_95 : kMB RX7 95 2 mX7_other := ⟨gT_of (tb_4 (List.mem_of_getElem? (i := 174) rfl)) rfl, gT_of (tb_1 (List.mem_of_getElem? (i := 11) rfl)) rfl, gT_of (tb_4 (List.mem_of_getElem? (i := 177) rfl)) rfl, ⟨by decide +kernel, by decide +kernel, by decide +kernel⟩, by decide⟩
theorem mv_X7_95 : kMV RX7 95 2 mX7_other := ⟨mb_X7_95, gT_of (tb_4 (List.mem_of_getElem? (i := 176) rfl)) rfl, List.mem_filter.mpr ⟨List.mem_append_left _ (List.mem_of_getElem? (i := 39) rfl), rfl⟩⟩
theorem mb_L_41 : kMB RL 41 2 mX7_type := ⟨gT_of (tb_4 (List.mem_of_getElem? (i := 178) rfl)) rfl, gT_of (tb_1 (List.mem_of_getElem? (i := 11) rfl)) rfl, gT_of (tb_4 (List.mem_of_getElem? (i := 181) rfl)) rfl, ⟨by decide +kernel, by decide +kernel, by decide +kernel⟩, by decide⟩
theorem mv_L_41 : kMV RL 41 2 mX7_type := ⟨mb_L_41, gT_of (tb_4 (List.mem_of_getElem? (i := 179) rfl)) rfl, gT_of (tb_4 (List.mem_of_getElem? (i := 180) rfl)) rfl⟩
theorem mb_L_46 : kMB RL 46 1 mX7_habit := ⟨gT_of (tb_4 (List.mem_of_getElem? (i := 186) rfl)) rfl, gT_of (tb_1 (List.mem_of_getElem? (i := 11) rfl)) rfl, gT_of (tb_4 (List.mem_of_getElem? (i := 189) rfl)) rfl, ⟨by decide +kernel, by decide +kernel, by decide +kernel⟩, by decide⟩
theorem mv_L_46 : kMV RL 46 1 mX7_habit := ⟨mb_L_46, gT_of (tb_4 (List.mem_of_getElem? (i := 187) rfl)) rfl, gT_of (tb_4 (List.mem_of_getElem? (i := 188) rfl)) rfl⟩
theorem mb_X7_134 : kMB RX7 134 0 mX7_clauses := ⟨gT_of (tb_4 (List.mem_of_getElem? (i := 190) rfl)) rfl, gT_of (tb_1 (List.mem_of_getElem? (i := 11) rfl)) rfl, gT_of (tb_4 (List.mem_of_getElem? (i := 193) rfl)) rfl, ⟨by decide +kernel, by decide +kernel, by decide +kernel⟩, by decide⟩
theorem mv_X7_134 : kMV RX7 134 0 mX7_clauses := ⟨mb_X7_134, gT_of (tb_4 (List.mem_of_getElem? (i := 192) rfl)) rfl, List.mem_filter.mpr ⟨List.mem_append_left _ (List.mem_of_getElem? (i := 40) rfl), rfl⟩⟩
theorem mb_X7_128 : kMB RX7 128 0 mX7_test := ⟨gT_of (tb_4 (List.mem_of_getElem? (i := 194) rfl)) rfl, gT_of (tb_1 (List.mem_of_getElem? (i := 11) rfl)) rfl, gT_of (tb_4 (List.mem_of_getElem? (i := 197) rfl)) rfl, ⟨by decide +kernel, by decide +kernel, by decide +kernel⟩, by decide⟩
theorem mv_X7_128 : kMV RX7 128 0 mX7_test := ⟨mb_X7_128, gT_of (tb_4 (List.mem_of_getElem? (i := 196) rfl)) rfl, List.mem_filter.mpr ⟨List.mem_append_left _ (List.mem_of_getElem? (i := 41) rfl), rfl⟩⟩
theorem mb_X7_117 : kMB RX7 117 0 mX7_look := ⟨gT_of (tb_4 (List.mem_of_getElem? (i := 198) rfl)) rfl, gT_of (tb_1 (List.mem_of_getElem? (i := 11) rfl)) rfl, gT_of (tb_4 (List.mem_of_getElem? (i := 201) rfl)) rfl, ⟨by decide +kernel, by decide +kernel, by decide +kernel⟩, by decide⟩
theorem mv_X7_117 : kMV RX7 117 0 mX7_look := ⟨mb_X7_117, gT_of (tb_4 (List.mem_of_getElem? (i := 200) rfl)) rfl, List.mem_filter.mpr ⟨List.mem_append_left _ (List.mem_of_getElem? (i := 42) rfl), rfl⟩⟩
theorem mb_X7_124 : kMB RX7 124 0 mX7_claim := ⟨gT_of (tb_4 (List.mem_of_getElem? (i := 202) rfl)) rfl, gT_of (tb_1 (List.mem_of_getElem? (i := 11) rfl)) rfl, gT_of (tb_4 (List.mem_of_getElem? (i := 205) rfl)) rfl, ⟨by decide +kernel, by decide +kernel, by decide +kernel⟩, by decide⟩
theorem mv_X7_124 : kMV RX7 124 0 mX7_claim := ⟨mb_X7_124, gT_of (tb_4 (List.mem_of_getElem? (i := 204) rfl)) rfl, List.mem_filter.mpr ⟨List.mem_append_left _ (List.mem_of_getElem? (i := 43) rfl), rfl⟩⟩
theorem mb_X7_121 : kMB RX7 121 1 mX7_isDigit := ⟨gT_of (tb_4 (List.mem_of_getElem? (i := 206) rfl)) rfl, gT_of (tb_1 (List.mem_of_getElem? (i := 11) rfl)) rfl, gT_of (tb_4 (List.mem_of_getElem? (i := 209) rfl)) rfl, ⟨by decide +kernel, by decide +kernel, by decide +kernel⟩, by decide⟩
theorem mv_X7_121 : kMV RX7 121 1 mX7_isDigit := ⟨mb_X7_121, gT_of (tb_4 (List.mem_of_getElem? (i := 208) rfl)) rfl, List.mem_filter.mpr ⟨List.mem_append_left _ (List.mem_of_getElem? (i := 44) rfl), rfl⟩⟩
theorem mb_X7_131 : kMB RX7 131 0 mX7_act := ⟨gT_of (tb_4 (List.mem_of_getElem? (i := 212) rfl)) rfl, gT_of (tb_1 (List.mem_of_getElem? (i := 11) rfl)) rfl, gT_of (tb_4 (List.mem_of_getElem? (i := 215) rfl)) rfl, ⟨by decide +kernel, by decide +kernel, by decide +kernel⟩, by decide⟩
theorem mv_X7_131 : kMV RX7 131 0 mX7_act := ⟨mb_X7_131, gT_of (tb_4 (List.mem_of_getElem? (i := 214) rfl)) rfl, List.mem_filter.mpr ⟨List.mem_append_left _ (List.mem_of_getElem? (i := 45) rfl), rfl⟩⟩
theorem mb_L_50 : kMB RL 50 1 mX7_holds := ⟨gT_of (tb_4 (List.mem_of_getElem? (i := 216) rfl)) rfl, gT_of (tb_1 (List.mem_of_getElem? (i := 11) rfl)) rfl, gT_of (tb_4 (List.mem_of_getElem? (i := 219) rfl)) rfl, ⟨by decide +kernel, by decide +kernel, by decide +kernel⟩, by decide⟩
theorem mv_L_50 : kMV RL 50 1 mX7_holds := ⟨mb_L_50, gT_of (tb_4 (List.mem_of_getElem? (i := 217) rfl)) rfl, gT_of (tb_4 (List.mem_of_getElem? (i := 218) rfl)) rfl⟩
theorem mb_X7_166 : kMB RX7 166 2 mX7_slower := ⟨gT_of (tb_4 (List.mem_of_getElem? (i := 220) rfl)) rfl, gT_of (tb_1 (List.mem_of_getElem? (i := 11) rfl)) rfl, gT_of (tb_4 (List.mem_of_getElem? (i := 223) rfl)) rfl, ⟨by decide +kernel, by decide +kernel, by decide +kernel⟩, by decide⟩
theorem mv_X7_166 : kMV RX7 166 2 mX7_slower := ⟨mb_X7_166, gT_of (tb_4 (List.mem_of_getElem? (i := 222) rfl)) rfl, List.mem_filter.mpr ⟨List.mem_append_left _ (List.mem_of_getElem? (i := 46) rfl), rfl⟩⟩
theorem mb_X7_169 : kMB RX7 169 6 mX7_clause := ⟨gT_of (tb_4 (List.mem_of_getElem? (i := 224) rfl)) rfl, gT_of (tb_1 (List.mem_of_getElem? (i := 11) rfl)) rfl, gT_of (tb_4 (List.mem_of_getElem? (i := 227) rfl)) rfl, ⟨by decide +kernel, by decide +kernel, by decide +kernel⟩, by decide⟩
theorem mv_X7_169 : kMV RX7 169 6 mX7_clause := ⟨mb_X7_169, gT_of (tb_4 (List.mem_of_getElem? (i := 226) rfl)) rfl, List.mem_filter.mpr ⟨List.mem_append_left _ (List.mem_of_getElem? (i := 47) rfl), rfl⟩⟩
theorem mb_X7_163 : kMB RX7 163 4 mX7_testHolds := ⟨gT_of (tb_4 (List.mem_of_getElem? (i := 228) rfl)) rfl, gT_of (tb_1 (List.mem_of_getElem? (i := 11) rfl)) rfl, gT_of (tb_4 (List.mem_of_getElem? (i := 231) rfl)) rfl, ⟨by decide +kernel, by decide +kernel, by decide +kernel⟩, by decide⟩
theorem mv_X7_163 : kMV RX7 163 4 mX7_testHolds := ⟨mb_X7_163, gT_of (tb_4 (List.mem_of_getElem? (i := 230) rfl)) rfl, List.mem_filter.mpr ⟨List.mem_append_left _ (List.mem_of_getElem? (i := 48) rfl), rfl⟩⟩
theorem mb_X7_143 : kMB RX7 143 0 mX7_sign := ⟨gT_of (tb_4 (List.mem_of_getElem? (i := 232) rfl)) rfl, gT_of (tb_1 (List.mem_of_getElem? (i := 11) rfl)) rfl, gT_of (tb_4 (List.mem_of_getElem? (i := 235) rfl)) rfl, ⟨by decide +kernel, by decide +kernel, by decide +kernel⟩, by decide⟩
theorem mv_X7_143 : kMV RX7 143 0 mX7_sign := ⟨mb_X7_143, gT_of (tb_4 (List.mem_of_getElem? (i := 234) rfl)) rfl, List.mem_filter.mpr ⟨List.mem_append_left _ (List.mem_of_getElem? (i := 49) rfl), rfl⟩⟩
theorem mb_X7_152 : kMB RX7 152 4 mX7_claimHolds := ⟨gT_of (tb_4 (List.mem_of_getElem? (i := 236) rfl)) rfl, gT_of (tb_1 (List.mem_of_getElem? (i := 11) rfl)) rfl, gT_of (tb_4 (List.mem_of_getElem? (i := 239) rfl)) rfl, ⟨by decide +kernel, by decide +kernel, by decide +kernel⟩, by decide⟩
theorem mv_X7_152 : kMV RX7 152 4 mX7_claimHolds := ⟨mb_X7_152, gT_of (tb_4 (List.mem_of_getElem? (i := 238) rfl)) rfl, List.mem_filter.mpr ⟨List.mem_append_left _ (List.mem_of_getElem? (i := 50) rfl), rfl⟩⟩
theorem mb_X7_146 : kMB RX7 146 0 mX7_take := ⟨gT_of (tb_5 (List.mem_of_getElem? (i := 0) rfl)) rfl, gT_of (tb_1 (List.mem_of_getElem? (i := 11) rfl)) rfl, gT_of (tb_5 (List.mem_of_getElem? (i := 3) rfl)) rfl, ⟨by decide +kernel, by decide +kernel, by decide +kernel⟩, by decide⟩
theorem mv_X7_146 : kMV RX7 146 0 mX7_take := ⟨mb_X7_146, gT_of (tb_5 (List.mem_of_getElem? (i := 2) rfl)) rfl, List.mem_filter.mpr ⟨List.mem_append_left _ (List.mem_of_getElem? (i := 51) rfl), rfl⟩⟩
theorem mb_X7_149 : kMB RX7 149 0 mX7_digits := ⟨gT_of (tb_5 (List.mem_of_getElem? (i := 4) rfl)) rfl, gT_of (tb_1 (List.mem_of_getElem? (i := 11) rfl)) rfl, gT_of (tb_5 (List.mem_of_getElem? (i := 7) rfl)) rfl, ⟨by decide +kernel, by decide +kernel, by decide +kernel⟩, by decide⟩
theorem mv_X7_149 : kMV RX7 149 0 mX7_digits := ⟨mb_X7_149, gT_of (tb_5 (List.mem_of_getElem? (i := 6) rfl)) rfl, List.mem_filter.mpr ⟨List.mem_append_left _ (List.mem_of_getElem? (i := 52) rfl), rfl⟩⟩
theorem mb_L_54 : kMB RL 54 3 mX7_board := ⟨gT_of (tb_5 (List.mem_of_getElem? (i := 8) rfl)) rfl, gT_of (tb_1 (List.mem_of_getElem? (i := 11) rfl)) rfl, gT_of (tb_5 (List.mem_of_getElem? (i := 11) rfl)) rfl, ⟨by decide +kernel, by decide +kernel, by decide +kernel⟩, by decide⟩
theorem mv_L_54 : kMV RL 54 3 mX7_board := ⟨mb_L_54, gT_of (tb_5 (List.mem_of_getElem? (i := 9) rfl)) rfl, gT_of (tb_5 (List.mem_of_getElem? (i := 10) rfl)) rfl⟩
theorem mb_L_58 : kMB RL 58 1 mX7_loop := ⟨gT_of (tb_5 (List.mem_of_getElem? (i := 12) rfl)) rfl, gT_of (tb_1 (List.mem_of_getElem? (i := 11) rfl)) rfl, gT_of (tb_5 (List.mem_of_getElem? (i := 15) rfl)) rfl, ⟨by decide +kernel, by decide +kernel, by decide +kernel⟩, by decide⟩
theorem mv_L_58 : kMV RL 58 1 mX7_loop := ⟨mb_L_58, gT_of (tb_5 (List.mem_of_getElem? (i := 13) rfl)) rfl, gT_of (tb_5 (List.mem_of_getElem? (i := 14) rfl)) rfl⟩
theorem mb_L_62 : kMB RL 62 2 mX7_looped := ⟨gT_of (tb_5 (List.mem_of_getElem? (i := 16) rfl)) rfl, gT_of (tb_1 (List.mem_of_getElem? (i := 11) rfl)) rfl, gT_of (tb_5 (List.mem_of_getElem? (i := 19) rfl)) rfl, ⟨by decide +kernel, by decide +kernel, by decide +kernel⟩, by decide⟩
theorem mv_L_62 : kMV RL 62 2 mX7_looped := ⟨mb_L_62, gT_of (tb_5 (List.mem_of_getElem? (i := 17) rfl)) rfl, gT_of (tb_5 (List.mem_of_getElem? (i := 18) rfl)) rfl⟩
theorem mb_L_66 : kMB RL 66 1 mX7_tap := ⟨gT_of (tb_5 (List.mem_of_getElem? (i := 20) rfl)) rfl, gT_of (tb_1 (List.mem_of_getElem? (i := 11) rfl)) rfl, gT_of (tb_5 (List.mem_of_getElem? (i := 23) rfl)) rfl, ⟨by decide +kernel, by decide +kernel, by decide +kernel⟩, by decide⟩
theorem mv_L_66 : kMV RL 66 1 mX7_tap := ⟨mb_L_66, gT_of (tb_5 (List.mem_of_getElem? (i := 21) rfl)) rfl, gT_of (tb_5 (List.mem_of_getElem? (i := 22) rfl)) rfl⟩
theorem mb_L_70 : kMB RL 70 1 mX7_ticks := ⟨gT_of (tb_5 (List.mem_of_getElem? (i := 24) rfl)) rfl, gT_of (tb_1 (List.mem_of_getElem? (i := 11) rfl)) rfl, gT_of (tb_5 (List.mem_of_getElem? (i := 27) rfl)) rfl, ⟨by decide +kernel, by decide +kernel, by decide +kernel⟩, by decide⟩
theorem mv_L_70 : kMV RL 70 1 mX7_ticks := ⟨mb_L_70, gT_of (tb_5 (List.mem_of_getElem? (i := 25) rfl)) rfl, gT_of (tb_5 (List.mem_of_getElem? (i := 26) rfl)) rfl⟩
theorem mb_X7_200 : kMB RX7 200 1 mX7_tick := ⟨gT_of (tb_5 (List.mem_of_getElem? (i := 30) rfl)) rfl, gT_of (tb_1 (List.mem_of_getElem? (i := 11) rfl)) rfl, gT_of (tb_5 (List.mem_of_getElem? (i := 33) rfl)) rfl, ⟨by decide +kernel, by decide +kernel, by decide +kernel⟩, by decide⟩
theorem mv_X7_200 : kMV RX7 200 1 mX7_tick := ⟨mb_X7_200, gT_of (tb_5 (List.mem_of_getElem? (i := 32) rfl)) rfl, List.mem_filter.mpr ⟨List.mem_append_left _ (List.mem_of_getElem? (i := 53) rfl), rfl⟩⟩
theorem mb_X7_173 : kMB RX7 173 2 mX7_note := ⟨gT_of (tb_5 (List.mem_of_getElem? (i := 34) rfl)) rfl, gT_of (tb_1 (List.mem_of_getElem? (i := 11) rfl)) rfl, gT_of (tb_5 (List.mem_of_getElem? (i := 37) rfl)) rfl, ⟨by decide +kernel, by decide +kernel, by decide +kernel⟩, by decide⟩
theorem mv_X7_173 : kMV RX7 173 2 mX7_note := ⟨mb_X7_173, gT_of (tb_5 (List.mem_of_getElem? (i := 36) rfl)) rfl, List.mem_filter.mpr ⟨List.mem_append_left _ (List.mem_of_getElem? (i := 54) rfl), rfl⟩⟩
theorem mb_X7_177 : kMB RX7 177 2 mX7_decide := ⟨gT_of (tb_5 (List.mem_of_getElem? (i := 38) rfl)) rfl, gT_of (tb_1 (List.mem_of_getElem? (i := 11) rfl)) rfl, gT_of (tb_5 (List.mem_of_getElem? (i := 41) rfl)) rfl, ⟨by decide +kernel, by decide +kernel, by decide +kernel⟩, by decide⟩
theorem mv_X7_177 : kMV RX7 177 2 mX7_decide := ⟨mb_X7_177, gT_of (tb_5 (List.mem_of_getElem? (i := 40) rfl)) rfl, List.mem_filter.mpr ⟨List.mem_append_left _ (List.mem_of_getElem? (i := 55) rfl), rfl⟩⟩
theorem mb_X7_180 : kMB RX7 180 2 mX7_hasRoom := ⟨gT_of (tb_5 (List.mem_of_getElem? (i := 42) rfl)) rfl, gT_of (tb_1 (List.mem_of_getElem? (i := 11) rfl)) rfl, gT_of (tb_5 (List.mem_of_getElem? (i := 45) rfl)) rfl, ⟨by decide +kernel, by decide +kernel, by decide +kernel⟩, by decide⟩
theorem mv_X7_180 : kMV RX7 180 2 mX7_hasRoom := ⟨mb_X7_180, gT_of (tb_5 (List.mem_of_getElem? (i := 44) rfl)) rfl, List.mem_filter.mpr ⟨List.mem_append_left _ (List.mem_of_getElem? (i := 56) rfl), rfl⟩⟩
theorem mb_X7_184 : kMB RX7 184 2 mX7_limited := ⟨gT_of (tb_5 (List.mem_of_getElem? (i := 46) rfl)) rfl, gT_of (tb_1 (List.mem_of_getElem? (i := 11) rfl)) rfl, gT_of (tb_5 (List.mem_of_getElem? (i := 49) rfl)) rfl, ⟨by decide +kernel, by decide +kernel, by decide +kernel⟩, by decide⟩
theorem mv_X7_184 : kMV RX7 184 2 mX7_limited := ⟨mb_X7_184, gT_of (tb_5 (List.mem_of_getElem? (i := 48) rfl)) rfl, List.mem_filter.mpr ⟨List.mem_append_left _ (List.mem_of_getElem? (i := 57) rfl), rfl⟩⟩
theorem mb_X7_187 : kMB RX7 187 2 mX7_goOn := ⟨gT_of (tb_5 (List.mem_of_getElem? (i := 50) rfl)) rfl, gT_of (tb_1 (List.mem_of_getElem? (i := 11) rfl)) rfl, gT_of (tb_5 (List.mem_of_getElem? (i := 53) rfl)) rfl, ⟨by decide +kernel, by decide +kernel, by decide +kernel⟩, by decide⟩
theorem mv_X7_187 : kMV RX7 187 2 mX7_goOn := ⟨mb_X7_187, gT_of (tb_5 (List.mem_of_getElem? (i := 52) rfl)) rfl, List.mem_filter.mpr ⟨List.mem_append_left _ (List.mem_of_getElem? (i := 58) rfl), rfl⟩⟩
theorem mb_X7_190 : kMB RX7 190 1 mX7_noteFirst := ⟨gT_of (tb_5 (List.mem_of_getElem? (i := 54) rfl)) rfl, gT_of (tb_1 (List.mem_of_getElem? (i := 11) rfl)) rfl, gT_of (tb_5 (List.mem_of_getElem? (i := 57) rfl)) rfl, ⟨by decide +kernel, by decide +kernel, by decide +kernel⟩, by decide⟩
theorem mv_X7_190 : kMV RX7 190 1 mX7_noteFirst := ⟨mb_X7_190, gT_of (tb_5 (List.mem_of_getElem? (i := 56) rfl)) rfl, List.mem_filter.mpr ⟨List.mem_append_left _ (List.mem_of_getElem? (i := 59) rfl), rfl⟩⟩
theorem mb_X7_194 : kMB RX7 194 1 mX7_isEven := ⟨gT_of (tb_5 (List.mem_of_getElem? (i := 58) rfl)) rfl, gT_of (tb_1 (List.mem_of_getElem? (i := 11) rfl)) rfl, gT_of (tb_5 (List.mem_of_getElem? (i := 61) rfl)) rfl, ⟨by decide +kernel, by decide +kernel, by decide +kernel⟩, by decide⟩
theorem mv_X7_194 : kMV RX7 194 1 mX7_isEven := ⟨mb_X7_194, gT_of (tb_5 (List.mem_of_getElem? (i := 60) rfl)) rfl, List.mem_filter.mpr ⟨List.mem_append_left _ (List.mem_of_getElem? (i := 60) rfl), rfl⟩⟩
theorem mb_L_74 : kMB RL 74 1 mX7_count := ⟨gT_of (tb_5 (List.mem_of_getElem? (i := 62) rfl)) rfl, gT_of (tb_1 (List.mem_of_getElem? (i := 11) rfl)) rfl, gT_of (tb_5 (List.mem_of_getElem? (i := 65) rfl)) rfl, ⟨by decide +kernel, by decide +kernel, by decide +kernel⟩, by decide⟩
theorem mv_L_74 : kMV RL 74 1 mX7_count := ⟨mb_L_74, gT_of (tb_5 (List.mem_of_getElem? (i := 63) rfl)) rfl, gT_of (tb_5 (List.mem_of_getElem? (i := 64) rfl)) rfl⟩
theorem mb_X7_215 : kMB RX7 215 1 mX7_findKnots := ⟨gT_of (tb_5 (List.mem_of_getElem? (i := 66) rfl)) rfl, gT_of (tb_1 (List.mem_of_getElem? (i := 11) rfl)) rfl, gT_of (tb_5 (List.mem_of_getElem? (i := 69) rfl)) rfl, ⟨by decide +kernel, by decide +kernel, by decide +kernel⟩, by decide⟩
theorem mv_X7_215 : kMV RX7 215 1 mX7_findKnots := ⟨mb_X7_215, gT_of (tb_5 (List.mem_of_getElem? (i := 68) rfl)) rfl, List.mem_filter.mpr ⟨List.mem_append_left _ (List.mem_of_getElem? (i := 61) rfl), rfl⟩⟩
theorem mb_X7_206 : kMB RX7 206 2 mX7_isSlow := ⟨gT_of (tb_5 (List.mem_of_getElem? (i := 70) rfl)) rfl, gT_of (tb_1 (List.mem_of_getElem? (i := 11) rfl)) rfl, gT_of (tb_5 (List.mem_of_getElem? (i := 73) rfl)) rfl, ⟨by decide +kernel, by decide +kernel, by decide +kernel⟩, by decide⟩
theorem mv_X7_206 : kMV RX7 206 2 mX7_isSlow := ⟨mb_X7_206, gT_of (tb_5 (List.mem_of_getElem? (i := 72) rfl)) rfl, List.mem_filter.mpr ⟨List.mem_append_left _ (List.mem_of_getElem? (i := 62) rfl), rfl⟩⟩
theorem mb_X7_209 : kMB RX7 209 3 mX7_addKnot := ⟨gT_of (tb_5 (List.mem_of_getElem? (i := 74) rfl)) rfl, gT_of (tb_1 (List.mem_of_getElem? (i := 11) rfl)) rfl, gT_of (tb_5 (List.mem_of_getElem? (i := 77) rfl)) rfl, ⟨by decide +kernel, by decide +kernel, by decide +kernel⟩, by decide⟩
theorem mv_X7_209 : kMV RX7 209 3 mX7_addKnot := ⟨mb_X7_209, gT_of (tb_5 (List.mem_of_getElem? (i := 76) rfl)) rfl, List.mem_filter.mpr ⟨List.mem_append_left _ (List.mem_of_getElem? (i := 63) rfl), rfl⟩⟩
theorem mb_X7_212 : kMB RX7 212 2 mX7_behind := ⟨gT_of (tb_5 (List.mem_of_getElem? (i := 78) rfl)) rfl, gT_of (tb_1 (List.mem_of_getElem? (i := 11) rfl)) rfl, gT_of (tb_5 (List.mem_of_getElem? (i := 81) rfl)) rfl, ⟨by decide +kernel, by decide +kernel, by decide +kernel⟩, by decide⟩
theorem mv_X7_212 : kMV RX7 212 2 mX7_behind := ⟨mb_X7_212, gT_of (tb_5 (List.mem_of_getElem? (i := 80) rfl)) rfl, List.mem_filter.mpr ⟨List.mem_append_left _ (List.mem_of_getElem? (i := 64) rfl), rfl⟩⟩
theorem mb_L_78 : kMB RL 78 2 mX7_knot := ⟨gT_of (tb_5 (List.mem_of_getElem? (i := 82) rfl)) rfl, gT_of (tb_1 (List.mem_of_getElem? (i := 11) rfl)) rfl, gT_of (tb_5 (List.mem_of_getElem? (i := 85) rfl)) rfl, ⟨by decide +kernel, by decide +kernel, by decide +kernel⟩, by decide⟩
theorem mv_L_78 : kMV RL 78 2 mX7_knot := ⟨mb_L_78, gT_of (tb_5 (List.mem_of_getElem? (i := 83) rfl)) rfl, gT_of (tb_5 (List.mem_of_getElem? (i := 84) rfl)) rfl⟩
theorem mb_L_83 : kMB RL 83 0 mX7_first := ⟨gT_of (tb_5 (List.mem_of_getElem? (i := 86) rfl)) rfl, gT_of (tb_1 (List.mem_of_getElem? (i := 11) rfl)) rfl, gT_of (tb_5 (List.mem_of_getElem? (i := 89) rfl)) rfl, ⟨by decide +kernel, by decide +kernel, by decide +kernel⟩, by decide⟩
theorem mv_L_83 : kMV RL 83 0 mX7_first := ⟨mb_L_83, gT_of (tb_5 (List.mem_of_getElem? (i := 87) rfl)) rfl, gT_of (tb_5 (List.mem_of_getElem? (i := 88) rfl)) rfl⟩
theorem mb_L_87 : kMB RL 87 3 mX7_cost := ⟨gT_of (tb_5 (List.mem_of_getElem? (i := 90) rfl)) rfl, gT_of (tb_1 (List.mem_of_getElem? (i := 11) rfl)) rfl, gT_of (tb_5 (List.mem_of_getElem? (i := 93) rfl)) rfl, ⟨by decide +kernel, by decide +kernel, by decide +kernel⟩, by decide⟩
theorem mv_L_87 : kMV RL 87 3 mX7_cost := ⟨mb_L_87, gT_of (tb_5 (List.mem_of_getElem? (i := 91) rfl)) rfl, gT_of (tb_5 (List.mem_of_getElem? (i := 92) rfl)) rfl⟩
theorem mb_X7_219 : kMB RX7 219 2 mX7_copyRing := ⟨gT_of (tb_5 (List.mem_of_getElem? (i := 95) rfl)) rfl, gT_of (tb_1 (List.mem_of_getElem? (i := 11) rfl)) rfl, gT_of (tb_5 (List.mem_of_getElem? (i := 98) rfl)) rfl, ⟨by decide +kernel, by decide +kernel, by decide +kernel⟩, by decide⟩
theorem mv_X7_219 : kMV RX7 219 2 mX7_copyRing := ⟨mb_X7_219, gT_of (tb_5 (List.mem_of_getElem? (i := 97) rfl)) rfl, List.mem_filter.mpr ⟨List.mem_append_left _ (List.mem_of_getElem? (i := 65) rfl), rfl⟩⟩
theorem mb_X7_222 : kMB RX7 222 2 mX7_wentAll := ⟨gT_of (tb_5 (List.mem_of_getElem? (i := 99) rfl)) rfl, gT_of (tb_1 (List.mem_of_getElem? (i := 11) rfl)) rfl, gT_of (tb_5 (List.mem_of_getElem? (i := 102) rfl)) rfl, ⟨by decide +kernel, by decide +kernel, by decide +kernel⟩, by decide⟩
theorem mv_X7_222 : kMV RX7 222 2 mX7_wentAll := ⟨mb_X7_222, gT_of (tb_5 (List.mem_of_getElem? (i := 101) rfl)) rfl, List.mem_filter.mpr ⟨List.mem_append_left _ (List.mem_of_getElem? (i := 66) rfl), rfl⟩⟩
theorem mb_L_91 : kMB RL 91 2 mX7_after := ⟨gT_of (tb_5 (List.mem_of_getElem? (i := 103) rfl)) rfl, gT_of (tb_1 (List.mem_of_getElem? (i := 11) rfl)) rfl, gT_of (tb_5 (List.mem_of_getElem? (i := 106) rfl)) rfl, ⟨by decide +kernel, by decide +kernel, by decide +kernel⟩, by decide⟩
theorem mv_L_91 : kMV RL 91 2 mX7_after := ⟨mb_L_91, gT_of (tb_5 (List.mem_of_getElem? (i := 104) rfl)) rfl, gT_of (tb_5 (List.mem_of_getElem? (i := 105) rfl)) rfl⟩
theorem mb_X7_225 : kMB RX7 225 3 mX7_knotsAfter := ⟨gT_of (tb_5 (List.mem_of_getElem? (i := 107) rfl)) rfl, gT_of (tb_1 (List.mem_of_getElem? (i := 11) rfl)) rfl, gT_of (tb_5 (List.mem_of_getElem? (i := 110) rfl)) rfl, ⟨by decide +kernel, by decide +kernel, by decide +kernel⟩, by decide⟩
theorem mv_X7_225 : kMV RX7 225 3 mX7_knotsAfter := ⟨mb_X7_225, gT_of (tb_5 (List.mem_of_getElem? (i := 109) rfl)) rfl, List.mem_filter.mpr ⟨List.mem_append_left _ (List.mem_of_getElem? (i := 67) rfl), rfl⟩⟩
theorem mb_L_95 : kMB RL 95 2 mX7_calmed := ⟨gT_of (tb_5 (List.mem_of_getElem? (i := 111) rfl)) rfl, gT_of (tb_1 (List.mem_of_getElem? (i := 11) rfl)) rfl, gT_of (tb_5 (List.mem_of_getElem? (i := 114) rfl)) rfl, ⟨by decide +kernel, by decide +kernel, by decide +kernel⟩, by decide⟩
theorem mv_L_95 : kMV RL 95 2 mX7_calmed := ⟨mb_L_95, gT_of (tb_5 (List.mem_of_getElem? (i := 112) rfl)) rfl, gT_of (tb_5 (List.mem_of_getElem? (i := 113) rfl)) rfl⟩
theorem mb_X7_228 : kMB RX7 228 1 mX7_bits := ⟨gT_of (tb_5 (List.mem_of_getElem? (i := 115) rfl)) rfl, gT_of (tb_1 (List.mem_of_getElem? (i := 11) rfl)) rfl, gT_of (tb_5 (List.mem_of_getElem? (i := 117) rfl)) rfl, ⟨by decide +kernel, by decide +kernel, by decide +kernel⟩, by decide⟩
theorem ms_X7_228 : kMS RX7 228 1 mX7_bits := ⟨mb_X7_228, gT_of (tb_5 (List.mem_of_getElem? (i := 116) rfl)) rfl⟩
theorem mb_L_99 : kMB RL 99 1 mX7_round := ⟨gT_of (tb_5 (List.mem_of_getElem? (i := 118) rfl)) rfl, gT_of (tb_1 (List.mem_of_getElem? (i := 11) rfl)) rfl, gT_of (tb_5 (List.mem_of_getElem? (i := 121) rfl)) rfl, ⟨by decide +kernel, by decide +kernel, by decide +kernel⟩, by decide⟩
theorem mv_L_99 : kMV RL 99 1 mX7_round := ⟨mb_L_99, gT_of (tb_5 (List.mem_of_getElem? (i := 119) rfl)) rfl, gT_of (tb_5 (List.mem_of_getElem? (i := 120) rfl)) rfl⟩
theorem mb_X7_234 : kMB RX7 234 0 mX7_isSame := ⟨gT_of (tb_5 (List.mem_of_getElem? (i := 123) rfl)) rfl, gT_of (tb_1 (List.mem_of_getElem? (i := 11) rfl)) rfl, gT_of (tb_5 (List.mem_of_getElem? (i := 126) rfl)) rfl, ⟨by decide +kernel, by decide +kernel, by decide +kernel⟩, by decide⟩
theorem mv_X7_234 : kMV RX7 234 0 mX7_isSame := ⟨mb_X7_234, gT_of (tb_5 (List.mem_of_getElem? (i := 125) rfl)) rfl, List.mem_filter.mpr ⟨List.mem_append_left _ (List.mem_of_getElem? (i := 68) rfl), rfl⟩⟩
theorem mb_L_103 : kMB RL 103 1 mX7_evens := ⟨gT_of (tb_5 (List.mem_of_getElem? (i := 127) rfl)) rfl, gT_of (tb_1 (List.mem_of_getElem? (i := 11) rfl)) rfl, gT_of (tb_5 (List.mem_of_getElem? (i := 130) rfl)) rfl, ⟨by decide +kernel, by decide +kernel, by decide +kernel⟩, by decide⟩
theorem mv_L_103 : kMV RL 103 1 mX7_evens := ⟨mb_L_103, gT_of (tb_5 (List.mem_of_getElem? (i := 128) rfl)) rfl, gT_of (tb_5 (List.mem_of_getElem? (i := 129) rfl)) rfl⟩
theorem mb_L_107 : kMB RL 107 1 mX7_image := ⟨gT_of (tb_5 (List.mem_of_getElem? (i := 131) rfl)) rfl, gT_of (tb_1 (List.mem_of_getElem? (i := 11) rfl)) rfl, gT_of (tb_5 (List.mem_of_getElem? (i := 134) rfl)) rfl, ⟨by decide +kernel, by decide +kernel, by decide +kernel⟩, by decide⟩
theorem mv_L_107 : kMV RL 107 1 mX7_image := ⟨mb_L_107, gT_of (tb_5 (List.mem_of_getElem? (i := 132) rfl)) rfl, gT_of (tb_5 (List.mem_of_getElem? (i := 133) rfl)) rfl⟩
theorem mb_L_111 : kMB RL 111 1 mX7_restore := ⟨gT_of (tb_5 (List.mem_of_getElem? (i := 135) rfl)) rfl, gT_of (tb_1 (List.mem_of_getElem? (i := 11) rfl)) rfl, gT_of (tb_5 (List.mem_of_getElem? (i := 138) rfl)) rfl, ⟨by decide +kernel, by decide +kernel, by decide +kernel⟩, by decide⟩
theorem mv_L_111 : kMV RL 111 1 mX7_restore := ⟨mb_L_111, gT_of (tb_5 (List.mem_of_getElem? (i := 136) rfl)) rfl, gT_of (tb_5 (List.mem_of_getElem? (i := 137) rfl)) rfl⟩
theorem mb_L_115 : kMB RL 115 3 mX7_paces := ⟨gT_of (tb_5 (List.mem_of_getElem? (i := 139) rfl)) rfl, gT_of (tb_1 (List.mem_of_getElem? (i := 11) rfl)) rfl, gT_of (tb_5 (List.mem_of_getElem? (i := 142) rfl)) rfl, ⟨by decide +kernel, by decide +kernel, by decide +kernel⟩, by decide⟩
theorem mv_L_115 : kMV RL 115 3 mX7_paces := ⟨mb_L_115, gT_of (tb_5 (List.mem_of_getElem? (i := 140) rfl)) rfl, gT_of (tb_5 (List.mem_of_getElem? (i := 141) rfl)) rfl⟩
theorem mb_X7_237 : kMB RX7 237 1 mX7_isSheet := ⟨gT_of (tb_5 (List.mem_of_getElem? (i := 143) rfl)) rfl, gT_of (tb_1 (List.mem_of_getElem? (i := 11) rfl)) rfl, gT_of (tb_5 (List.mem_of_getElem? (i := 145) rfl)) rfl, ⟨by decide +kernel, by decide +kernel, by decide +kernel⟩, by decide⟩
theorem ms_X7_237 : kMS RX7 237 1 mX7_isSheet := ⟨mb_X7_237, gT_of (tb_5 (List.mem_of_getElem? (i := 144) rfl)) rfl⟩
theorem mb_X7_240 : kMB RX7 240 4 mX7_row := ⟨gT_of (tb_5 (List.mem_of_getElem? (i := 146) rfl)) rfl, gT_of (tb_1 (List.mem_of_getElem? (i := 11) rfl)) rfl, gT_of (tb_5 (List.mem_of_getElem? (i := 149) rfl)) rfl, ⟨by decide +kernel, by decide +kernel, by decide +kernel⟩, by decide⟩
theorem mv_X7_240 : kMV RX7 240 4 mX7_row := ⟨mb_X7_240, gT_of (tb_5 (List.mem_of_getElem? (i := 148) rfl)) rfl, List.mem_filter.mpr ⟨List.mem_append_left _ (List.mem_of_getElem? (i := 69) rfl), rfl⟩⟩
theorem mb_L_119 : kMB RL 119 2 mX7_taps := ⟨gT_of (tb_5 (List.mem_of_getElem? (i := 150) rfl)) rfl, gT_of (tb_1 (List.mem_of_getElem? (i := 11) rfl)) rfl, gT_of (tb_5 (List.mem_of_getElem? (i := 153) rfl)) rfl, ⟨by decide +kernel, by decide +kernel, by decide +kernel⟩, by decide⟩
theorem mv_L_119 : kMV RL 119 2 mX7_taps := ⟨mb_L_119, gT_of (tb_5 (List.mem_of_getElem? (i := 151) rfl)) rfl, gT_of (tb_5 (List.mem_of_getElem? (i := 152) rfl)) rfl⟩
theorem mb_L_123 : kMB RL 123 3 mX7_sheet := ⟨gT_of (tb_5 (List.mem_of_getElem? (i := 154) rfl)) rfl, gT_of (tb_1 (List.mem_of_getElem? (i := 11) rfl)) rfl, gT_of (tb_5 (List.mem_of_getElem? (i := 157) rfl)) rfl, ⟨by decide +kernel, by decide +kernel, by decide +kernel⟩, by decide⟩
theorem mv_L_123 : kMV RL 123 3 mX7_sheet := ⟨mb_L_123, gT_of (tb_5 (List.mem_of_getElem? (i := 155) rfl)) rfl, gT_of (tb_5 (List.mem_of_getElem? (i := 156) rfl)) rfl⟩
theorem mb_L_127 : kMB RL 127 1 mX7_drop := ⟨gT_of (tb_5 (List.mem_of_getElem? (i := 158) rfl)) rfl, gT_of (tb_1 (List.mem_of_getElem? (i := 11) rfl)) rfl, gT_of (tb_5 (List.mem_of_getElem? (i := 161) rfl)) rfl, ⟨by decide +kernel, by decide +kernel, by decide +kernel⟩, by decide⟩
theorem mv_L_127 : kMV RL 127 1 mX7_drop := ⟨mb_L_127, gT_of (tb_5 (List.mem_of_getElem? (i := 159) rfl)) rfl, gT_of (tb_5 (List.mem_of_getElem? (i := 160) rfl)) rfl⟩
theorem mb_L_132 : kMB RL 132 4 mX7_item := ⟨gT_of (tb_5 (List.mem_of_getElem? (i := 162) rfl)) rfl, gT_of (tb_1 (List.mem_of_getElem? (i := 11) rfl)) rfl, gT_of (tb_5 (List.mem_of_getElem? (i := 165) rfl)) rfl, ⟨by decide +kernel, by decide +kernel, by decide +kernel⟩, by decide⟩
theorem mv_L_132 : kMV RL 132 4 mX7_item := ⟨mb_L_132, gT_of (tb_5 (List.mem_of_getElem? (i := 163) rfl)) rfl, gT_of (tb_5 (List.mem_of_getElem? (i := 164) rfl)) rfl⟩
theorem mb_L_137 : kMB RL 137 5 mX7_copy := ⟨gT_of (tb_5 (List.mem_of_getElem? (i := 166) rfl)) rfl, gT_of (tb_1 (List.mem_of_getElem? (i := 11) rfl)) rfl, gT_of (tb_5 (List.mem_of_getElem? (i := 169) rfl)) rfl, ⟨by decide +kernel, by decide +kernel, by decide +kernel⟩, by decide⟩
theorem mv_L_137 : kMV RL 137 5 mX7_copy := ⟨mb_L_137, gT_of (tb_5 (List.mem_of_getElem? (i := 167) rfl)) rfl, gT_of (tb_5 (List.mem_of_getElem? (i := 168) rfl)) rfl⟩
theorem it_L : Cond.initialized RL ∈ gT := gT_of (tb_1 (List.mem_of_getElem? (i := 0) rfl)) rfl
theorem it_X6 : Cond.initialized RX6 ∈ gT := gT_of (tb_1 (List.mem_of_getElem? (i := 1) rfl)) rfl
theorem it_X2 : Cond.initialized RX2 ∈ gT := gT_of (tb_1 (List.mem_of_getElem? (i := 2) rfl)) rfl
theorem it_X3 : Cond.initialized RX3 ∈ gT := gT_of (tb_1 (List.mem_of_getElem? (i := 3) rfl)) rfl
theorem it_X1 : Cond.initialized RX1 ∈ gT := gT_of (tb_1 (List.mem_of_getElem? (i := 4) rfl)) rfl
theorem it_J7 : Cond.initialized RJ7 ∈ gT := gT_of (tb_1 (List.mem_of_getElem? (i := 5) rfl)) rfl
theorem it_J9 : Cond.initialized RJ9 ∈ gT := gT_of (tb_1 (List.mem_of_getElem? (i := 6) rfl)) rfl
theorem it_J10 : Cond.initialized RJ10 ∈ gT := gT_of (tb_1 (List.mem_of_getElem? (i := 7) rfl)) rfl
theorem it_X4 : Cond.initialized RX4 ∈ gT := gT_of (tb_1 (List.mem_of_getElem? (i := 8) rfl)) rfl
theorem it_X0 : Cond.initialized RX0 ∈ gT := gT_of (tb_1 (List.mem_of_getElem? (i := 9) rfl)) rfl
theorem it_X5 : Cond.initialized RX5 ∈ gT := gT_of (tb_1 (List.mem_of_getElem? (i := 10) rfl)) rfl
theorem it_X7 : Cond.initialized RX7 ∈ gT := gT_of (tb_1 (List.mem_of_getElem? (i := 11) rfl)) rfl
theorem it_J6 : Cond.initialized RJ6 ∈ gT := gT_of (tb_1 (List.mem_of_getElem? (i := 12) rfl)) rfl
theorem cl_L_7 : Cond.classLink RL 7 RX6 ∈ gT := gT_of (tb_1 (List.mem_of_getElem? (i := 13) rfl)) rfl
theorem in_X6 : Cond.instantiable RX6 7 ∈ gT := gT_of (tb_1 (List.mem_of_getElem? (i := 14) rfl)) rfl
theorem lk_X6_3 : Cond.methodLink RX6 3 Lib.objectInit ∈ gT := gT_of (tb_1 (List.mem_of_getElem? (i := 18) rfl)) rfl
theorem cl_X6_9 : Cond.classLink RX6 9 RX4 ∈ gT := gT_of (tb_1 (List.mem_of_getElem? (i := 21) rfl)) rfl
theorem cl_X6_19 : Cond.classLink RX6 19 RX2 ∈ gT := gT_of (tb_1 (List.mem_of_getElem? (i := 23) rfl)) rfl
theorem in_X2 : Cond.instantiable RX2 4 ∈ gT := gT_of (tb_1 (List.mem_of_getElem? (i := 24) rfl)) rfl
theorem lk_X2_3 : Cond.methodLink RX2 3 Lib.objectInit ∈ gT := gT_of (tb_1 (List.mem_of_getElem? (i := 28) rfl)) rfl
theorem ac_boolean : Cond.arrayClass .boolean ∈ gT := gT_of (tb_1 (List.mem_of_getElem? (i := 44) rfl)) rfl
theorem ac_int : Cond.arrayClass .int ∈ gT := gT_of (tb_1 (List.mem_of_getElem? (i := 45) rfl)) rfl
theorem cl_X6_26 : Cond.classLink RX6 26 RX5 ∈ gT := gT_of (tb_1 (List.mem_of_getElem? (i := 46) rfl)) rfl
theorem cl_X6_32 : Cond.classLink RX6 32 RX3 ∈ gT := gT_of (tb_1 (List.mem_of_getElem? (i := 48) rfl)) rfl
theorem in_X3 : Cond.instantiable RX3 16 ∈ gT := gT_of (tb_1 (List.mem_of_getElem? (i := 49) rfl)) rfl
theorem lk_X3_3 : Cond.methodLink RX3 3 Lib.objectInit ∈ gT := gT_of (tb_1 (List.mem_of_getElem? (i := 53) rfl)) rfl
theorem cl_X6_35 : Cond.classLink RX6 35 RX1 ∈ gT := gT_of (tb_1 (List.mem_of_getElem? (i := 116) rfl)) rfl
theorem in_X1 : Cond.instantiable RX1 9 ∈ gT := gT_of (tb_1 (List.mem_of_getElem? (i := 117) rfl)) rfl
theorem lk_X1_3 : Cond.methodLink RX1 3 Lib.objectInit ∈ gT := gT_of (tb_1 (List.mem_of_getElem? (i := 121) rfl)) rfl
theorem lk_J7_316 : Cond.methodLink RJ7 316 ⟨"[I", "clone", "()Ljava/lang/Object;"⟩ ∈ gT := gT_of (tb_1 (List.mem_of_getElem? (i := 125) rfl)) rfl
theorem cl_J7_317 : Cond.classLink RJ7 317 "[I" ∈ gT := gT_of (tb_1 (List.mem_of_getElem? (i := 131) rfl)) rfl
theorem lk_J7_304 : Cond.methodLink RJ7 304 Lib.Math.min.name ∈ gT := gT_of (tb_1 (List.mem_of_getElem? (i := 132) rfl)) rfl
theorem lk_J7_150 : Cond.methodLink RJ7 150 arraycopyName ∈ gT := gT_of (tb_1 (List.mem_of_getElem? (i := 135) rfl)) rfl
theorem in_X4 : Cond.instantiable RX4 15 ∈ gT := gT_of (tb_1 (List.mem_of_getElem? (i := 167) rfl)) rfl
theorem lk_X4_3 : Cond.methodLink RX4 3 Lib.objectInit ∈ gT := gT_of (tb_1 (List.mem_of_getElem? (i := 171) rfl)) rfl
theorem cl_X4_33 : Cond.classLink RX4 33 RX0 ∈ gT := gT_of (tb_1 (List.mem_of_getElem? (i := 172) rfl)) rfl
theorem cl_X4_39 : Cond.classLink RX4 39 RX1 ∈ gT := gT_of (tb_1 (List.mem_of_getElem? (i := 174) rfl)) rfl
theorem in_X0 : Cond.instantiable RX0 16 ∈ gT := gT_of (tb_1 (List.mem_of_getElem? (i := 176) rfl)) rfl
theorem lk_X0_1 : Cond.methodLink RX0 1 Lib.objectInit ∈ gT := gT_of (tb_1 (List.mem_of_getElem? (i := 180) rfl)) rfl
theorem in_X5 : Cond.instantiable RX5 3 ∈ gT := gT_of (tb_2 (List.mem_of_getElem? (i := 75) rfl)) rfl
theorem lk_X5_3 : Cond.methodLink RX5 3 Lib.objectInit ∈ gT := gT_of (tb_2 (List.mem_of_getElem? (i := 79) rfl)) rfl
theorem lk_X3_112 : Cond.methodLink RX3 112 Lib.Math.min.name ∈ gT := gT_of (tb_2 (List.mem_of_getElem? (i := 196) rfl)) rfl
theorem cs_X6_191 : Cond.constant RX6 191 (99999) ∈ gT := gT_of (tb_3 (List.mem_of_getElem? (i := 55) rfl)) rfl
theorem lk_X0_61 : Cond.methodLink RX0 61 Lib.Math.max.name ∈ gT := gT_of (tb_3 (List.mem_of_getElem? (i := 80) rfl)) rfl
theorem lk_X4_156 : Cond.methodLink RX4 156 Lib.Math.min.name ∈ gT := gT_of (tb_3 (List.mem_of_getElem? (i := 104) rfl)) rfl
theorem lk_X0_86 : Cond.methodLink RX0 86 Lib.Math.min.name ∈ gT := gT_of (tb_3 (List.mem_of_getElem? (i := 109) rfl)) rfl
theorem cs_X6_211 : Cond.constant RX6 211 (-100001) ∈ gT := gT_of (tb_3 (List.mem_of_getElem? (i := 168) rfl)) rfl
theorem lk_X0_42 : Cond.methodLink RX0 42 arraycopyName ∈ gT := gT_of (tb_3 (List.mem_of_getElem? (i := 181) rfl)) rfl
theorem cs_J6_265 : Cond.constant RJ6 265 (1431655765) ∈ gT := gT_of (tb_3 (List.mem_of_getElem? (i := 201) rfl)) rfl
theorem cs_J6_266 : Cond.constant RJ6 266 (858993459) ∈ gT := gT_of (tb_3 (List.mem_of_getElem? (i := 202) rfl)) rfl
theorem cs_J6_267 : Cond.constant RJ6 267 (252645135) ∈ gT := gT_of (tb_3 (List.mem_of_getElem? (i := 203) rfl)) rfl
theorem lk_X6_259 : Cond.methodLink RX6 259 arraycopyName ∈ gT := gT_of (tb_4 (List.mem_of_getElem? (i := 44) rfl)) rfl
theorem cl_L_10 : Cond.classLink RL 10 RX7 ∈ gT := gT_of (tb_4 (List.mem_of_getElem? (i := 45) rfl)) rfl
theorem in_X7 : Cond.instantiable RX7 21 ∈ gT := gT_of (tb_4 (List.mem_of_getElem? (i := 46) rfl)) rfl
theorem lk_X7_1 : Cond.methodLink RX7 1 Lib.objectInit ∈ gT := gT_of (tb_4 (List.mem_of_getElem? (i := 50) rfl)) rfl
theorem cs_X7_68 : Cond.constantLong RX7 68 (12) ∈ gT := gT_of (tb_4 (List.mem_of_getElem? (i := 122) rfl)) rfl
theorem cs_X7_70 : Cond.constantLong RX7 70 (99) ∈ gT := gT_of (tb_4 (List.mem_of_getElem? (i := 123) rfl)) rfl
theorem cs_X7_72 : Cond.constantLong RX7 72 (9) ∈ gT := gT_of (tb_4 (List.mem_of_getElem? (i := 124) rfl)) rfl
theorem cs_X7_88 : Cond.constantLong RX7 88 (2) ∈ gT := gT_of (tb_4 (List.mem_of_getElem? (i := 156) rfl)) rfl
theorem cs_X7_90 : Cond.constantLong RX7 90 (3) ∈ gT := gT_of (tb_4 (List.mem_of_getElem? (i := 157) rfl)) rfl
theorem cs_X7_98 : Cond.constantLong RX7 98 (8) ∈ gT := gT_of (tb_4 (List.mem_of_getElem? (i := 182) rfl)) rfl
theorem cs_X7_100 : Cond.constantLong RX7 100 (255) ∈ gT := gT_of (tb_4 (List.mem_of_getElem? (i := 183) rfl)) rfl
theorem cs_X7_102 : Cond.constantLong RX7 102 (32) ∈ gT := gT_of (tb_4 (List.mem_of_getElem? (i := 184) rfl)) rfl
theorem cs_X7_104 : Cond.constantLong RX7 104 (126) ∈ gT := gT_of (tb_4 (List.mem_of_getElem? (i := 185) rfl)) rfl
theorem cs_X7_113 : Cond.constantLong RX7 113 (48) ∈ gT := gT_of (tb_4 (List.mem_of_getElem? (i := 210) rfl)) rfl
theorem cs_X7_115 : Cond.constantLong RX7 115 (57) ∈ gT := gT_of (tb_4 (List.mem_of_getElem? (i := 211) rfl)) rfl
theorem cs_X7_197 : Cond.constantLong RX7 197 (200) ∈ gT := gT_of (tb_5 (List.mem_of_getElem? (i := 28) rfl)) rfl
theorem cs_X7_199 : Cond.constant RX7 199 (99999) ∈ gT := gT_of (tb_5 (List.mem_of_getElem? (i := 29) rfl)) rfl
theorem cs_X7_218 : Cond.constant RX7 218 (-100001) ∈ gT := gT_of (tb_5 (List.mem_of_getElem? (i := 94) rfl)) rfl
theorem cs_X7_232 : Cond.constantLong RX7 232 (500) ∈ gT := gT_of (tb_5 (List.mem_of_getElem? (i := 122) rfl)) rfl
theorem cs_L_35 : Cond.constantLong RL 35 (4294967295) ∈ gT := gT_of (tb_5 (List.mem_of_getElem? (i := 170) rfl)) rfl
theorem ow_inst : Cond.instanceMethod Lib.objectInit ∈ gT := gT_of (tb_1 (List.mem_of_getElem? (i := 19) rfl)) rfl
theorem ow_code : Cond.code Lib.objectInit ⟨#[0xb1]⟩ 1 none ∈ gT := gT_of (tb_1 (List.mem_of_getElem? (i := 20) rfl)) rfl
theorem ow_maxs : Cond.static Lib.Math.max.name ∈ gT := gT_of (tb_3 (List.mem_of_getElem? (i := 81) rfl)) rfl
theorem ow_maxc : Cond.code Lib.Math.max.name Lib.Math.max.code 2 (some .int) ∈ gT := gT_of (tb_3 (List.mem_of_getElem? (i := 82) rfl)) rfl
theorem ow_mins : Cond.static Lib.Math.min.name ∈ gT := gT_of (tb_1 (List.mem_of_getElem? (i := 133) rfl)) rfl
theorem ow_minc : Cond.code Lib.Math.min.name Lib.Math.min.code 2 (some .int) ∈ gT := gT_of (tb_1 (List.mem_of_getElem? (i := 134) rfl)) rfl
theorem ow_acn : Cond.native arraycopyName ∈ gT := gT_of (tb_1 (List.mem_of_getElem? (i := 137) rfl)) rfl
theorem ow_acs : Cond.static arraycopyName ∈ gT := gT_of (tb_1 (List.mem_of_getElem? (i := 136) rfl)) rfl
theorem ow_cln : Cond.native ⟨"java/lang/Object", "clone", "()Ljava/lang/Object;"⟩ ∈ gT := gT_of (tb_1 (List.mem_of_getElem? (i := 127) rfl)) rfl
theorem ow_cli : Cond.instanceMethod ⟨"java/lang/Object", "clone", "()Ljava/lang/Object;"⟩ ∈ gT := gT_of (tb_1 (List.mem_of_getElem? (i := 128) rfl)) rfl
theorem ow_clm : Cond.sameMethod "[I" "java/lang/Object" "clone" "()Ljava/lang/Object;" ∈ gT := gT_of (tb_1 (List.mem_of_getElem? (i := 126) rfl)) rfl
theorem ow_cls : Cond.selects "[I" ⟨"[I", "clone", "()Ljava/lang/Object;"⟩ ⟨"java/lang/Object", "clone", "()Ljava/lang/Object;"⟩ ∈ gT := gT_of (tb_1 (List.mem_of_getElem? (i := 129) rfl)) rfl
