/-! The checks, go on. -/
theorem bkD_X12_sum : bchk3 (bm_14 132) bk_X12_sum = true := bchk3_app bkD_X12_sum_0 (bkD_X12_sum_1)
theorem bkD_X12_sure_0 : bchk3 (bm_14 133) bk_X12_sure_0 = true := by decide +kernel
theorem bkD_X12_sure_1 : bchk3 (bm_14 133) bk_X12_sure_1 = true := by decide +kernel
theorem bkD_X12_sure : bchk3 (bm_14 133) bk_X12_sure = true := bchk3_app bkD_X12_sure_0 (bkD_X12_sure_1)
theorem bkD_X12_takes : bchk3 (bm_14 134) bk_X12_takes = true := by decide +kernel
theorem bkD_X12_tells_0 : bchk3 (bm_14 135) bk_X12_tells_0 = true := by decide +kernel
theorem bkD_X12_tells_1 : bchk3 (bm_14 135) bk_X12_tells_1 = true := by decide +kernel
theorem bkD_X12_tells : bchk3 (bm_14 135) bk_X12_tells = true := bchk3_app bkD_X12_tells_0 (bkD_X12_tells_1)
theorem bkD_X12_tellsOf_0 : bchk3 (bm_14 136) bk_X12_tellsOf_0 = true := by decide +kernel
theorem bkD_X12_tellsOf_1 : bchk3 (bm_14 136) bk_X12_tellsOf_1 = true := by decide +kernel
theorem bkD_X12_tellsOf_2 : bchk3 (bm_14 136) bk_X12_tellsOf_2 = true := by decide +kernel
theorem bkD_X12_tellsOf : bchk3 (bm_14 136) bk_X12_tellsOf = true := bchk3_app bkD_X12_tellsOf_0 (bchk3_app bkD_X12_tellsOf_1 (bkD_X12_tellsOf_2))
theorem bkD_X12_ten : bchk3 (bm_14 137) bk_X12_ten = true := by decide +kernel
theorem bkD_X12_tens : bchk3 (bm_14 138) bk_X12_tens = true := by decide +kernel
theorem bkD_X12_times_0 : bchk3 (bm_14 139) bk_X12_times_0 = true := by decide +kernel
theorem bkD_X12_times_1 : bchk3 (bm_14 139) bk_X12_times_1 = true := by decide +kernel
theorem bkD_X12_times_2 : bchk3 (bm_14 139) bk_X12_times_2 = true := by decide +kernel
theorem bkD_X12_times : bchk3 (bm_14 139) bk_X12_times = true := bchk3_app bkD_X12_times_0 (bchk3_app bkD_X12_times_1 (bkD_X12_times_2))
theorem bkD_X12_told : bchk3 (bm_14 140) bk_X12_told = true := by decide +kernel
theorem bkD_X12_trims : bchk3 (bm_14 141) bk_X12_trims = true := by decide +kernel
theorem bkD_X12_turned : bchk3 (bm_14 142) bk_X12_turned = true := by decide +kernel
theorem bkD_X12_turns : bchk3 (bm_14 143) bk_X12_turns = true := by decide +kernel
theorem bkD_X12_type : bchk3 (bm_14 144) bk_X12_type = true := by decide +kernel
theorem bkD_X12_undo_0 : bchk3 (bm_14 145) bk_X12_undo_0 = true := by decide +kernel
theorem bkD_X12_undo_1 : bchk3 (bm_14 145) bk_X12_undo_1 = true := by decide +kernel
theorem bkD_X12_undo : bchk3 (bm_14 145) bk_X12_undo = true := bchk3_app bkD_X12_undo_0 (bkD_X12_undo_1)
theorem bkD_X12_unit : bchk3 (bm_14 146) bk_X12_unit = true := by decide +kernel
theorem bkD_X12_unsigned_0 : bchk3 (bm_14 147) bk_X12_unsigned_0 = true := by decide +kernel
theorem bkD_X12_unsigned_1 : bchk3 (bm_14 147) bk_X12_unsigned_1 = true := by decide +kernel
theorem bkD_X12_unsigned : bchk3 (bm_14 147) bk_X12_unsigned = true := bchk3_app bkD_X12_unsigned_0 (bkD_X12_unsigned_1)
theorem bkD_X12_value : bchk3 (bm_14 148) bk_X12_value = true := by decide +kernel
theorem bkD_X12_values_0 : bchk3 (bm_14 149) bk_X12_values_0 = true := by decide +kernel
theorem bkD_X12_values_1 : bchk3 (bm_14 149) bk_X12_values_1 = true := by decide +kernel
theorem bkD_X12_values_2 : bchk3 (bm_14 149) bk_X12_values_2 = true := by decide +kernel
theorem bkD_X12_values : bchk3 (bm_14 149) bk_X12_values = true := bchk3_app bkD_X12_values_0 (bchk3_app bkD_X12_values_1 (bkD_X12_values_2))
theorem bkD_X12_whole : bchk3 (bm_14 150) bk_X12_whole = true := by decide +kernel
theorem bkD_X12_width : bchk3 (bm_14 151) bk_X12_width = true := by decide +kernel
theorem bkD_X12_writes : bchk3 (bm_14 152) bk_X12_writes = true := by decide +kernel
theorem bkD_X12_zeros_0 : bchk3 (bm_14 153) bk_X12_zeros_0 = true := by decide +kernel
theorem bkD_X12_zeros_1 : bchk3 (bm_14 153) bk_X12_zeros_1 = true := by decide +kernel
theorem bkD_X12_zeros : bchk3 (bm_14 153) bk_X12_zeros = true := bchk3_app bkD_X12_zeros_0 (bkD_X12_zeros_1)
theorem bkA_14 : bAllOk (fun y l => bchk3 y l = true) bkc_14 bmc_14 := ⟨bkD_X12_init, bkD_X12_acts, bkD_X12_add, bkD_X12_adds, bkD_X12_again, bkD_X12_apply, bkD_X12_arcs, bkD_X12_area, bkD_X12_areas, bkD_X12_becomes, bkD_X12_bounds, bkD_X12_canBe0, bkD_X12_canCut, bkD_X12_checksum, bkD_X12_compare, bkD_X12_compares, bkD_X12_constant, bkD_X12_copies, bkD_X12_crossed, bkD_X12_cutsInto, bkD_X12_decide, bkD_X12_deep, bkD_X12_define, bkD_X12_difference, bkD_X12_digits, bkD_X12_divide, bkD_X12_divides, bkD_X12_ends, bkD_X12_erase, bkD_X12_extreme, bkD_X12_fails, bkD_X12_faults, bkD_X12_four, bkD_X12_greatest, bkD_X12_half, bkD_X12_hasY, bkD_X12_hasYOf, bkD_X12_held, bkD_X12_high_, bkD_X12_high, bkD_X12_holds0, bkD_X12_holdsNothing, bkD_X12_in, bkD_X12_isAbove0, bkD_X12_isBelow, bkD_X12_isBelow0, bkD_X12_isDigit, bkD_X12_isFormula, bkD_X12_isLess, bkD_X12_isShelf, bkD_X12_isSingle, bkD_X12_isSound, bkD_X12_isTooGreat, bkD_X12_isWithin, bkD_X12_isWithinOf, bkD_X12_join, bkD_X12_joins, bkD_X12_known, bkD_X12_least, bkD_X12_less, bkD_X12_lets, bkD_X12_lifted, bkD_X12_limb, bkD_X12_logs, bkD_X12_looks, bkD_X12_low_, bkD_X12_low, bkD_X12_made, bkD_X12_makes, bkD_X12_makes_, bkD_X12_meet, bkD_X12_middle, bkD_X12_modulo, bkD_X12_move, bkD_X12_moves, bkD_X12_multiply, bkD_X12_narrow, bkD_X12_needsBase, bkD_X12_needsLog, bkD_X12_needsPi, bkD_X12_negative, bkD_X12_noBounds, bkD_X12_noBox, bkD_X12_noLook, bkD_X12_noPair, bkD_X12_number, bkD_X12_odds, bkD_X12_order, bkD_X12_outward, bkD_X12_pair, bkD_X12_pairs, bkD_X12_part, bkD_X12_parts, bkD_X12_piece, bkD_X12_pieceKind, bkD_X12_plus, bkD_X12_power, bkD_X12_powers, bkD_X12_product, bkD_X12_put, bkD_X12_quotient, bkD_X12_raises, bkD_X12_read, bkD_X12_readAtom, bkD_X12_readNumber, bkD_X12_readPower, bkD_X12_readProduct, bkD_X12_readSum, bkD_X12_rises, bkD_X12_rising, bkD_X12_root, bkD_X12_rooted, bkD_X12_roots, bkD_X12_rounds, bkD_X12_scaleOf, bkD_X12_scales, bkD_X12_series, bkD_X12_setDigits, bkD_X12_sets, bkD_X12_shifts, bkD_X12_sign, bkD_X12_signAt, bkD_X12_signOf, bkD_X12_single, bkD_X12_size, bkD_X12_slope, bkD_X12_slopes, bkD_X12_solve, bkD_X12_spans, bkD_X12_spelledInto, bkD_X12_spells, bkD_X12_subtract, bkD_X12_sum, bkD_X12_sure, bkD_X12_takes, bkD_X12_tells, bkD_X12_tellsOf, bkD_X12_ten, bkD_X12_tens, bkD_X12_times, bkD_X12_told, bkD_X12_trims, bkD_X12_turned, bkD_X12_turns, bkD_X12_type, bkD_X12_undo, bkD_X12_unit, bkD_X12_unsigned, bkD_X12_value, bkD_X12_values, bkD_X12_whole, bkD_X12_width, bkD_X12_writes, bkD_X12_zeros, trivial⟩
theorem bkM_X12_init : bchkM bmeth bmjs 3584 = true := by decide +kernel
theorem bkH_X12_init : bHead (bm_14 0) ∈ bw_G := bw_in (bprog_in 8 _ (List.mem_of_getElem? (i := 77) rfl)) rfl
theorem bkM_X12_acts : bchkM bmeth bmjs 3585 = true := by decide +kernel
theorem bkH_X12_acts : bHead (bm_14 1) ∈ bw_G := bw_in (bprog_in 9 _ (List.mem_of_getElem? (i := 235) rfl)) rfl
theorem bkM_X12_add : bchkM bmeth bmjs 3586 = true := by decide +kernel
theorem bkH_X12_add : bHead (bm_14 2) ∈ bw_G := bw_in (bprog_in 9 _ (List.mem_of_getElem? (i := 227) rfl)) rfl
theorem bkM_X12_adds : bchkM bmeth bmjs 3587 = true := by decide +kernel
theorem bkH_X12_adds : bHead (bm_14 3) ∈ bw_G := bw_in (bprog_in 10 _ (List.mem_of_getElem? (i := 3) rfl)) rfl
theorem bkM_X12_again : bchkM bmeth bmjs 3588 = true := by decide +kernel
theorem bkH_X12_again : bHead (bm_14 4) ∈ bw_G := bw_in (bprog_in 10 _ (List.mem_of_getElem? (i := 113) rfl)) rfl
theorem bkM_X12_apply : bchkM bmeth bmjs 3589 = true := by decide +kernel
theorem bkH_X12_apply : bHead (bm_14 5) ∈ bw_G := bw_in (bprog_in 10 _ (List.mem_of_getElem? (i := 105) rfl)) rfl
theorem bkM_X12_arcs : bchkM bmeth bmjs 3590 = true := by decide +kernel
theorem bkH_X12_arcs : bHead (bm_14 6) ∈ bw_G := bw_in (bprog_in 10 _ (List.mem_of_getElem? (i := 147) rfl)) rfl
