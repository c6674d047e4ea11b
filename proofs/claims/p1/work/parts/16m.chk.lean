/-! The checks, go on. -/
theorem bkD_X12_times_1 : bchk3 (bm_14 140) bk_X12_times_1 = true := by decide +kernel
theorem bkD_X12_times_2 : bchk3 (bm_14 140) bk_X12_times_2 = true := by decide +kernel
theorem bkD_X12_times : bchk3 (bm_14 140) bk_X12_times = true := bchk3_app bkD_X12_times_0 (bchk3_app bkD_X12_times_1 (bkD_X12_times_2))
theorem bkD_X12_told : bchk3 (bm_14 141) bk_X12_told = true := by decide +kernel
theorem bkD_X12_trims : bchk3 (bm_14 142) bk_X12_trims = true := by decide +kernel
theorem bkD_X12_turned : bchk3 (bm_14 143) bk_X12_turned = true := by decide +kernel
theorem bkD_X12_turns : bchk3 (bm_14 144) bk_X12_turns = true := by decide +kernel
theorem bkD_X12_type : bchk3 (bm_14 145) bk_X12_type = true := by decide +kernel
theorem bkD_X12_undo_0 : bchk3 (bm_14 146) bk_X12_undo_0 = true := by decide +kernel
theorem bkD_X12_undo_1 : bchk3 (bm_14 146) bk_X12_undo_1 = true := by decide +kernel
theorem bkD_X12_undo : bchk3 (bm_14 146) bk_X12_undo = true := bchk3_app bkD_X12_undo_0 (bkD_X12_undo_1)
theorem bkD_X12_unit : bchk3 (bm_14 147) bk_X12_unit = true := by decide +kernel
theorem bkD_X12_unsigned : bchk3 (bm_14 148) bk_X12_unsigned = true := by decide +kernel
theorem bkD_X12_value : bchk3 (bm_14 149) bk_X12_value = true := by decide +kernel
theorem bkD_X12_values : bchk3 (bm_14 150) bk_X12_values = true := by decide +kernel
theorem bkD_X12_whole : bchk3 (bm_14 151) bk_X12_whole = true := by decide +kernel
theorem bkD_X12_width : bchk3 (bm_14 152) bk_X12_width = true := by decide +kernel
theorem bkD_X12_writes : bchk3 (bm_14 153) bk_X12_writes = true := by decide +kernel
theorem bkD_X12_zeros_0 : bchk3 (bm_14 154) bk_X12_zeros_0 = true := by decide +kernel
theorem bkD_X12_zeros_1 : bchk3 (bm_14 154) bk_X12_zeros_1 = true := by decide +kernel
theorem bkD_X12_zeros : bchk3 (bm_14 154) bk_X12_zeros = true := bchk3_app bkD_X12_zeros_0 (bkD_X12_zeros_1)
theorem bkA_14 : bAllOk (fun y l => bchk3 y l = true) bkc_14 bmc_14 := ⟨bkD_X12_init, bkD_X12_acts, bkD_X12_add, bkD_X12_adds, bkD_X12_again, bkD_X12_apply, bkD_X12_arcs, bkD_X12_area, bkD_X12_areas, bkD_X12_becomes, bkD_X12_bounds, bkD_X12_canBe0, bkD_X12_canCut, bkD_X12_checksum, bkD_X12_compare, bkD_X12_compares, bkD_X12_constant, bkD_X12_copies, bkD_X12_crossed, bkD_X12_cutsInto, bkD_X12_decide, bkD_X12_deep, bkD_X12_define, bkD_X12_difference, bkD_X12_digits, bkD_X12_divide, bkD_X12_divides, bkD_X12_ends, bkD_X12_erase, bkD_X12_extreme, bkD_X12_fails, bkD_X12_faults, bkD_X12_four, bkD_X12_greatest, bkD_X12_half, bkD_X12_hasY, bkD_X12_hasYOf, bkD_X12_held, bkD_X12_high_, bkD_X12_high, bkD_X12_holds0, bkD_X12_holdsNothing, bkD_X12_in, bkD_X12_isAbove0, bkD_X12_isBelow, bkD_X12_isBelow0, bkD_X12_isDigit, bkD_X12_isFormula, bkD_X12_isLess, bkD_X12_isShelf, bkD_X12_isSingle, bkD_X12_isSound, bkD_X12_isTooGreat, bkD_X12_isWithin, bkD_X12_isWithinOf, bkD_X12_join, bkD_X12_joins, bkD_X12_known, bkD_X12_least, bkD_X12_less, bkD_X12_lets, bkD_X12_lifted, bkD_X12_limb, bkD_X12_logs, bkD_X12_looks, bkD_X12_low_, bkD_X12_low, bkD_X12_made, bkD_X12_makes, bkD_X12_makes_, bkD_X12_meet, bkD_X12_middle, bkD_X12_modulo, bkD_X12_move, bkD_X12_moves, bkD_X12_multiply, bkD_X12_narrow, bkD_X12_needsBase, bkD_X12_needsLog, bkD_X12_needsPi, bkD_X12_negative, bkD_X12_noBounds, bkD_X12_noBox, bkD_X12_noLook, bkD_X12_noPair, bkD_X12_number, bkD_X12_odds, bkD_X12_order, bkD_X12_outward, bkD_X12_pair, bkD_X12_pairs, bkD_X12_part, bkD_X12_parts, bkD_X12_piece, bkD_X12_pieceKind, bkD_X12_plus, bkD_X12_power, bkD_X12_powers, bkD_X12_product, bkD_X12_put, bkD_X12_quotient, bkD_X12_raises, bkD_X12_read, bkD_X12_readAtom, bkD_X12_readNumber, bkD_X12_readPower, bkD_X12_readProduct, bkD_X12_readSum, bkD_X12_rises, bkD_X12_rising, bkD_X12_root, bkD_X12_rooted, bkD_X12_roots, bkD_X12_rounds, bkD_X12_scaleOf, bkD_X12_scales, bkD_X12_series, bkD_X12_setDigits, bkD_X12_sets, bkD_X12_shifts, bkD_X12_sign, bkD_X12_signAt, bkD_X12_signOf, bkD_X12_single, bkD_X12_size, bkD_X12_slope, bkD_X12_slopes, bkD_X12_solve, bkD_X12_spans, bkD_X12_spelledInto, bkD_X12_spells, bkD_X12_subtract, bkD_X12_sum, bkD_X12_sure, bkD_X12_takes, bkD_X12_tells, bkD_X12_tellsOf, bkD_X12_ten, bkD_X12_tens, bkD_X12_thrown, bkD_X12_times, bkD_X12_told, bkD_X12_trims, bkD_X12_turned, bkD_X12_turns, bkD_X12_type, bkD_X12_undo, bkD_X12_unit, bkD_X12_unsigned, bkD_X12_value, bkD_X12_values, bkD_X12_whole, bkD_X12_width, bkD_X12_writes, bkD_X12_zeros, trivial⟩
theorem bkM_X12_init : bchkM bmeth bmjs 3584 = true := by decide +kernel
theorem bkH_X12_init : bHead (bm_14 0) ∈ bw_G := bw_in (bprog_in 8 _ (List.mem_of_getElem? (i := 77) rfl)) rfl
theorem bkM_X12_add : bchkM bmeth bmjs 3586 = true := by decide +kernel
theorem bkH_X12_add : bHead (bm_14 2) ∈ bw_G := bw_in (bprog_in 9 _ (List.mem_of_getElem? (i := 231) rfl)) rfl
theorem bkM_X12_apply : bchkM bmeth bmjs 3589 = true := by decide +kernel
theorem bkH_X12_apply : bHead (bm_14 5) ∈ bw_G := bw_in (bprog_in 10 _ (List.mem_of_getElem? (i := 109) rfl)) rfl
theorem bkM_X12_area : bchkM bmeth bmjs 3591 = true := by decide +kernel
theorem bkH_X12_area : bHead (bm_14 7) ∈ bw_G := bw_in (bprog_in 11 _ (List.mem_of_getElem? (i := 81) rfl)) rfl
theorem bkM_X12_becomes : bchkM bmeth bmjs 3593 = true := by decide +kernel
theorem bkH_X12_becomes : bHead (bm_14 9) ∈ bw_G := bw_in (bprog_in 9 _ (List.mem_of_getElem? (i := 83) rfl)) rfl
theorem bkM_X12_bounds : bchkM bmeth bmjs 3594 = true := by decide +kernel
theorem bkH_X12_bounds : bHead (bm_14 10) ∈ bw_G := bw_in (bprog_in 11 _ (List.mem_of_getElem? (i := 65) rfl)) rfl
theorem bkM_X12_checksum : bchkM bmeth bmjs 3597 = true := by decide +kernel
theorem bkH_X12_checksum : bHead (bm_14 13) ∈ bw_G := bw_in (bprog_in 11 _ (List.mem_of_getElem? (i := 107) rfl)) rfl
theorem bkM_X12_compare : bchkM bmeth bmjs 3598 = true := by decide +kernel
theorem bkH_X12_compare : bHead (bm_14 14) ∈ bw_G := bw_in (bprog_in 9 _ (List.mem_of_getElem? (i := 212) rfl)) rfl
theorem bkM_X12_constant : bchkM bmeth bmjs 3600 = true := by decide +kernel
theorem bkH_X12_constant : bHead (bm_14 16) ∈ bw_G := bw_in (bprog_in 9 _ (List.mem_of_getElem? (i := 106) rfl)) rfl
theorem bkM_X12_copies : bchkM bmeth bmjs 3601 = true := by decide +kernel
theorem bkH_X12_copies : bHead (bm_14 17) ∈ bw_G := bw_in (bprog_in 9 _ (List.mem_of_getElem? (i := 42) rfl)) rfl
theorem bkM_X12_decide : bchkM bmeth bmjs 3604 = true := by decide +kernel
theorem bkH_X12_decide : bHead (bm_14 20) ∈ bw_G := bw_in (bprog_in 10 _ (List.mem_of_getElem? (i := 238) rfl)) rfl
theorem bkM_X12_deep : bchkM bmeth bmjs 3605 = true := by decide +kernel
theorem bkH_X12_deep : bHead (bm_14 21) ∈ bw_G := bw_in (bprog_in 9 _ (List.mem_of_getElem? (i := 152) rfl)) rfl
theorem bkM_X12_define : bchkM bmeth bmjs 3606 = true := by decide +kernel
theorem bkH_X12_define : bHead (bm_14 22) ∈ bw_G := bw_in (bprog_in 10 _ (List.mem_of_getElem? (i := 163) rfl)) rfl
theorem bkM_X12_digits : bchkM bmeth bmjs 3608 = true := by decide +kernel
theorem bkH_X12_digits : bHead (bm_14 24) ∈ bw_G := bw_in (bprog_in 8 _ (List.mem_of_getElem? (i := 228) rfl)) rfl
theorem bkM_X12_divide : bchkM bmeth bmjs 3609 = true := by decide +kernel
theorem bkH_X12_divide : bHead (bm_14 25) ∈ bw_G := bw_in (bprog_in 10 _ (List.mem_of_getElem? (i := 68) rfl)) rfl
theorem bkM_X12_erase : bchkM bmeth bmjs 3612 = true := by decide +kernel
theorem bkH_X12_erase : bHead (bm_14 28) ∈ bw_G := bw_in (bprog_in 8 _ (List.mem_of_getElem? (i := 236) rfl)) rfl
theorem bkM_X12_fails : bchkM bmeth bmjs 3614 = true := by decide +kernel
theorem bkH_X12_fails : bHead (bm_14 30) ∈ bw_G := bw_in (bprog_in 8 _ (List.mem_of_getElem? (i := 224) rfl)) rfl
theorem bkM_X12_faults : bchkM bmeth bmjs 3615 = true := by decide +kernel
theorem bkH_X12_faults : bHead (bm_14 31) ∈ bw_G := bw_in (bprog_in 10 _ (List.mem_of_getElem? (i := 194) rfl)) rfl
theorem bkM_X12_greatest : bchkM bmeth bmjs 3617 = true := by decide +kernel
theorem bkH_X12_greatest : bHead (bm_14 33) ∈ bw_G := bw_in (bprog_in 11 _ (List.mem_of_getElem? (i := 77) rfl)) rfl
theorem bkM_X12_hasY : bchkM bmeth bmjs 3619 = true := by decide +kernel
theorem bkH_X12_hasY : bHead (bm_14 35) ∈ bw_G := bw_in (bprog_in 10 _ (List.mem_of_getElem? (i := 202) rfl)) rfl
theorem bkM_X12_held : bchkM bmeth bmjs 3621 = true := by decide +kernel
theorem bkH_X12_held : bHead (bm_14 37) ∈ bw_G := bw_in (bprog_in 11 _ (List.mem_of_getElem? (i := 103) rfl)) rfl
theorem bkM_X12_high_ : bchkM bmeth bmjs 3622 = true := by decide +kernel
theorem bkH_X12_high_ : bHead (bm_14 38) ∈ bw_G := bw_in (bprog_in 9 _ (List.mem_of_getElem? (i := 192) rfl)) rfl
