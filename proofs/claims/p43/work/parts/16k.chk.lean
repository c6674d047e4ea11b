/-! The checks, go on. -/
theorem bkD_X11_makeMoved_2 : bchk3 (bm_13 44) bk_X11_makeMoved_2 = true := by decide +kernel
theorem bkD_X11_makeMoved : bchk3 (bm_13 44) bk_X11_makeMoved = true := bchk3_app bkD_X11_makeMoved_0 (bchk3_app bkD_X11_makeMoved_1 (bkD_X11_makeMoved_2))
theorem bkD_X11_makeNarrowed_0 : bchk3 (bm_13 45) bk_X11_makeNarrowed_0 = true := by decide +kernel
theorem bkD_X11_makeNarrowed_1 : bchk3 (bm_13 45) bk_X11_makeNarrowed_1 = true := by decide +kernel
theorem bkD_X11_makeNarrowed : bchk3 (bm_13 45) bk_X11_makeNarrowed = true := bchk3_app bkD_X11_makeNarrowed_0 (bkD_X11_makeNarrowed_1)
theorem bkD_X11_meet : bchk3 (bm_13 46) bk_X11_meet = true := by decide +kernel
theorem bkD_X11_move : bchk3 (bm_13 47) bk_X11_move = true := by decide +kernel
theorem bkD_X11_multiply : bchk3 (bm_13 48) bk_X11_multiply = true := by decide +kernel
theorem bkD_X11_narrow_0 : bchk3 (bm_13 49) bk_X11_narrow_0 = true := by decide +kernel
theorem bkD_X11_narrow_1 : bchk3 (bm_13 49) bk_X11_narrow_1 = true := by decide +kernel
theorem bkD_X11_narrow : bchk3 (bm_13 49) bk_X11_narrow = true := bchk3_app bkD_X11_narrow_0 (bkD_X11_narrow_1)
theorem bkD_X11_pairs_0 : bchk3 (bm_13 50) bk_X11_pairs_0 = true := by decide +kernel
theorem bkD_X11_pairs_1 : bchk3 (bm_13 50) bk_X11_pairs_1 = true := by decide +kernel
theorem bkD_X11_pairs : bchk3 (bm_13 50) bk_X11_pairs = true := bchk3_app bkD_X11_pairs_0 (bkD_X11_pairs_1)
theorem bkD_X11_piece : bchk3 (bm_13 51) bk_X11_piece = true := by decide +kernel
theorem bkD_X11_pieceKind : bchk3 (bm_13 52) bk_X11_pieceKind = true := by decide +kernel
theorem bkD_X11_power : bchk3 (bm_13 53) bk_X11_power = true := by decide +kernel
theorem bkD_X11_put : bchk3 (bm_13 54) bk_X11_put = true := by decide +kernel
theorem bkD_X11_read : bchk3 (bm_13 55) bk_X11_read = true := by decide +kernel
theorem bkD_X11_root : bchk3 (bm_13 56) bk_X11_root = true := by decide +kernel
theorem bkD_X11_seekExtreme_0 : bchk3 (bm_13 57) bk_X11_seekExtreme_0 = true := by decide +kernel
theorem bkD_X11_seekExtreme_1 : bchk3 (bm_13 57) bk_X11_seekExtreme_1 = true := by decide +kernel
theorem bkD_X11_seekExtreme : bchk3 (bm_13 57) bk_X11_seekExtreme = true := bchk3_app bkD_X11_seekExtreme_0 (bkD_X11_seekExtreme_1)
theorem bkD_X11_setDigits : bchk3 (bm_13 58) bk_X11_setDigits = true := by decide +kernel
theorem bkD_X11_sideOf : bchk3 (bm_13 59) bk_X11_sideOf = true := by decide +kernel
theorem bkD_X11_signAt : bchk3 (bm_13 60) bk_X11_signAt = true := by decide +kernel
theorem bkD_X11_slope : bchk3 (bm_13 61) bk_X11_slope = true := by decide +kernel
theorem bkD_X11_solve_0 : bchk3 (bm_13 62) bk_X11_solve_0 = true := by decide +kernel
theorem bkD_X11_solve_1 : bchk3 (bm_13 62) bk_X11_solve_1 = true := by decide +kernel
theorem bkD_X11_solve : bchk3 (bm_13 62) bk_X11_solve = true := bchk3_app bkD_X11_solve_0 (bkD_X11_solve_1)
theorem bkD_X11_subtract : bchk3 (bm_13 63) bk_X11_subtract = true := by decide +kernel
theorem bkD_X11_sumUp_0 : bchk3 (bm_13 64) bk_X11_sumUp_0 = true := by decide +kernel
theorem bkD_X11_sumUp_1 : bchk3 (bm_13 64) bk_X11_sumUp_1 = true := by decide +kernel
theorem bkD_X11_sumUp_2 : bchk3 (bm_13 64) bk_X11_sumUp_2 = true := by decide +kernel
theorem bkD_X11_sumUp : bchk3 (bm_13 64) bk_X11_sumUp = true := bchk3_app bkD_X11_sumUp_0 (bchk3_app bkD_X11_sumUp_1 (bkD_X11_sumUp_2))
theorem bkD_X11_sure : bchk3 (bm_13 65) bk_X11_sure = true := by decide +kernel
theorem bkD_X11_takeExtreme_0 : bchk3 (bm_13 66) bk_X11_takeExtreme_0 = true := by decide +kernel
theorem bkD_X11_takeExtreme_1 : bchk3 (bm_13 66) bk_X11_takeExtreme_1 = true := by decide +kernel
theorem bkD_X11_takeExtreme : bchk3 (bm_13 66) bk_X11_takeExtreme = true := bchk3_app bkD_X11_takeExtreme_0 (bkD_X11_takeExtreme_1)
theorem bkD_X11_type : bchk3 (bm_13 67) bk_X11_type = true := by decide +kernel
theorem bkD_X11_undo : bchk3 (bm_13 68) bk_X11_undo = true := by decide +kernel
theorem bkD_X11_unitOf : bchk3 (bm_13 69) bk_X11_unitOf = true := by decide +kernel
theorem bkD_X11_value : bchk3 (bm_13 70) bk_X11_value = true := by decide +kernel
theorem bkD_X11_width : bchk3 (bm_13 71) bk_X11_width = true := by decide +kernel
theorem bkD_X11_zeros_0 : bchk3 (bm_13 72) bk_X11_zeros_0 = true := by decide +kernel
theorem bkD_X11_zeros_1 : bchk3 (bm_13 72) bk_X11_zeros_1 = true := by decide +kernel
theorem bkD_X11_zeros_2 : bchk3 (bm_13 72) bk_X11_zeros_2 = true := by decide +kernel
theorem bkD_X11_zeros : bchk3 (bm_13 72) bk_X11_zeros = true := bchk3_app bkD_X11_zeros_0 (bchk3_app bkD_X11_zeros_1 (bkD_X11_zeros_2))
theorem bkA_13 : bAllOk (fun y l => bchk3 y l = true) bkc_13 bmc_13 := ⟨bkD_X11_init, bkD_X11_add, bkD_X11_apply, bkD_X11_area, bkD_X11_become, bkD_X11_canBeZero, bkD_X11_change, bkD_X11_checkBoundsCall, bkD_X11_checkCuts, bkD_X11_checkDefined, bkD_X11_checkFormula, bkD_X11_checkFormulaCall, bkD_X11_checkHeld, bkD_X11_checkNoY, bkD_X11_checkPair, bkD_X11_checkPiece, bkD_X11_checkShelf, bkD_X11_checkShelves, bkD_X11_checkStatus, bkD_X11_checksum, bkD_X11_combine, bkD_X11_compare, bkD_X11_constant, bkD_X11_crossed, bkD_X11_decide, bkD_X11_define, bkD_X11_digits, bkD_X11_divide, bkD_X11_erase, bkD_X11_fill, bkD_X11_greatest, bkD_X11_hasY, bkD_X11_held, bkD_X11_high, bkD_X11_isConstantSound, bkD_X11_isSound, bkD_X11_isValueSound, bkD_X11_isWithin, bkD_X11_join, bkD_X11_judge, bkD_X11_kindByEnds, bkD_X11_least, bkD_X11_low, bkD_X11_makeAlong, bkD_X11_makeMoved, bkD_X11_makeNarrowed, bkD_X11_meet, bkD_X11_move, bkD_X11_multiply, bkD_X11_narrow, bkD_X11_pairs, bkD_X11_piece, bkD_X11_pieceKind, bkD_X11_power, bkD_X11_put, bkD_X11_read, bkD_X11_root, bkD_X11_seekExtreme, bkD_X11_setDigits, bkD_X11_sideOf, bkD_X11_signAt, bkD_X11_slope, bkD_X11_solve, bkD_X11_subtract, bkD_X11_sumUp, bkD_X11_sure, bkD_X11_takeExtreme, bkD_X11_type, bkD_X11_undo, bkD_X11_unitOf, bkD_X11_value, bkD_X11_width, bkD_X11_zeros, trivial⟩
theorem bkM_X11_init : bchkM bmeth bmjs 3328 = true := by decide +kernel
theorem bkH_X11_init : bHead (bm_13 0) ∈ bw_G := bw_in (bprog_in 1 _ (List.mem_of_getElem? (i := 34) rfl)) rfl
theorem bkM_X11_add : bchkM bmeth bmjs 3329 = true := by decide +kernel
