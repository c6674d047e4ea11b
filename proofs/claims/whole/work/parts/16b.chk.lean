/-! The checks, method by method. -/
noncomputable def bm_14 (k : Nat) : bM := bmc_14.getD k bnoM
theorem bkD_X12_init : bchk3 (bm_14 0) bk_X12_init = true := by decide +kernel
theorem bkD_X12_acts : bchk3 (bm_14 1) bk_X12_acts = true := by decide +kernel
theorem bkD_X12_add : bchk3 (bm_14 2) bk_X12_add = true := by decide +kernel
theorem bkD_X12_adds : bchk3 (bm_14 3) bk_X12_adds = true := by decide +kernel
theorem bkD_X12_again : bchk3 (bm_14 4) bk_X12_again = true := by decide +kernel
theorem bkD_X12_apply : bchk3 (bm_14 5) bk_X12_apply = true := by decide +kernel
theorem bkD_X12_arcs : bchk3 (bm_14 6) bk_X12_arcs = true := by decide +kernel
theorem bkD_X12_area : bchk3 (bm_14 7) bk_X12_area = true := by decide +kernel
theorem bkD_X12_areas : bchk3 (bm_14 8) bk_X12_areas = true := by decide +kernel
theorem bkD_X12_becomes : bchk3 (bm_14 9) bk_X12_becomes = true := by decide +kernel
theorem bkD_X12_bounds : bchk3 (bm_14 10) bk_X12_bounds = true := by decide +kernel
theorem bkD_X12_canBe0 : bchk3 (bm_14 11) bk_X12_canBe0 = true := by decide +kernel
theorem bkD_X12_canCut : bchk3 (bm_14 12) bk_X12_canCut = true := by decide +kernel
theorem bkD_X12_checksum : bchk3 (bm_14 13) bk_X12_checksum = true := by decide +kernel
theorem bkD_X12_compare : bchk3 (bm_14 14) bk_X12_compare = true := by decide +kernel
theorem bkD_X12_compares : bchk3 (bm_14 15) bk_X12_compares = true := by decide +kernel
theorem bkD_X12_constant : bchk3 (bm_14 16) bk_X12_constant = true := by decide +kernel
theorem bkD_X12_copies : bchk3 (bm_14 17) bk_X12_copies = true := by decide +kernel
theorem bkD_X12_crossed : bchk3 (bm_14 18) bk_X12_crossed = true := by decide +kernel
theorem bkD_X12_cutsInto : bchk3 (bm_14 19) bk_X12_cutsInto = true := by decide +kernel
theorem bkD_X12_decide : bchk3 (bm_14 20) bk_X12_decide = true := by decide +kernel
theorem bkD_X12_deep : bchk3 (bm_14 21) bk_X12_deep = true := by decide +kernel
theorem bkD_X12_define_0 : bchk3 (bm_14 22) bk_X12_define_0 = true := by decide +kernel
theorem bkD_X12_define_1 : bchk3 (bm_14 22) bk_X12_define_1 = true := by decide +kernel
theorem bkD_X12_define : bchk3 (bm_14 22) bk_X12_define = true := bchk3_app bkD_X12_define_0 (bkD_X12_define_1)
theorem bkD_X12_difference : bchk3 (bm_14 23) bk_X12_difference = true := by decide +kernel
theorem bkD_X12_digits : bchk3 (bm_14 24) bk_X12_digits = true := by decide +kernel
theorem bkD_X12_divide : bchk3 (bm_14 25) bk_X12_divide = true := by decide +kernel
theorem bkD_X12_divides : bchk3 (bm_14 26) bk_X12_divides = true := by decide +kernel
theorem bkD_X12_ends : bchk3 (bm_14 27) bk_X12_ends = true := by decide +kernel
theorem bkD_X12_erase : bchk3 (bm_14 28) bk_X12_erase = true := by decide +kernel
theorem bkD_X12_extreme : bchk3 (bm_14 29) bk_X12_extreme = true := by decide +kernel
theorem bkD_X12_fails : bchk3 (bm_14 30) bk_X12_fails = true := by decide +kernel
theorem bkD_X12_faults : bchk3 (bm_14 31) bk_X12_faults = true := by decide +kernel
theorem bkD_X12_four : bchk3 (bm_14 32) bk_X12_four = true := by decide +kernel
theorem bkD_X12_greatest : bchk3 (bm_14 33) bk_X12_greatest = true := by decide +kernel
theorem bkD_X12_half : bchk3 (bm_14 34) bk_X12_half = true := by decide +kernel
theorem bkD_X12_hasY : bchk3 (bm_14 35) bk_X12_hasY = true := by decide +kernel
theorem bkD_X12_hasYOf : bchk3 (bm_14 36) bk_X12_hasYOf = true := by decide +kernel
theorem bkD_X12_held : bchk3 (bm_14 37) bk_X12_held = true := by decide +kernel
theorem bkD_X12_high_ : bchk3 (bm_14 38) bk_X12_high_ = true := by decide +kernel
theorem bkD_X12_high : bchk3 (bm_14 39) bk_X12_high = true := by decide +kernel
theorem bkD_X12_holds0 : bchk3 (bm_14 40) bk_X12_holds0 = true := by decide +kernel
theorem bkD_X12_holdsNothing : bchk3 (bm_14 41) bk_X12_holdsNothing = true := by decide +kernel
theorem bkD_X12_in : bchk3 (bm_14 42) bk_X12_in = true := by decide +kernel
theorem bkD_X12_isAbove0 : bchk3 (bm_14 43) bk_X12_isAbove0 = true := by decide +kernel
theorem bkD_X12_isBelow : bchk3 (bm_14 44) bk_X12_isBelow = true := by decide +kernel
theorem bkD_X12_isBelow0 : bchk3 (bm_14 45) bk_X12_isBelow0 = true := by decide +kernel
theorem bkD_X12_isDigit : bchk3 (bm_14 46) bk_X12_isDigit = true := by decide +kernel
theorem bkD_X12_isFormula : bchk3 (bm_14 47) bk_X12_isFormula = true := by decide +kernel
theorem bkD_X12_isLess : bchk3 (bm_14 48) bk_X12_isLess = true := by decide +kernel
theorem bkD_X12_isShelf : bchk3 (bm_14 49) bk_X12_isShelf = true := by decide +kernel
theorem bkD_X12_isSingle : bchk3 (bm_14 50) bk_X12_isSingle = true := by decide +kernel
theorem bkD_X12_isSound : bchk3 (bm_14 51) bk_X12_isSound = true := by decide +kernel
theorem bkD_X12_isTooGreat : bchk3 (bm_14 52) bk_X12_isTooGreat = true := by decide +kernel
theorem bkD_X12_isWithin : bchk3 (bm_14 53) bk_X12_isWithin = true := by decide +kernel
theorem bkD_X12_isWithinOf : bchk3 (bm_14 54) bk_X12_isWithinOf = true := by decide +kernel
theorem bkD_X12_join : bchk3 (bm_14 55) bk_X12_join = true := by decide +kernel
theorem bkD_X12_joins : bchk3 (bm_14 56) bk_X12_joins = true := by decide +kernel
theorem bkD_X12_known : bchk3 (bm_14 57) bk_X12_known = true := by decide +kernel
theorem bkD_X12_least : bchk3 (bm_14 58) bk_X12_least = true := by decide +kernel
theorem bkD_X12_less : bchk3 (bm_14 59) bk_X12_less = true := by decide +kernel
theorem bkD_X12_lets : bchk3 (bm_14 60) bk_X12_lets = true := by decide +kernel
theorem bkD_X12_lifted : bchk3 (bm_14 61) bk_X12_lifted = true := by decide +kernel
theorem bkD_X12_limb : bchk3 (bm_14 62) bk_X12_limb = true := by decide +kernel
theorem bkD_X12_logs : bchk3 (bm_14 63) bk_X12_logs = true := by decide +kernel
theorem bkD_X12_looks : bchk3 (bm_14 64) bk_X12_looks = true := by decide +kernel
theorem bkD_X12_low_ : bchk3 (bm_14 65) bk_X12_low_ = true := by decide +kernel
theorem bkD_X12_low : bchk3 (bm_14 66) bk_X12_low = true := by decide +kernel
theorem bkD_X12_made : bchk3 (bm_14 67) bk_X12_made = true := by decide +kernel
theorem bkD_X12_makes : bchk3 (bm_14 68) bk_X12_makes = true := by decide +kernel
theorem bkD_X12_makes_ : bchk3 (bm_14 69) bk_X12_makes_ = true := by decide +kernel
theorem bkD_X12_meet : bchk3 (bm_14 70) bk_X12_meet = true := by decide +kernel
theorem bkD_X12_middle : bchk3 (bm_14 71) bk_X12_middle = true := by decide +kernel
theorem bkD_X12_modulo : bchk3 (bm_14 72) bk_X12_modulo = true := by decide +kernel
theorem bkD_X12_move : bchk3 (bm_14 73) bk_X12_move = true := by decide +kernel
theorem bkD_X12_moves : bchk3 (bm_14 74) bk_X12_moves = true := by decide +kernel
theorem bkD_X12_multiply : bchk3 (bm_14 75) bk_X12_multiply = true := by decide +kernel
theorem bkD_X12_narrow : bchk3 (bm_14 76) bk_X12_narrow = true := by decide +kernel
theorem bkD_X12_needsBase : bchk3 (bm_14 77) bk_X12_needsBase = true := by decide +kernel
theorem bkD_X12_needsLog : bchk3 (bm_14 78) bk_X12_needsLog = true := by decide +kernel
theorem bkD_X12_needsPi : bchk3 (bm_14 79) bk_X12_needsPi = true := by decide +kernel
theorem bkD_X12_negative : bchk3 (bm_14 80) bk_X12_negative = true := by decide +kernel
theorem bkD_X12_noBounds : bchk3 (bm_14 81) bk_X12_noBounds = true := by decide +kernel
theorem bkD_X12_noBox : bchk3 (bm_14 82) bk_X12_noBox = true := by decide +kernel
theorem bkD_X12_noLook : bchk3 (bm_14 83) bk_X12_noLook = true := by decide +kernel
theorem bkD_X12_noPair : bchk3 (bm_14 84) bk_X12_noPair = true := by decide +kernel
theorem bkD_X12_number : bchk3 (bm_14 85) bk_X12_number = true := by decide +kernel
theorem bkD_X12_odds : bchk3 (bm_14 86) bk_X12_odds = true := by decide +kernel
theorem bkD_X12_order : bchk3 (bm_14 87) bk_X12_order = true := by decide +kernel
theorem bkD_X12_outward : bchk3 (bm_14 88) bk_X12_outward = true := by decide +kernel
theorem bkD_X12_pair : bchk3 (bm_14 89) bk_X12_pair = true := by decide +kernel
theorem bkD_X12_pairs : bchk3 (bm_14 90) bk_X12_pairs = true := by decide +kernel
theorem bkD_X12_part : bchk3 (bm_14 91) bk_X12_part = true := by decide +kernel
theorem bkD_X12_parts : bchk3 (bm_14 92) bk_X12_parts = true := by decide +kernel
theorem bkD_X12_piece : bchk3 (bm_14 93) bk_X12_piece = true := by decide +kernel
theorem bkD_X12_pieceKind : bchk3 (bm_14 94) bk_X12_pieceKind = true := by decide +kernel
theorem bkD_X12_plus : bchk3 (bm_14 95) bk_X12_plus = true := by decide +kernel
theorem bkD_X12_power : bchk3 (bm_14 96) bk_X12_power = true := by decide +kernel
theorem bkD_X12_powers : bchk3 (bm_14 97) bk_X12_powers = true := by decide +kernel
theorem bkD_X12_product : bchk3 (bm_14 98) bk_X12_product = true := by decide +kernel
theorem bkD_X12_put : bchk3 (bm_14 99) bk_X12_put = true := by decide +kernel
theorem bkD_X12_quotient : bchk3 (bm_14 100) bk_X12_quotient = true := by decide +kernel
theorem bkD_X12_raises : bchk3 (bm_14 101) bk_X12_raises = true := by decide +kernel
theorem bkD_X12_read : bchk3 (bm_14 102) bk_X12_read = true := by decide +kernel
theorem bkD_X12_readAtom : bchk3 (bm_14 103) bk_X12_readAtom = true := by decide +kernel
theorem bkD_X12_readNumber : bchk3 (bm_14 104) bk_X12_readNumber = true := by decide +kernel
theorem bkD_X12_readPower : bchk3 (bm_14 105) bk_X12_readPower = true := by decide +kernel
theorem bkD_X12_readProduct : bchk3 (bm_14 106) bk_X12_readProduct = true := by decide +kernel
theorem bkD_X12_readSum : bchk3 (bm_14 107) bk_X12_readSum = true := by decide +kernel
theorem bkD_X12_rises : bchk3 (bm_14 108) bk_X12_rises = true := by decide +kernel
theorem bkD_X12_rising : bchk3 (bm_14 109) bk_X12_rising = true := by decide +kernel
theorem bkD_X12_root : bchk3 (bm_14 110) bk_X12_root = true := by decide +kernel
theorem bkD_X12_rooted : bchk3 (bm_14 111) bk_X12_rooted = true := by decide +kernel
theorem bkD_X12_roots : bchk3 (bm_14 112) bk_X12_roots = true := by decide +kernel
theorem bkD_X12_rounds : bchk3 (bm_14 113) bk_X12_rounds = true := by decide +kernel
theorem bkD_X12_scaleOf : bchk3 (bm_14 114) bk_X12_scaleOf = true := by decide +kernel
theorem bkD_X12_scales : bchk3 (bm_14 115) bk_X12_scales = true := by decide +kernel
theorem bkD_X12_series : bchk3 (bm_14 116) bk_X12_series = true := by decide +kernel
theorem bkD_X12_setDigits : bchk3 (bm_14 117) bk_X12_setDigits = true := by decide +kernel
theorem bkD_X12_sets : bchk3 (bm_14 118) bk_X12_sets = true := by decide +kernel
theorem bkD_X12_shifts : bchk3 (bm_14 119) bk_X12_shifts = true := by decide +kernel
theorem bkD_X12_sign : bchk3 (bm_14 120) bk_X12_sign = true := by decide +kernel
theorem bkD_X12_signAt : bchk3 (bm_14 121) bk_X12_signAt = true := by decide +kernel
theorem bkD_X12_signOf : bchk3 (bm_14 122) bk_X12_signOf = true := by decide +kernel
theorem bkD_X12_single : bchk3 (bm_14 123) bk_X12_single = true := by decide +kernel
theorem bkD_X12_size : bchk3 (bm_14 124) bk_X12_size = true := by decide +kernel
theorem bkD_X12_slope : bchk3 (bm_14 125) bk_X12_slope = true := by decide +kernel
theorem bkD_X12_slopes : bchk3 (bm_14 126) bk_X12_slopes = true := by decide +kernel
theorem bkD_X12_solve : bchk3 (bm_14 127) bk_X12_solve = true := by decide +kernel
theorem bkD_X12_spans : bchk3 (bm_14 128) bk_X12_spans = true := by decide +kernel
theorem bkD_X12_spelledInto : bchk3 (bm_14 129) bk_X12_spelledInto = true := by decide +kernel
theorem bkD_X12_spells : bchk3 (bm_14 130) bk_X12_spells = true := by decide +kernel
theorem bkD_X12_subtract : bchk3 (bm_14 131) bk_X12_subtract = true := by decide +kernel
theorem bkD_X12_sum : bchk3 (bm_14 132) bk_X12_sum = true := by decide +kernel
theorem bkD_X12_sure : bchk3 (bm_14 133) bk_X12_sure = true := by decide +kernel
theorem bkD_X12_takes : bchk3 (bm_14 134) bk_X12_takes = true := by decide +kernel
theorem bkD_X12_tells : bchk3 (bm_14 135) bk_X12_tells = true := by decide +kernel
theorem bkD_X12_tellsOf : bchk3 (bm_14 136) bk_X12_tellsOf = true := by decide +kernel
theorem bkD_X12_ten : bchk3 (bm_14 137) bk_X12_ten = true := by decide +kernel
theorem bkD_X12_tens : bchk3 (bm_14 138) bk_X12_tens = true := by decide +kernel
theorem bkD_X12_thrown : bchk3 (bm_14 139) bk_X12_thrown = true := by decide +kernel
theorem bkD_X12_times : bchk3 (bm_14 140) bk_X12_times = true := by decide +kernel
theorem bkD_X12_told : bchk3 (bm_14 141) bk_X12_told = true := by decide +kernel
theorem bkD_X12_trims : bchk3 (bm_14 142) bk_X12_trims = true := by decide +kernel
theorem bkD_X12_turned : bchk3 (bm_14 143) bk_X12_turned = true := by decide +kernel
theorem bkD_X12_turns : bchk3 (bm_14 144) bk_X12_turns = true := by decide +kernel
theorem bkD_X12_type : bchk3 (bm_14 145) bk_X12_type = true := by decide +kernel
theorem bkD_X12_undo : bchk3 (bm_14 146) bk_X12_undo = true := by decide +kernel
theorem bkD_X12_unit : bchk3 (bm_14 147) bk_X12_unit = true := by decide +kernel
theorem bkD_X12_unsigned : bchk3 (bm_14 148) bk_X12_unsigned = true := by decide +kernel
theorem bkD_X12_value : bchk3 (bm_14 149) bk_X12_value = true := by decide +kernel
theorem bkD_X12_values : bchk3 (bm_14 150) bk_X12_values = true := by decide +kernel
theorem bkD_X12_whole : bchk3 (bm_14 151) bk_X12_whole = true := by decide +kernel
theorem bkD_X12_width : bchk3 (bm_14 152) bk_X12_width = true := by decide +kernel
theorem bkD_X12_writes : bchk3 (bm_14 153) bk_X12_writes = true := by decide +kernel
theorem bkD_X12_zeros : bchk3 (bm_14 154) bk_X12_zeros = true := by decide +kernel
theorem bkA_14 : bAllOk (fun y l => bchk3 y l = true) bkc_14 bmc_14 := ⟨bkD_X12_init, bkD_X12_acts, bkD_X12_add, bkD_X12_adds, bkD_X12_again, bkD_X12_apply, bkD_X12_arcs, bkD_X12_area, bkD_X12_areas, bkD_X12_becomes, bkD_X12_bounds, bkD_X12_canBe0, bkD_X12_canCut, bkD_X12_checksum, bkD_X12_compare, bkD_X12_compares, bkD_X12_constant, bkD_X12_copies, bkD_X12_crossed, bkD_X12_cutsInto, bkD_X12_decide, bkD_X12_deep, bkD_X12_define, bkD_X12_difference, bkD_X12_digits, bkD_X12_divide, bkD_X12_divides, bkD_X12_ends, bkD_X12_erase, bkD_X12_extreme, bkD_X12_fails, bkD_X12_faults, bkD_X12_four, bkD_X12_greatest, bkD_X12_half, bkD_X12_hasY, bkD_X12_hasYOf, bkD_X12_held, bkD_X12_high_, bkD_X12_high, bkD_X12_holds0, bkD_X12_holdsNothing, bkD_X12_in, bkD_X12_isAbove0, bkD_X12_isBelow, bkD_X12_isBelow0, bkD_X12_isDigit, bkD_X12_isFormula, bkD_X12_isLess, bkD_X12_isShelf, bkD_X12_isSingle, bkD_X12_isSound, bkD_X12_isTooGreat, bkD_X12_isWithin, bkD_X12_isWithinOf, bkD_X12_join, bkD_X12_joins, bkD_X12_known, bkD_X12_least, bkD_X12_less, bkD_X12_lets, bkD_X12_lifted, bkD_X12_limb, bkD_X12_logs, bkD_X12_looks, bkD_X12_low_, bkD_X12_low, bkD_X12_made, bkD_X12_makes, bkD_X12_makes_, bkD_X12_meet, bkD_X12_middle, bkD_X12_modulo, bkD_X12_move, bkD_X12_moves, bkD_X12_multiply, bkD_X12_narrow, bkD_X12_needsBase, bkD_X12_needsLog, bkD_X12_needsPi, bkD_X12_negative, bkD_X12_noBounds, bkD_X12_noBox, bkD_X12_noLook, bkD_X12_noPair, bkD_X12_number, bkD_X12_odds, bkD_X12_order, bkD_X12_outward, bkD_X12_pair, bkD_X12_pairs, bkD_X12_part, bkD_X12_parts, bkD_X12_piece, bkD_X12_pieceKind, bkD_X12_plus, bkD_X12_power, bkD_X12_powers, bkD_X12_product, bkD_X12_put, bkD_X12_quotient, bkD_X12_raises, bkD_X12_read, bkD_X12_readAtom, bkD_X12_readNumber, bkD_X12_readPower, bkD_X12_readProduct, bkD_X12_readSum, bkD_X12_rises, bkD_X12_rising, bkD_X12_root, bkD_X12_rooted, bkD_X12_roots, bkD_X12_rounds, bkD_X12_scaleOf, bkD_X12_scales, bkD_X12_series, bkD_X12_setDigits, bkD_X12_sets, bkD_X12_shifts, bkD_X12_sign, bkD_X12_signAt, bkD_X12_signOf, bkD_X12_single, bkD_X12_size, bkD_X12_slope, bkD_X12_slopes, bkD_X12_solve, bkD_X12_spans, bkD_X12_spelledInto, bkD_X12_spells, bkD_X12_subtract, bkD_X12_sum, bkD_X12_sure, bkD_X12_takes, bkD_X12_tells, bkD_X12_tellsOf, bkD_X12_ten, bkD_X12_tens, bkD_X12_thrown, bkD_X12_times, bkD_X12_told, bkD_X12_trims, bkD_X12_turned, bkD_X12_turns, bkD_X12_type, bkD_X12_undo, bkD_X12_unit, bkD_X12_unsigned, bkD_X12_value, bkD_X12_values, bkD_X12_whole, bkD_X12_width, bkD_X12_writes, bkD_X12_zeros, trivial⟩
theorem bkM_X12_init : bchkM bmeth bmjs 3584 = true := by decide +kernel
theorem bkH_X12_init : bHead (bm_14 0) ∈ bw_G := bw_in (bprog_in 8 _ (List.mem_of_getElem? (i := 77) rfl)) rfl
theorem bkM_X12_add : bchkM bmeth bmjs 3586 = true := by decide +kernel
theorem bkH_X12_add : bHead (bm_14 2) ∈ bw_G := bw_in (bprog_in 9 _ (List.mem_of_getElem? (i := 231) rfl)) rfl
theorem bkM_X12_apply : bchkM bmeth bmjs 3589 = true := by decide +kernel
theorem bkH_X12_apply : bHead (bm_14 5) ∈ bw_G := bw_in (bprog_in 10 _ (List.mem_of_getElem? (i := 109) rfl)) rfl
theorem bkM_X12_area : bchkM bmeth bmjs 3591 = true := by decide +kernel
theorem bkH_X12_area : bHead (bm_14 7) ∈ bw_G := bw_in (bprog_in 11 _ (List.mem_of_getElem? (i := 81) rfl)) rfl
theorem bkM_X12_becomes : bchkM bmeth bmjs 3593 = true := by decide +kernel
theorem bkH_X12_becomes : bHead (bm_14 9) ∈ bw_G := bw_in (bprog_in 9 _ (List.mem_of_getElem? (i := 83) rfl)) rfl
theorem bkM_X12_bounds : bchkM bmeth bmjs 3594 = true := by decide +kernel
theorem bkH_X12_bounds : bHead (bm_14 10) ∈ bw_G := bw_in (bprog_in 11 _ (List.mem_of_getElem? (i := 65) rfl)) rfl
theorem bkM_X12_checksum : bchkM bmeth bmjs 3597 = true := by decide +kernel
theorem bkH_X12_checksum : bHead (bm_14 13) ∈ bw_G := bw_in (bprog_in 11 _ (List.mem_of_getElem? (i := 107) rfl)) rfl
theorem bkM_X12_compare : bchkM bmeth bmjs 3598 = true := by decide +kernel
theorem bkH_X12_compare : bHead (bm_14 14) ∈ bw_G := bw_in (bprog_in 9 _ (List.mem_of_getElem? (i := 212) rfl)) rfl
theorem bkM_X12_constant : bchkM bmeth bmjs 3600 = true := by decide +kernel
theorem bkH_X12_constant : bHead (bm_14 16) ∈ bw_G := bw_in (bprog_in 9 _ (List.mem_of_getElem? (i := 106) rfl)) rfl
theorem bkM_X12_copies : bchkM bmeth bmjs 3601 = true := by decide +kernel
theorem bkH_X12_copies : bHead (bm_14 17) ∈ bw_G := bw_in (bprog_in 9 _ (List.mem_of_getElem? (i := 42) rfl)) rfl
theorem bkM_X12_decide : bchkM bmeth bmjs 3604 = true := by decide +kernel
theorem bkH_X12_decide : bHead (bm_14 20) ∈ bw_G := bw_in (bprog_in 10 _ (List.mem_of_getElem? (i := 238) rfl)) rfl
theorem bkM_X12_deep : bchkM bmeth bmjs 3605 = true := by decide +kernel
theorem bkH_X12_deep : bHead (bm_14 21) ∈ bw_G := bw_in (bprog_in 9 _ (List.mem_of_getElem? (i := 152) rfl)) rfl
theorem bkM_X12_define : bchkM bmeth bmjs 3606 = true := by decide +kernel
theorem bkH_X12_define : bHead (bm_14 22) ∈ bw_G := bw_in (bprog_in 10 _ (List.mem_of_getElem? (i := 163) rfl)) rfl
theorem bkM_X12_digits : bchkM bmeth bmjs 3608 = true := by decide +kernel
theorem bkH_X12_digits : bHead (bm_14 24) ∈ bw_G := bw_in (bprog_in 8 _ (List.mem_of_getElem? (i := 228) rfl)) rfl
theorem bkM_X12_divide : bchkM bmeth bmjs 3609 = true := by decide +kernel
theorem bkH_X12_divide : bHead (bm_14 25) ∈ bw_G := bw_in (bprog_in 10 _ (List.mem_of_getElem? (i := 68) rfl)) rfl
theorem bkM_X12_erase : bchkM bmeth bmjs 3612 = true := by decide +kernel
theorem bkH_X12_erase : bHead (bm_14 28) ∈ bw_G := bw_in (bprog_in 8 _ (List.mem_of_getElem? (i := 236) rfl)) rfl
theorem bkM_X12_fails : bchkM bmeth bmjs 3614 = true := by decide +kernel
theorem bkH_X12_fails : bHead (bm_14 30) ∈ bw_G := bw_in (bprog_in 8 _ (List.mem_of_getElem? (i := 224) rfl)) rfl
theorem bkM_X12_faults : bchkM bmeth bmjs 3615 = true := by decide +kernel
theorem bkH_X12_faults : bHead (bm_14 31) ∈ bw_G := bw_in (bprog_in 10 _ (List.mem_of_getElem? (i := 194) rfl)) rfl
theorem bkM_X12_greatest : bchkM bmeth bmjs 3617 = true := by decide +kernel
theorem bkH_X12_greatest : bHead (bm_14 33) ∈ bw_G := bw_in (bprog_in 11 _ (List.mem_of_getElem? (i := 77) rfl)) rfl
theorem bkM_X12_hasY : bchkM bmeth bmjs 3619 = true := by decide +kernel
theorem bkH_X12_hasY : bHead (bm_14 35) ∈ bw_G := bw_in (bprog_in 10 _ (List.mem_of_getElem? (i := 202) rfl)) rfl
theorem bkM_X12_held : bchkM bmeth bmjs 3621 = true := by decide +kernel
theorem bkH_X12_held : bHead (bm_14 37) ∈ bw_G := bw_in (bprog_in 11 _ (List.mem_of_getElem? (i := 103) rfl)) rfl
theorem bkM_X12_high_ : bchkM bmeth bmjs 3622 = true := by decide +kernel
theorem bkH_X12_high_ : bHead (bm_14 38) ∈ bw_G := bw_in (bprog_in 9 _ (List.mem_of_getElem? (i := 192) rfl)) rfl
theorem bkM_X12_high : bchkM bmeth bmjs 3623 = true := by decide +kernel
theorem bkH_X12_high : bHead (bm_14 39) ∈ bw_G := bw_in (bprog_in 9 _ (List.mem_of_getElem? (i := 12) rfl)) rfl
theorem bkM_X12_in : bchkM bmeth bmjs 3626 = true := by decide +kernel
theorem bkH_X12_in : bHead (bm_14 42) ∈ bw_G := bw_in (bprog_in 8 _ (List.mem_of_getElem? (i := 220) rfl)) rfl
theorem bkM_X12_isDigit : bchkM bmeth bmjs 3630 = true := by decide +kernel
theorem bkH_X12_isDigit : bHead (bm_14 46) ∈ bw_G := bw_in (bprog_in 9 _ (List.mem_of_getElem? (i := 102) rfl)) rfl
theorem bkM_X12_isFormula : bchkM bmeth bmjs 3631 = true := by decide +kernel
theorem bkH_X12_isFormula : bHead (bm_14 47) ∈ bw_G := bw_in (bprog_in 10 _ (List.mem_of_getElem? (i := 166) rfl)) rfl
theorem bkM_X12_isShelf : bchkM bmeth bmjs 3633 = true := by decide +kernel
theorem bkH_X12_isShelf : bHead (bm_14 49) ∈ bw_G := bw_in (bprog_in 9 _ (List.mem_of_getElem? (i := 19) rfl)) rfl
theorem bkM_X12_isSingle : bchkM bmeth bmjs 3634 = true := by decide +kernel
theorem bkH_X12_isSingle : bHead (bm_14 50) ∈ bw_G := bw_in (bprog_in 9 _ (List.mem_of_getElem? (i := 91) rfl)) rfl
theorem bkM_X12_isSound : bchkM bmeth bmjs 3635 = true := by decide +kernel
theorem bkH_X12_isSound : bHead (bm_14 51) ∈ bw_G := bw_in (bprog_in 11 _ (List.mem_of_getElem? (i := 117) rfl)) rfl
theorem bkM_X12_isTooGreat : bchkM bmeth bmjs 3636 = true := by decide +kernel
theorem bkH_X12_isTooGreat : bHead (bm_14 52) ∈ bw_G := bw_in (bprog_in 9 _ (List.mem_of_getElem? (i := 78) rfl)) rfl
theorem bkM_X12_isWithin : bchkM bmeth bmjs 3637 = true := by decide +kernel
theorem bkH_X12_isWithin : bHead (bm_14 53) ∈ bw_G := bw_in (bprog_in 9 _ (List.mem_of_getElem? (i := 204) rfl)) rfl
theorem bkM_X12_join : bchkM bmeth bmjs 3639 = true := by decide +kernel
theorem bkH_X12_join : bHead (bm_14 55) ∈ bw_G := bw_in (bprog_in 9 _ (List.mem_of_getElem? (i := 156) rfl)) rfl
theorem bkM_X12_known : bchkM bmeth bmjs 3641 = true := by decide +kernel
theorem bkH_X12_known : bHead (bm_14 57) ∈ bw_G := bw_in (bprog_in 9 _ (List.mem_of_getElem? (i := 110) rfl)) rfl
theorem bkM_X12_least : bchkM bmeth bmjs 3642 = true := by decide +kernel
theorem bkH_X12_least : bHead (bm_14 58) ∈ bw_G := bw_in (bprog_in 11 _ (List.mem_of_getElem? (i := 61) rfl)) rfl
theorem bkM_X12_less : bchkM bmeth bmjs 3643 = true := by decide +kernel
theorem bkH_X12_less : bHead (bm_14 59) ∈ bw_G := bw_in (bprog_in 9 _ (List.mem_of_getElem? (i := 133) rfl)) rfl
theorem bkM_X12_lets : bchkM bmeth bmjs 3644 = true := by decide +kernel
theorem bkH_X12_lets : bHead (bm_14 60) ∈ bw_G := bw_in (bprog_in 9 _ (List.mem_of_getElem? (i := 30) rfl)) rfl
theorem bkM_X12_limb : bchkM bmeth bmjs 3646 = true := by decide +kernel
theorem bkH_X12_limb : bHead (bm_14 62) ∈ bw_G := bw_in (bprog_in 9 _ (List.mem_of_getElem? (i := 46) rfl)) rfl
theorem bkM_X12_low_ : bchkM bmeth bmjs 3649 = true := by decide +kernel
theorem bkH_X12_low_ : bHead (bm_14 65) ∈ bw_G := bw_in (bprog_in 9 _ (List.mem_of_getElem? (i := 175) rfl)) rfl
theorem bkM_X12_low : bchkM bmeth bmjs 3650 = true := by decide +kernel
theorem bkH_X12_low : bHead (bm_14 66) ∈ bw_G := bw_in (bprog_in 9 _ (List.mem_of_getElem? (i := 8) rfl)) rfl
theorem bkM_X12_makes_ : bchkM bmeth bmjs 3653 = true := by decide +kernel
theorem bkH_X12_makes_ : bHead (bm_14 69) ∈ bw_G := bw_in (bprog_in 10 _ (List.mem_of_getElem? (i := 214) rfl)) rfl
theorem bkM_X12_meet : bchkM bmeth bmjs 3654 = true := by decide +kernel
theorem bkH_X12_meet : bHead (bm_14 70) ∈ bw_G := bw_in (bprog_in 9 _ (List.mem_of_getElem? (i := 171) rfl)) rfl
theorem bkM_X12_move : bchkM bmeth bmjs 3657 = true := by decide +kernel
theorem bkH_X12_move : bHead (bm_14 73) ∈ bw_G := bw_in (bprog_in 11 _ (List.mem_of_getElem? (i := 89) rfl)) rfl
theorem bkM_X12_multiply : bchkM bmeth bmjs 3659 = true := by decide +kernel
theorem bkH_X12_multiply : bHead (bm_14 75) ∈ bw_G := bw_in (bprog_in 10 _ (List.mem_of_getElem? (i := 64) rfl)) rfl
theorem bkM_X12_narrow : bchkM bmeth bmjs 3660 = true := by decide +kernel
theorem bkH_X12_narrow : bHead (bm_14 76) ∈ bw_G := bw_in (bprog_in 11 _ (List.mem_of_getElem? (i := 45) rfl)) rfl
theorem bkM_X12_needsBase : bchkM bmeth bmjs 3661 = true := by decide +kernel
theorem bkH_X12_needsBase : bHead (bm_14 77) ∈ bw_G := bw_in (bprog_in 9 _ (List.mem_of_getElem? (i := 140) rfl)) rfl
theorem bkM_X12_needsPi : bchkM bmeth bmjs 3663 = true := by decide +kernel
theorem bkH_X12_needsPi : bHead (bm_14 79) ∈ bw_G := bw_in (bprog_in 9 _ (List.mem_of_getElem? (i := 114) rfl)) rfl
theorem bkM_X12_noBounds : bchkM bmeth bmjs 3665 = true := by decide +kernel
theorem bkH_X12_noBounds : bHead (bm_14 81) ∈ bw_G := bw_in (bprog_in 11 _ (List.mem_of_getElem? (i := 69) rfl)) rfl
theorem bkM_X12_noBox : bchkM bmeth bmjs 3666 = true := by decide +kernel
theorem bkH_X12_noBox : bHead (bm_14 82) ∈ bw_G := bw_in (bprog_in 9 _ (List.mem_of_getElem? (i := 179) rfl)) rfl
theorem bkM_X12_noLook : bchkM bmeth bmjs 3667 = true := by decide +kernel
theorem bkH_X12_noLook : bHead (bm_14 83) ∈ bw_G := bw_in (bprog_in 11 _ (List.mem_of_getElem? (i := 6) rfl)) rfl
theorem bkM_X12_noPair : bchkM bmeth bmjs 3668 = true := by decide +kernel
theorem bkH_X12_noPair : bHead (bm_14 84) ∈ bw_G := bw_in (bprog_in 9 _ (List.mem_of_getElem? (i := 160) rfl)) rfl
theorem bkM_X12_number : bchkM bmeth bmjs 3669 = true := by decide +kernel
theorem bkH_X12_number : bHead (bm_14 85) ∈ bw_G := bw_in (bprog_in 9 _ (List.mem_of_getElem? (i := 38) rfl)) rfl
theorem bkM_X12_odds : bchkM bmeth bmjs 3670 = true := by decide +kernel
theorem bkH_X12_odds : bHead (bm_14 86) ∈ bw_G := bw_in (bprog_in 9 _ (List.mem_of_getElem? (i := 119) rfl)) rfl
theorem bkM_X12_pairs : bchkM bmeth bmjs 3674 = true := by decide +kernel
theorem bkH_X12_pairs : bHead (bm_14 90) ∈ bw_G := bw_in (bprog_in 11 _ (List.mem_of_getElem? (i := 49) rfl)) rfl
theorem bkM_X12_parts : bchkM bmeth bmjs 3676 = true := by decide +kernel
theorem bkH_X12_parts : bHead (bm_14 92) ∈ bw_G := bw_in (bprog_in 9 _ (List.mem_of_getElem? (i := 61) rfl)) rfl
theorem bkM_X12_piece : bchkM bmeth bmjs 3677 = true := by decide +kernel
theorem bkH_X12_piece : bHead (bm_14 93) ∈ bw_G := bw_in (bprog_in 11 _ (List.mem_of_getElem? (i := 41) rfl)) rfl
theorem bkM_X12_pieceKind : bchkM bmeth bmjs 3678 = true := by decide +kernel
theorem bkH_X12_pieceKind : bHead (bm_14 94) ∈ bw_G := bw_in (bprog_in 11 _ (List.mem_of_getElem? (i := 37) rfl)) rfl
theorem bkM_X12_plus : bchkM bmeth bmjs 3679 = true := by decide +kernel
theorem bkH_X12_plus : bHead (bm_14 95) ∈ bw_G := bw_in (bprog_in 9 _ (List.mem_of_getElem? (i := 69) rfl)) rfl
theorem bkM_X12_power : bchkM bmeth bmjs 3680 = true := by decide +kernel
theorem bkH_X12_power : bHead (bm_14 96) ∈ bw_G := bw_in (bprog_in 10 _ (List.mem_of_getElem? (i := 72) rfl)) rfl
theorem bkM_X12_put : bchkM bmeth bmjs 3683 = true := by decide +kernel
theorem bkH_X12_put : bHead (bm_14 99) ∈ bw_G := bw_in (bprog_in 9 _ (List.mem_of_getElem? (i := 16) rfl)) rfl
theorem bkM_X12_read : bchkM bmeth bmjs 3686 = true := by decide +kernel
theorem bkH_X12_read : bHead (bm_14 102) ∈ bw_G := bw_in (bprog_in 9 _ (List.mem_of_getElem? (i := 95) rfl)) rfl
theorem bkM_X12_readAtom : bchkM bmeth bmjs 3687 = true := by decide +kernel
theorem bkH_X12_readAtom : bHead (bm_14 103) ∈ bw_G := bw_in (bprog_in 10 _ (List.mem_of_getElem? (i := 182) rfl)) rfl
theorem bkM_X12_readPower : bchkM bmeth bmjs 3689 = true := by decide +kernel
theorem bkH_X12_readPower : bHead (bm_14 105) ∈ bw_G := bw_in (bprog_in 10 _ (List.mem_of_getElem? (i := 178) rfl)) rfl
theorem bkM_X12_readProduct : bchkM bmeth bmjs 3690 = true := by decide +kernel
theorem bkH_X12_readProduct : bHead (bm_14 106) ∈ bw_G := bw_in (bprog_in 10 _ (List.mem_of_getElem? (i := 174) rfl)) rfl
theorem bkM_X12_readSum : bchkM bmeth bmjs 3691 = true := by decide +kernel
theorem bkH_X12_readSum : bHead (bm_14 107) ∈ bw_G := bw_in (bprog_in 10 _ (List.mem_of_getElem? (i := 170) rfl)) rfl
theorem bkM_X12_root : bchkM bmeth bmjs 3694 = true := by decide +kernel
theorem bkH_X12_root : bHead (bm_14 110) ∈ bw_G := bw_in (bprog_in 10 _ (List.mem_of_getElem? (i := 96) rfl)) rfl
theorem bkM_X12_scaleOf : bchkM bmeth bmjs 3698 = true := by decide +kernel
theorem bkH_X12_scaleOf : bHead (bm_14 114) ∈ bw_G := bw_in (bprog_in 9 _ (List.mem_of_getElem? (i := 99) rfl)) rfl
theorem bkM_X12_scales : bchkM bmeth bmjs 3699 = true := by decide +kernel
theorem bkH_X12_scales : bHead (bm_14 115) ∈ bw_G := bw_in (bprog_in 9 _ (List.mem_of_getElem? (i := 57) rfl)) rfl
theorem bkM_X12_series : bchkM bmeth bmjs 3700 = true := by decide +kernel
theorem bkH_X12_series : bHead (bm_14 116) ∈ bw_G := bw_in (bprog_in 9 _ (List.mem_of_getElem? (i := 144) rfl)) rfl
theorem bkM_X12_setDigits : bchkM bmeth bmjs 3701 = true := by decide +kernel
theorem bkH_X12_setDigits : bHead (bm_14 117) ∈ bw_G := bw_in (bprog_in 8 _ (List.mem_of_getElem? (i := 216) rfl)) rfl
theorem bkM_X12_sets : bchkM bmeth bmjs 3702 = true := by decide +kernel
theorem bkH_X12_sets : bHead (bm_14 118) ∈ bw_G := bw_in (bprog_in 9 _ (List.mem_of_getElem? (i := 26) rfl)) rfl
theorem bkM_X12_shifts : bchkM bmeth bmjs 3703 = true := by decide +kernel
theorem bkH_X12_shifts : bHead (bm_14 119) ∈ bw_G := bw_in (bprog_in 9 _ (List.mem_of_getElem? (i := 127) rfl)) rfl
theorem bkM_X12_sign : bchkM bmeth bmjs 3704 = true := by decide +kernel
theorem bkH_X12_sign : bHead (bm_14 120) ∈ bw_G := bw_in (bprog_in 10 _ (List.mem_of_getElem? (i := 186) rfl)) rfl
theorem bkM_X12_signAt : bchkM bmeth bmjs 3705 = true := by decide +kernel
theorem bkH_X12_signAt : bHead (bm_14 121) ∈ bw_G := bw_in (bprog_in 9 _ (List.mem_of_getElem? (i := 0) rfl)) rfl
theorem bkM_X12_slope : bchkM bmeth bmjs 3709 = true := by decide +kernel
theorem bkH_X12_slope : bHead (bm_14 125) ∈ bw_G := bw_in (bprog_in 10 _ (List.mem_of_getElem? (i := 234) rfl)) rfl
theorem bkM_X12_solve : bchkM bmeth bmjs 3711 = true := by decide +kernel
theorem bkH_X12_solve : bHead (bm_14 127) ∈ bw_G := bw_in (bprog_in 10 _ (List.mem_of_getElem? (i := 155) rfl)) rfl
theorem bkM_X12_subtract : bchkM bmeth bmjs 3715 = true := by decide +kernel
theorem bkH_X12_subtract : bHead (bm_14 131) ∈ bw_G := bw_in (bprog_in 10 _ (List.mem_of_getElem? (i := 60) rfl)) rfl
theorem bkM_X12_sure : bchkM bmeth bmjs 3717 = true := by decide +kernel
theorem bkH_X12_sure : bHead (bm_14 133) ∈ bw_G := bw_in (bprog_in 9 _ (List.mem_of_getElem? (i := 220) rfl)) rfl
theorem bkM_X12_takes : bchkM bmeth bmjs 3718 = true := by decide +kernel
theorem bkH_X12_takes : bHead (bm_14 134) ∈ bw_G := bw_in (bprog_in 9 _ (List.mem_of_getElem? (i := 87) rfl)) rfl
theorem bkM_X12_tells : bchkM bmeth bmjs 3719 = true := by decide +kernel
theorem bkH_X12_tells : bHead (bm_14 135) ∈ bw_G := bw_in (bprog_in 9 _ (List.mem_of_getElem? (i := 65) rfl)) rfl
theorem bkM_X12_ten : bchkM bmeth bmjs 3721 = true := by decide +kernel
theorem bkH_X12_ten : bHead (bm_14 137) ∈ bw_G := bw_in (bprog_in 9 _ (List.mem_of_getElem? (i := 53) rfl)) rfl
theorem bkM_X12_tens : bchkM bmeth bmjs 3722 = true := by decide +kernel
theorem bkH_X12_tens : bHead (bm_14 138) ∈ bw_G := bw_in (bprog_in 9 _ (List.mem_of_getElem? (i := 50) rfl)) rfl
theorem bkM_X12_thrown : bchkM bmeth bmjs 3723 = true := by decide +kernel
theorem bkH_X12_thrown : bHead (bm_14 139) ∈ bw_G := bw_in (bprog_in 8 _ (List.mem_of_getElem? (i := 212) rfl)) rfl
theorem bkM_X12_times : bchkM bmeth bmjs 3724 = true := by decide +kernel
theorem bkH_X12_times : bHead (bm_14 140) ∈ bw_G := bw_in (bprog_in 9 _ (List.mem_of_getElem? (i := 148) rfl)) rfl
theorem bkM_X12_trims : bchkM bmeth bmjs 3726 = true := by decide +kernel
theorem bkH_X12_trims : bHead (bm_14 142) ∈ bw_G := bw_in (bprog_in 9 _ (List.mem_of_getElem? (i := 34) rfl)) rfl
theorem bkM_X12_turns : bchkM bmeth bmjs 3728 = true := by decide +kernel
theorem bkH_X12_turns : bHead (bm_14 144) ∈ bw_G := bw_in (bprog_in 9 _ (List.mem_of_getElem? (i := 74) rfl)) rfl
theorem bkM_X12_type : bchkM bmeth bmjs 3729 = true := by decide +kernel
theorem bkH_X12_type : bHead (bm_14 145) ∈ bw_G := bw_in (bprog_in 8 _ (List.mem_of_getElem? (i := 232) rfl)) rfl
theorem bkM_X12_undo : bchkM bmeth bmjs 3730 = true := by decide +kernel
theorem bkH_X12_undo : bHead (bm_14 146) ∈ bw_G := bw_in (bprog_in 9 _ (List.mem_of_getElem? (i := 4) rfl)) rfl
theorem bkM_X12_unit : bchkM bmeth bmjs 3731 = true := by decide +kernel
theorem bkH_X12_unit : bHead (bm_14 147) ∈ bw_G := bw_in (bprog_in 9 _ (List.mem_of_getElem? (i := 123) rfl)) rfl
theorem bkM_X12_value : bchkM bmeth bmjs 3733 = true := by decide +kernel
theorem bkH_X12_value : bHead (bm_14 149) ∈ bw_G := bw_in (bprog_in 10 _ (List.mem_of_getElem? (i := 210) rfl)) rfl
theorem bkM_X12_width : bchkM bmeth bmjs 3736 = true := by decide +kernel
theorem bkH_X12_width : bHead (bm_14 152) ∈ bw_G := bw_in (bprog_in 9 _ (List.mem_of_getElem? (i := 196) rfl)) rfl
theorem bkM_X12_zeros : bchkM bmeth bmjs 3738 = true := by decide +kernel
theorem bkH_X12_zeros : bHead (bm_14 154) ∈ bw_G := bw_in (bprog_in 11 _ (List.mem_of_getElem? (i := 2) rfl)) rfl
theorem bkMA_14 : ∀ k, k < 155 → (bmjs (3584 + k)).1 ≠ 0 → bchkM bmeth bmjs (3584 + k) = true ∧ bHead (bm_14 k) ∈ bw_G := by
  intro k hk h0
  match k, hk with
  | 0, _ => exact ⟨bkM_X12_init, bkH_X12_init⟩
  | 1, _ => exact absurd (by decide +kernel) h0
  | 2, _ => exact ⟨bkM_X12_add, bkH_X12_add⟩
  | 3, _ => exact absurd (by decide +kernel) h0
  | 4, _ => exact absurd (by decide +kernel) h0
  | 5, _ => exact ⟨bkM_X12_apply, bkH_X12_apply⟩
  | 6, _ => exact absurd (by decide +kernel) h0
  | 7, _ => exact ⟨bkM_X12_area, bkH_X12_area⟩
  | 8, _ => exact absurd (by decide +kernel) h0
  | 9, _ => exact ⟨bkM_X12_becomes, bkH_X12_becomes⟩
  | 10, _ => exact ⟨bkM_X12_bounds, bkH_X12_bounds⟩
  | 11, _ => exact absurd (by decide +kernel) h0
  | 12, _ => exact absurd (by decide +kernel) h0
  | 13, _ => exact ⟨bkM_X12_checksum, bkH_X12_checksum⟩
  | 14, _ => exact ⟨bkM_X12_compare, bkH_X12_compare⟩
  | 15, _ => exact absurd (by decide +kernel) h0
  | 16, _ => exact ⟨bkM_X12_constant, bkH_X12_constant⟩
  | 17, _ => exact ⟨bkM_X12_copies, bkH_X12_copies⟩
  | 18, _ => exact absurd (by decide +kernel) h0
  | 19, _ => exact absurd (by decide +kernel) h0
  | 20, _ => exact ⟨bkM_X12_decide, bkH_X12_decide⟩
  | 21, _ => exact ⟨bkM_X12_deep, bkH_X12_deep⟩
  | 22, _ => exact ⟨bkM_X12_define, bkH_X12_define⟩
  | 23, _ => exact absurd (by decide +kernel) h0
  | 24, _ => exact ⟨bkM_X12_digits, bkH_X12_digits⟩
  | 25, _ => exact ⟨bkM_X12_divide, bkH_X12_divide⟩
  | 26, _ => exact absurd (by decide +kernel) h0
  | 27, _ => exact absurd (by decide +kernel) h0
  | 28, _ => exact ⟨bkM_X12_erase, bkH_X12_erase⟩
  | 29, _ => exact absurd (by decide +kernel) h0
  | 30, _ => exact ⟨bkM_X12_fails, bkH_X12_fails⟩
  | 31, _ => exact ⟨bkM_X12_faults, bkH_X12_faults⟩
  | 32, _ => exact absurd (by decide +kernel) h0
  | 33, _ => exact ⟨bkM_X12_greatest, bkH_X12_greatest⟩
  | 34, _ => exact absurd (by decide +kernel) h0
  | 35, _ => exact ⟨bkM_X12_hasY, bkH_X12_hasY⟩
  | 36, _ => exact absurd (by decide +kernel) h0
  | 37, _ => exact ⟨bkM_X12_held, bkH_X12_held⟩
  | 38, _ => exact ⟨bkM_X12_high_, bkH_X12_high_⟩
  | 39, _ => exact ⟨bkM_X12_high, bkH_X12_high⟩
  | 40, _ => exact absurd (by decide +kernel) h0
  | 41, _ => exact absurd (by decide +kernel) h0
  | 42, _ => exact ⟨bkM_X12_in, bkH_X12_in⟩
  | 43, _ => exact absurd (by decide +kernel) h0
  | 44, _ => exact absurd (by decide +kernel) h0
  | 45, _ => exact absurd (by decide +kernel) h0
  | 46, _ => exact ⟨bkM_X12_isDigit, bkH_X12_isDigit⟩
  | 47, _ => exact ⟨bkM_X12_isFormula, bkH_X12_isFormula⟩
  | 48, _ => exact absurd (by decide +kernel) h0
  | 49, _ => exact ⟨bkM_X12_isShelf, bkH_X12_isShelf⟩
  | 50, _ => exact ⟨bkM_X12_isSingle, bkH_X12_isSingle⟩
  | 51, _ => exact ⟨bkM_X12_isSound, bkH_X12_isSound⟩
  | 52, _ => exact ⟨bkM_X12_isTooGreat, bkH_X12_isTooGreat⟩
  | 53, _ => exact ⟨bkM_X12_isWithin, bkH_X12_isWithin⟩
  | 54, _ => exact absurd (by decide +kernel) h0
  | 55, _ => exact ⟨bkM_X12_join, bkH_X12_join⟩
  | 56, _ => exact absurd (by decide +kernel) h0
  | 57, _ => exact ⟨bkM_X12_known, bkH_X12_known⟩
  | 58, _ => exact ⟨bkM_X12_least, bkH_X12_least⟩
  | 59, _ => exact ⟨bkM_X12_less, bkH_X12_less⟩
  | 60, _ => exact ⟨bkM_X12_lets, bkH_X12_lets⟩
  | 61, _ => exact absurd (by decide +kernel) h0
  | 62, _ => exact ⟨bkM_X12_limb, bkH_X12_limb⟩
  | 63, _ => exact absurd (by decide +kernel) h0
  | 64, _ => exact absurd (by decide +kernel) h0
  | 65, _ => exact ⟨bkM_X12_low_, bkH_X12_low_⟩
  | 66, _ => exact ⟨bkM_X12_low, bkH_X12_low⟩
  | 67, _ => exact absurd (by decide +kernel) h0
  | 68, _ => exact absurd (by decide +kernel) h0
  | 69, _ => exact ⟨bkM_X12_makes_, bkH_X12_makes_⟩
  | 70, _ => exact ⟨bkM_X12_meet, bkH_X12_meet⟩
  | 71, _ => exact absurd (by decide +kernel) h0
  | 72, _ => exact absurd (by decide +kernel) h0
  | 73, _ => exact ⟨bkM_X12_move, bkH_X12_move⟩
  | 74, _ => exact absurd (by decide +kernel) h0
  | 75, _ => exact ⟨bkM_X12_multiply, bkH_X12_multiply⟩
  | 76, _ => exact ⟨bkM_X12_narrow, bkH_X12_narrow⟩
  | 77, _ => exact ⟨bkM_X12_needsBase, bkH_X12_needsBase⟩
  | 78, _ => exact absurd (by decide +kernel) h0
  | 79, _ => exact ⟨bkM_X12_needsPi, bkH_X12_needsPi⟩
  | 80, _ => exact absurd (by decide +kernel) h0
  | 81, _ => exact ⟨bkM_X12_noBounds, bkH_X12_noBounds⟩
  | 82, _ => exact ⟨bkM_X12_noBox, bkH_X12_noBox⟩
  | 83, _ => exact ⟨bkM_X12_noLook, bkH_X12_noLook⟩
  | 84, _ => exact ⟨bkM_X12_noPair, bkH_X12_noPair⟩
  | 85, _ => exact ⟨bkM_X12_number, bkH_X12_number⟩
  | 86, _ => exact ⟨bkM_X12_odds, bkH_X12_odds⟩
  | 87, _ => exact absurd (by decide +kernel) h0
  | 88, _ => exact absurd (by decide +kernel) h0
  | 89, _ => exact absurd (by decide +kernel) h0
  | 90, _ => exact ⟨bkM_X12_pairs, bkH_X12_pairs⟩
  | 91, _ => exact absurd (by decide +kernel) h0
  | 92, _ => exact ⟨bkM_X12_parts, bkH_X12_parts⟩
  | 93, _ => exact ⟨bkM_X12_piece, bkH_X12_piece⟩
  | 94, _ => exact ⟨bkM_X12_pieceKind, bkH_X12_pieceKind⟩
  | 95, _ => exact ⟨bkM_X12_plus, bkH_X12_plus⟩
  | 96, _ => exact ⟨bkM_X12_power, bkH_X12_power⟩
  | 97, _ => exact absurd (by decide +kernel) h0
  | 98, _ => exact absurd (by decide +kernel) h0
  | 99, _ => exact ⟨bkM_X12_put, bkH_X12_put⟩
  | 100, _ => exact absurd (by decide +kernel) h0
  | 101, _ => exact absurd (by decide +kernel) h0
  | 102, _ => exact ⟨bkM_X12_read, bkH_X12_read⟩
  | 103, _ => exact ⟨bkM_X12_readAtom, bkH_X12_readAtom⟩
  | 104, _ => exact absurd (by decide +kernel) h0
  | 105, _ => exact ⟨bkM_X12_readPower, bkH_X12_readPower⟩
  | 106, _ => exact ⟨bkM_X12_readProduct, bkH_X12_readProduct⟩
  | 107, _ => exact ⟨bkM_X12_readSum, bkH_X12_readSum⟩
  | 108, _ => exact absurd (by decide +kernel) h0
  | 109, _ => exact absurd (by decide +kernel) h0
  | 110, _ => exact ⟨bkM_X12_root, bkH_X12_root⟩
  | 111, _ => exact absurd (by decide +kernel) h0
  | 112, _ => exact absurd (by decide +kernel) h0
  | 113, _ => exact absurd (by decide +kernel) h0
  | 114, _ => exact ⟨bkM_X12_scaleOf, bkH_X12_scaleOf⟩
  | 115, _ => exact ⟨bkM_X12_scales, bkH_X12_scales⟩
  | 116, _ => exact ⟨bkM_X12_series, bkH_X12_series⟩
  | 117, _ => exact ⟨bkM_X12_setDigits, bkH_X12_setDigits⟩
  | 118, _ => exact ⟨bkM_X12_sets, bkH_X12_sets⟩
  | 119, _ => exact ⟨bkM_X12_shifts, bkH_X12_shifts⟩
  | 120, _ => exact ⟨bkM_X12_sign, bkH_X12_sign⟩
  | 121, _ => exact ⟨bkM_X12_signAt, bkH_X12_signAt⟩
  | 122, _ => exact absurd (by decide +kernel) h0
  | 123, _ => exact absurd (by decide +kernel) h0
  | 124, _ => exact absurd (by decide +kernel) h0
  | 125, _ => exact ⟨bkM_X12_slope, bkH_X12_slope⟩
  | 126, _ => exact absurd (by decide +kernel) h0
  | 127, _ => exact ⟨bkM_X12_solve, bkH_X12_solve⟩
  | 128, _ => exact absurd (by decide +kernel) h0
  | 129, _ => exact absurd (by decide +kernel) h0
  | 130, _ => exact absurd (by decide +kernel) h0
  | 131, _ => exact ⟨bkM_X12_subtract, bkH_X12_subtract⟩
  | 132, _ => exact absurd (by decide +kernel) h0
  | 133, _ => exact ⟨bkM_X12_sure, bkH_X12_sure⟩
  | 134, _ => exact ⟨bkM_X12_takes, bkH_X12_takes⟩
  | 135, _ => exact ⟨bkM_X12_tells, bkH_X12_tells⟩
  | 136, _ => exact absurd (by decide +kernel) h0
  | 137, _ => exact ⟨bkM_X12_ten, bkH_X12_ten⟩
  | 138, _ => exact ⟨bkM_X12_tens, bkH_X12_tens⟩
  | 139, _ => exact ⟨bkM_X12_thrown, bkH_X12_thrown⟩
  | 140, _ => exact ⟨bkM_X12_times, bkH_X12_times⟩
  | 141, _ => exact absurd (by decide +kernel) h0
  | 142, _ => exact ⟨bkM_X12_trims, bkH_X12_trims⟩
  | 143, _ => exact absurd (by decide +kernel) h0
  | 144, _ => exact ⟨bkM_X12_turns, bkH_X12_turns⟩
  | 145, _ => exact ⟨bkM_X12_type, bkH_X12_type⟩
  | 146, _ => exact ⟨bkM_X12_undo, bkH_X12_undo⟩
  | 147, _ => exact ⟨bkM_X12_unit, bkH_X12_unit⟩
  | 148, _ => exact absurd (by decide +kernel) h0
  | 149, _ => exact ⟨bkM_X12_value, bkH_X12_value⟩
  | 150, _ => exact absurd (by decide +kernel) h0
  | 151, _ => exact absurd (by decide +kernel) h0
  | 152, _ => exact ⟨bkM_X12_width, bkH_X12_width⟩
  | 153, _ => exact absurd (by decide +kernel) h0
  | 154, _ => exact ⟨bkM_X12_zeros, bkH_X12_zeros⟩
  | k + 155, h => omega
