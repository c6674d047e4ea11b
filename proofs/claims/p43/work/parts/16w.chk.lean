/-! The checks, go on. -/
theorem bkM_X12_signAt : bchkM bmeth bmjs 3705 = true := by decide +kernel
theorem bkH_X12_signAt : bHead (bm_14 121) ∈ bw_G := bw_in (bprog_in 8 _ (List.mem_of_getElem? (i := 236) rfl)) rfl
theorem bkM_X12_signOf : bchkM bmeth bmjs 3706 = true := by decide +kernel
theorem bkH_X12_signOf : bHead (bm_14 122) ∈ bw_G := bw_in (bprog_in 11 _ (List.mem_of_getElem? (i := 17) rfl)) rfl
theorem bkM_X12_single : bchkM bmeth bmjs 3707 = true := by decide +kernel
theorem bkH_X12_single : bHead (bm_14 123) ∈ bw_G := bw_in (bprog_in 10 _ (List.mem_of_getElem? (i := 76) rfl)) rfl
theorem bkM_X12_size : bchkM bmeth bmjs 3708 = true := by decide +kernel
theorem bkH_X12_size : bHead (bm_14 124) ∈ bw_G := bw_in (bprog_in 10 _ (List.mem_of_getElem? (i := 27) rfl)) rfl
theorem bkM_X12_slope : bchkM bmeth bmjs 3709 = true := by decide +kernel
theorem bkH_X12_slope : bHead (bm_14 125) ∈ bw_G := bw_in (bprog_in 10 _ (List.mem_of_getElem? (i := 230) rfl)) rfl
theorem bkM_X12_slopes : bchkM bmeth bmjs 3710 = true := by decide +kernel
theorem bkH_X12_slopes : bHead (bm_14 126) ∈ bw_G := bw_in (bprog_in 10 _ (List.mem_of_getElem? (i := 218) rfl)) rfl
theorem bkM_X12_solve : bchkM bmeth bmjs 3711 = true := by decide +kernel
theorem bkH_X12_solve : bHead (bm_14 127) ∈ bw_G := bw_in (bprog_in 10 _ (List.mem_of_getElem? (i := 151) rfl)) rfl
theorem bkM_X12_spans : bchkM bmeth bmjs 3712 = true := by decide +kernel
theorem bkH_X12_spans : bHead (bm_14 128) ∈ bw_G := bw_in (bprog_in 9 _ (List.mem_of_getElem? (i := 196) rfl)) rfl
theorem bkM_X12_spelledInto : bchkM bmeth bmjs 3713 = true := by decide +kernel
theorem bkH_X12_spelledInto : bHead (bm_14 129) ∈ bw_G := bw_in (bprog_in 11 _ (List.mem_of_getElem? (i := 109) rfl)) rfl
theorem bkM_X12_spells : bchkM bmeth bmjs 3714 = true := by decide +kernel
theorem bkH_X12_spells : bHead (bm_14 130) ∈ bw_G := bw_in (bprog_in 9 _ (List.mem_of_getElem? (i := 183) rfl)) rfl
theorem bkM_X12_subtract : bchkM bmeth bmjs 3715 = true := by decide +kernel
theorem bkH_X12_subtract : bHead (bm_14 131) ∈ bw_G := bw_in (bprog_in 10 _ (List.mem_of_getElem? (i := 56) rfl)) rfl
theorem bkM_X12_sum : bchkM bmeth bmjs 3716 = true := by decide +kernel
theorem bkH_X12_sum : bHead (bm_14 132) ∈ bw_G := bw_in (bprog_in 9 _ (List.mem_of_getElem? (i := 239) rfl)) rfl
theorem bkM_X12_sure : bchkM bmeth bmjs 3717 = true := by decide +kernel
theorem bkH_X12_sure : bHead (bm_14 133) ∈ bw_G := bw_in (bprog_in 9 _ (List.mem_of_getElem? (i := 216) rfl)) rfl
theorem bkM_X12_takes : bchkM bmeth bmjs 3718 = true := by decide +kernel
theorem bkH_X12_takes : bHead (bm_14 134) ∈ bw_G := bw_in (bprog_in 9 _ (List.mem_of_getElem? (i := 83) rfl)) rfl
theorem bkM_X12_tells : bchkM bmeth bmjs 3719 = true := by decide +kernel
theorem bkH_X12_tells : bHead (bm_14 135) ∈ bw_G := bw_in (bprog_in 9 _ (List.mem_of_getElem? (i := 61) rfl)) rfl
theorem bkM_X12_tellsOf : bchkM bmeth bmjs 3720 = true := by decide +kernel
theorem bkH_X12_tellsOf : bHead (bm_14 136) ∈ bw_G := bw_in (bprog_in 11 _ (List.mem_of_getElem? (i := 10) rfl)) rfl
theorem bkM_X12_ten : bchkM bmeth bmjs 3721 = true := by decide +kernel
theorem bkH_X12_ten : bHead (bm_14 137) ∈ bw_G := bw_in (bprog_in 9 _ (List.mem_of_getElem? (i := 49) rfl)) rfl
theorem bkM_X12_tens : bchkM bmeth bmjs 3722 = true := by decide +kernel
theorem bkH_X12_tens : bHead (bm_14 138) ∈ bw_G := bw_in (bprog_in 9 _ (List.mem_of_getElem? (i := 46) rfl)) rfl
theorem bkM_X12_times : bchkM bmeth bmjs 3723 = true := by decide +kernel
theorem bkH_X12_times : bHead (bm_14 139) ∈ bw_G := bw_in (bprog_in 9 _ (List.mem_of_getElem? (i := 144) rfl)) rfl
theorem bkM_X12_told : bchkM bmeth bmjs 3724 = true := by decide +kernel
theorem bkH_X12_told : bHead (bm_14 140) ∈ bw_G := bw_in (bprog_in 10 _ (List.mem_of_getElem? (i := 214) rfl)) rfl
theorem bkM_X12_trims : bchkM bmeth bmjs 3725 = true := by decide +kernel
theorem bkH_X12_trims : bHead (bm_14 141) ∈ bw_G := bw_in (bprog_in 9 _ (List.mem_of_getElem? (i := 30) rfl)) rfl
theorem bkM_X12_turned : bchkM bmeth bmjs 3726 = true := by decide +kernel
theorem bkH_X12_turned : bHead (bm_14 142) ∈ bw_G := bw_in (bprog_in 10 _ (List.mem_of_getElem? (i := 11) rfl)) rfl
theorem bkM_X12_turns : bchkM bmeth bmjs 3727 = true := by decide +kernel
theorem bkH_X12_turns : bHead (bm_14 143) ∈ bw_G := bw_in (bprog_in 9 _ (List.mem_of_getElem? (i := 70) rfl)) rfl
theorem bkM_X12_type : bchkM bmeth bmjs 3728 = true := by decide +kernel
theorem bkH_X12_type : bHead (bm_14 144) ∈ bw_G := bw_in (bprog_in 8 _ (List.mem_of_getElem? (i := 228) rfl)) rfl
theorem bkM_X12_undo : bchkM bmeth bmjs 3729 = true := by decide +kernel
theorem bkH_X12_undo : bHead (bm_14 145) ∈ bw_G := bw_in (bprog_in 9 _ (List.mem_of_getElem? (i := 0) rfl)) rfl
theorem bkM_X12_unit : bchkM bmeth bmjs 3730 = true := by decide +kernel
theorem bkH_X12_unit : bHead (bm_14 146) ∈ bw_G := bw_in (bprog_in 9 _ (List.mem_of_getElem? (i := 119) rfl)) rfl
theorem bkM_X12_unsigned : bchkM bmeth bmjs 3731 = true := by decide +kernel
theorem bkH_X12_unsigned : bHead (bm_14 147) ∈ bw_G := bw_in (bprog_in 10 _ (List.mem_of_getElem? (i := 117) rfl)) rfl
theorem bkM_X12_value : bchkM bmeth bmjs 3732 = true := by decide +kernel
theorem bkH_X12_value : bHead (bm_14 148) ∈ bw_G := bw_in (bprog_in 10 _ (List.mem_of_getElem? (i := 206) rfl)) rfl
theorem bkM_X12_values : bchkM bmeth bmjs 3733 = true := by decide +kernel
theorem bkH_X12_values : bHead (bm_14 149) ∈ bw_G := bw_in (bprog_in 10 _ (List.mem_of_getElem? (i := 222) rfl)) rfl
theorem bkM_X12_whole : bchkM bmeth bmjs 3734 = true := by decide +kernel
theorem bkH_X12_whole : bHead (bm_14 150) ∈ bw_G := bw_in (bprog_in 10 _ (List.mem_of_getElem? (i := 226) rfl)) rfl
theorem bkM_X12_width : bchkM bmeth bmjs 3735 = true := by decide +kernel
theorem bkH_X12_width : bHead (bm_14 151) ∈ bw_G := bw_in (bprog_in 9 _ (List.mem_of_getElem? (i := 192) rfl)) rfl
theorem bkM_X12_writes : bchkM bmeth bmjs 3736 = true := by decide +kernel
theorem bkH_X12_writes : bHead (bm_14 152) ∈ bw_G := bw_in (bprog_in 9 _ (List.mem_of_getElem? (i := 179) rfl)) rfl
theorem bkM_X12_zeros : bchkM bmeth bmjs 3737 = true := by decide +kernel
theorem bkH_X12_zeros : bHead (bm_14 153) ∈ bw_G := bw_in (bprog_in 10 _ (List.mem_of_getElem? (i := 238) rfl)) rfl
theorem bkMA_14 : ∀ k, k < 154 → (bmjs (3584 + k)).1 ≠ 0 → bchkM bmeth bmjs (3584 + k) = true ∧ bHead (bm_14 k) ∈ bw_G := by
  intro k hk h0
  match k, hk with
  | 0, _ => exact ⟨bkM_X12_init, bkH_X12_init⟩
  | 1, _ => exact ⟨bkM_X12_acts, bkH_X12_acts⟩
  | 2, _ => exact ⟨bkM_X12_add, bkH_X12_add⟩
  | 3, _ => exact ⟨bkM_X12_adds, bkH_X12_adds⟩
  | 4, _ => exact ⟨bkM_X12_again, bkH_X12_again⟩
  | 5, _ => exact ⟨bkM_X12_apply, bkH_X12_apply⟩
  | 6, _ => exact ⟨bkM_X12_arcs, bkH_X12_arcs⟩
  | 7, _ => exact ⟨bkM_X12_area, bkH_X12_area⟩
  | 8, _ => exact ⟨bkM_X12_areas, bkH_X12_areas⟩
  | 9, _ => exact ⟨bkM_X12_becomes, bkH_X12_becomes⟩
  | 10, _ => exact ⟨bkM_X12_bounds, bkH_X12_bounds⟩
  | 11, _ => exact ⟨bkM_X12_canBe0, bkH_X12_canBe0⟩
  | 12, _ => exact ⟨bkM_X12_canCut, bkH_X12_canCut⟩
  | 13, _ => exact ⟨bkM_X12_checksum, bkH_X12_checksum⟩
  | 14, _ => exact ⟨bkM_X12_compare, bkH_X12_compare⟩
  | 15, _ => exact ⟨bkM_X12_compares, bkH_X12_compares⟩
  | 16, _ => exact ⟨bkM_X12_constant, bkH_X12_constant⟩
  | 17, _ => exact ⟨bkM_X12_copies, bkH_X12_copies⟩
  | 18, _ => exact ⟨bkM_X12_crossed, bkH_X12_crossed⟩
  | 19, _ => exact ⟨bkM_X12_cutsInto, bkH_X12_cutsInto⟩
  | 20, _ => exact ⟨bkM_X12_decide, bkH_X12_decide⟩
  | 21, _ => exact ⟨bkM_X12_deep, bkH_X12_deep⟩
  | 22, _ => exact ⟨bkM_X12_define, bkH_X12_define⟩
  | 23, _ => exact ⟨bkM_X12_difference, bkH_X12_difference⟩
  | 24, _ => exact ⟨bkM_X12_digits, bkH_X12_digits⟩
  | 25, _ => exact ⟨bkM_X12_divide, bkH_X12_divide⟩
  | 26, _ => exact ⟨bkM_X12_divides, bkH_X12_divides⟩
  | 27, _ => exact ⟨bkM_X12_ends, bkH_X12_ends⟩
  | 28, _ => exact ⟨bkM_X12_erase, bkH_X12_erase⟩
  | 29, _ => exact ⟨bkM_X12_extreme, bkH_X12_extreme⟩
  | 30, _ => exact ⟨bkM_X12_fails, bkH_X12_fails⟩
  | 31, _ => exact ⟨bkM_X12_faults, bkH_X12_faults⟩
  | 32, _ => exact ⟨bkM_X12_four, bkH_X12_four⟩
  | 33, _ => exact ⟨bkM_X12_greatest, bkH_X12_greatest⟩
  | 34, _ => exact ⟨bkM_X12_half, bkH_X12_half⟩
  | 35, _ => exact ⟨bkM_X12_hasY, bkH_X12_hasY⟩
  | 36, _ => exact ⟨bkM_X12_hasYOf, bkH_X12_hasYOf⟩
  | 37, _ => exact ⟨bkM_X12_held, bkH_X12_held⟩
  | 38, _ => exact ⟨bkM_X12_high_, bkH_X12_high_⟩
  | 39, _ => exact ⟨bkM_X12_high, bkH_X12_high⟩
  | 40, _ => exact ⟨bkM_X12_holds0, bkH_X12_holds0⟩
  | 41, _ => exact ⟨bkM_X12_holdsNothing, bkH_X12_holdsNothing⟩
  | 42, _ => exact ⟨bkM_X12_in, bkH_X12_in⟩
  | 43, _ => exact ⟨bkM_X12_isAbove0, bkH_X12_isAbove0⟩
  | 44, _ => exact ⟨bkM_X12_isBelow, bkH_X12_isBelow⟩
  | 45, _ => exact ⟨bkM_X12_isBelow0, bkH_X12_isBelow0⟩
  | 46, _ => exact ⟨bkM_X12_isDigit, bkH_X12_isDigit⟩
  | 47, _ => exact ⟨bkM_X12_isFormula, bkH_X12_isFormula⟩
  | 48, _ => exact ⟨bkM_X12_isLess, bkH_X12_isLess⟩
  | 49, _ => exact ⟨bkM_X12_isShelf, bkH_X12_isShelf⟩
  | 50, _ => exact ⟨bkM_X12_isSingle, bkH_X12_isSingle⟩
  | 51, _ => exact ⟨bkM_X12_isSound, bkH_X12_isSound⟩
  | 52, _ => exact ⟨bkM_X12_isTooGreat, bkH_X12_isTooGreat⟩
  | 53, _ => exact ⟨bkM_X12_isWithin, bkH_X12_isWithin⟩
  | 54, _ => exact ⟨bkM_X12_isWithinOf, bkH_X12_isWithinOf⟩
  | 55, _ => exact ⟨bkM_X12_join, bkH_X12_join⟩
  | 56, _ => exact ⟨bkM_X12_joins, bkH_X12_joins⟩
  | 57, _ => exact ⟨bkM_X12_known, bkH_X12_known⟩
  | 58, _ => exact ⟨bkM_X12_least, bkH_X12_least⟩
  | 59, _ => exact ⟨bkM_X12_less, bkH_X12_less⟩
  | 60, _ => exact ⟨bkM_X12_lets, bkH_X12_lets⟩
  | 61, _ => exact ⟨bkM_X12_lifted, bkH_X12_lifted⟩
  | 62, _ => exact ⟨bkM_X12_limb, bkH_X12_limb⟩
  | 63, _ => exact ⟨bkM_X12_logs, bkH_X12_logs⟩
  | 64, _ => exact ⟨bkM_X12_looks, bkH_X12_looks⟩
  | 65, _ => exact ⟨bkM_X12_low_, bkH_X12_low_⟩
  | 66, _ => exact ⟨bkM_X12_low, bkH_X12_low⟩
  | 67, _ => exact ⟨bkM_X12_made, bkH_X12_made⟩
  | 68, _ => exact ⟨bkM_X12_makes, bkH_X12_makes⟩
  | 69, _ => exact ⟨bkM_X12_makes_, bkH_X12_makes_⟩
  | 70, _ => exact ⟨bkM_X12_meet, bkH_X12_meet⟩
  | 71, _ => exact ⟨bkM_X12_middle, bkH_X12_middle⟩
  | 72, _ => exact ⟨bkM_X12_modulo, bkH_X12_modulo⟩
  | 73, _ => exact ⟨bkM_X12_move, bkH_X12_move⟩
  | 74, _ => exact ⟨bkM_X12_moves, bkH_X12_moves⟩
  | 75, _ => exact ⟨bkM_X12_multiply, bkH_X12_multiply⟩
  | 76, _ => exact ⟨bkM_X12_narrow, bkH_X12_narrow⟩
  | 77, _ => exact ⟨bkM_X12_needsBase, bkH_X12_needsBase⟩
  | 78, _ => exact ⟨bkM_X12_needsLog, bkH_X12_needsLog⟩
  | 79, _ => exact ⟨bkM_X12_needsPi, bkH_X12_needsPi⟩
  | 80, _ => exact ⟨bkM_X12_negative, bkH_X12_negative⟩
  | 81, _ => exact ⟨bkM_X12_noBounds, bkH_X12_noBounds⟩
  | 82, _ => exact ⟨bkM_X12_noBox, bkH_X12_noBox⟩
  | 83, _ => exact ⟨bkM_X12_noLook, bkH_X12_noLook⟩
  | 84, _ => exact ⟨bkM_X12_noPair, bkH_X12_noPair⟩
  | 85, _ => exact ⟨bkM_X12_number, bkH_X12_number⟩
  | 86, _ => exact ⟨bkM_X12_odds, bkH_X12_odds⟩
  | 87, _ => exact ⟨bkM_X12_order, bkH_X12_order⟩
  | 88, _ => exact ⟨bkM_X12_outward, bkH_X12_outward⟩
  | 89, _ => exact ⟨bkM_X12_pair, bkH_X12_pair⟩
  | 90, _ => exact ⟨bkM_X12_pairs, bkH_X12_pairs⟩
  | 91, _ => exact ⟨bkM_X12_part, bkH_X12_part⟩
  | 92, _ => exact ⟨bkM_X12_parts, bkH_X12_parts⟩
  | 93, _ => exact ⟨bkM_X12_piece, bkH_X12_piece⟩
  | 94, _ => exact ⟨bkM_X12_pieceKind, bkH_X12_pieceKind⟩
  | 95, _ => exact ⟨bkM_X12_plus, bkH_X12_plus⟩
  | 96, _ => exact ⟨bkM_X12_power, bkH_X12_power⟩
  | 97, _ => exact ⟨bkM_X12_powers, bkH_X12_powers⟩
  | 98, _ => exact ⟨bkM_X12_product, bkH_X12_product⟩
  | 99, _ => exact ⟨bkM_X12_put, bkH_X12_put⟩
  | 100, _ => exact ⟨bkM_X12_quotient, bkH_X12_quotient⟩
  | 101, _ => exact ⟨bkM_X12_raises, bkH_X12_raises⟩
  | 102, _ => exact ⟨bkM_X12_read, bkH_X12_read⟩
  | 103, _ => exact ⟨bkM_X12_readAtom, bkH_X12_readAtom⟩
  | 104, _ => exact ⟨bkM_X12_readNumber, bkH_X12_readNumber⟩
  | 105, _ => exact ⟨bkM_X12_readPower, bkH_X12_readPower⟩
  | 106, _ => exact ⟨bkM_X12_readProduct, bkH_X12_readProduct⟩
  | 107, _ => exact ⟨bkM_X12_readSum, bkH_X12_readSum⟩
  | 108, _ => exact ⟨bkM_X12_rises, bkH_X12_rises⟩
  | 109, _ => exact ⟨bkM_X12_rising, bkH_X12_rising⟩
  | 110, _ => exact ⟨bkM_X12_root, bkH_X12_root⟩
  | 111, _ => exact ⟨bkM_X12_rooted, bkH_X12_rooted⟩
  | 112, _ => exact ⟨bkM_X12_roots, bkH_X12_roots⟩
  | 113, _ => exact ⟨bkM_X12_rounds, bkH_X12_rounds⟩
  | 114, _ => exact ⟨bkM_X12_scaleOf, bkH_X12_scaleOf⟩
  | 115, _ => exact ⟨bkM_X12_scales, bkH_X12_scales⟩
  | 116, _ => exact ⟨bkM_X12_series, bkH_X12_series⟩
  | 117, _ => exact ⟨bkM_X12_setDigits, bkH_X12_setDigits⟩
  | 118, _ => exact ⟨bkM_X12_sets, bkH_X12_sets⟩
  | 119, _ => exact ⟨bkM_X12_shifts, bkH_X12_shifts⟩
  | 120, _ => exact ⟨bkM_X12_sign, bkH_X12_sign⟩
  | 121, _ => exact ⟨bkM_X12_signAt, bkH_X12_signAt⟩
  | 122, _ => exact ⟨bkM_X12_signOf, bkH_X12_signOf⟩
  | 123, _ => exact ⟨bkM_X12_single, bkH_X12_single⟩
  | 124, _ => exact ⟨bkM_X12_size, bkH_X12_size⟩
  | 125, _ => exact ⟨bkM_X12_slope, bkH_X12_slope⟩
  | 126, _ => exact ⟨bkM_X12_slopes, bkH_X12_slopes⟩
  | 127, _ => exact ⟨bkM_X12_solve, bkH_X12_solve⟩
  | 128, _ => exact ⟨bkM_X12_spans, bkH_X12_spans⟩
  | 129, _ => exact ⟨bkM_X12_spelledInto, bkH_X12_spelledInto⟩
  | 130, _ => exact ⟨bkM_X12_spells, bkH_X12_spells⟩
  | 131, _ => exact ⟨bkM_X12_subtract, bkH_X12_subtract⟩
  | 132, _ => exact ⟨bkM_X12_sum, bkH_X12_sum⟩
  | 133, _ => exact ⟨bkM_X12_sure, bkH_X12_sure⟩
  | 134, _ => exact ⟨bkM_X12_takes, bkH_X12_takes⟩
  | 135, _ => exact ⟨bkM_X12_tells, bkH_X12_tells⟩
  | 136, _ => exact ⟨bkM_X12_tellsOf, bkH_X12_tellsOf⟩
  | 137, _ => exact ⟨bkM_X12_ten, bkH_X12_ten⟩
  | 138, _ => exact ⟨bkM_X12_tens, bkH_X12_tens⟩
  | 139, _ => exact ⟨bkM_X12_times, bkH_X12_times⟩
  | 140, _ => exact ⟨bkM_X12_told, bkH_X12_told⟩
  | 141, _ => exact ⟨bkM_X12_trims, bkH_X12_trims⟩
  | 142, _ => exact ⟨bkM_X12_turned, bkH_X12_turned⟩
  | 143, _ => exact ⟨bkM_X12_turns, bkH_X12_turns⟩
  | 144, _ => exact ⟨bkM_X12_type, bkH_X12_type⟩
  | 145, _ => exact ⟨bkM_X12_undo, bkH_X12_undo⟩
  | 146, _ => exact ⟨bkM_X12_unit, bkH_X12_unit⟩
  | 147, _ => exact ⟨bkM_X12_unsigned, bkH_X12_unsigned⟩
  | 148, _ => exact ⟨bkM_X12_value, bkH_X12_value⟩
  | 149, _ => exact ⟨bkM_X12_values, bkH_X12_values⟩
  | 150, _ => exact ⟨bkM_X12_whole, bkH_X12_whole⟩
  | 151, _ => exact ⟨bkM_X12_width, bkH_X12_width⟩
  | 152, _ => exact ⟨bkM_X12_writes, bkH_X12_writes⟩
  | 153, _ => exact ⟨bkM_X12_zeros, bkH_X12_zeros⟩
  | k + 154, h => omega
noncomputable def bm_15 (k : Nat) : bM := bmc_15.getD k bnoM
theorem bkD_L_add : bchk3 (bm_15 0) bk_L_add = true := by decide +kernel
theorem bkD_L_apply : bchk3 (bm_15 1) bk_L_apply = true := by decide +kernel
theorem bkD_L_area : bchk3 (bm_15 2) bk_L_area = true := by decide +kernel
theorem bkD_L_compare : bchk3 (bm_15 3) bk_L_compare = true := by decide +kernel
theorem bkD_L_constant : bchk3 (bm_15 4) bk_L_constant = true := by decide +kernel
theorem bkD_L_decide : bchk3 (bm_15 5) bk_L_decide = true := by decide +kernel
