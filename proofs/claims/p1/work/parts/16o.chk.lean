/-! The checks, go on. -/
theorem bkM_X12_readAtom : bchkM bmeth bmjs 3687 = true := by decide +kernel
theorem bkH_X12_readAtom : bHead (bm_14 103) ∈ bw_G := bw_in (bprog_in 10 _ (List.mem_of_getElem? (i := 182) rfl)) rfl
theorem bkM_X12_readPower : bchkM bmeth bmjs 3689 = true := by decide +kernel
theorem bkH_X12_readPower : bHead (bm_14 105) ∈ bw_G := bw_in (bprog_in 10 _ (List.mem_of_getElem? (i := 178) rfl)) rfl
theorem bkM_X12_readProduct : bchkM bmeth bmjs 3690 = true := by decide +kernel
theorem bkH_X12_readProduct : bHead (bm_14 106) ∈ bw_G := bw_in (bprog_in 10 _ (List.mem_of_getElem? (i := 174) rfl)) rfl
theorem bkM_X12_readSum : bchkM bmeth bmjs 3691 = true := by decide +kernel
theorem bkH_X12_readSum : bHead (bm_14 107) ∈ bw_G := bw_in (bprog_in 10 _ (List.mem_of_getElem? (i := 170) rfl)) rfl
theorem bkM_X12_root : bchkM bmeth bmjs 3694 = true := by decide +kernel
theorem bkH_X12_root : bHead (bm_14 110) ∈ bw_G := bw_in (bprog_in 10 _ (List.mem_of_getElem? (i := 96) rfl)) rfl
theorem bkM_X12_scaleOf : bchkM bmeth bmjs 3698 = true := by decide +kernel
theorem bkH_X12_scaleOf : bHead (bm_14 114) ∈ bw_G := bw_in (bprog_in 9 _ (List.mem_of_getElem? (i := 99) rfl)) rfl
theorem bkM_X12_scales : bchkM bmeth bmjs 3699 = true := by decide +kernel
theorem bkH_X12_scales : bHead (bm_14 115) ∈ bw_G := bw_in (bprog_in 9 _ (List.mem_of_getElem? (i := 57) rfl)) rfl
theorem bkM_X12_series : bchkM bmeth bmjs 3700 = true := by decide +kernel
theorem bkH_X12_series : bHead (bm_14 116) ∈ bw_G := bw_in (bprog_in 9 _ (List.mem_of_getElem? (i := 144) rfl)) rfl
theorem bkM_X12_setDigits : bchkM bmeth bmjs 3701 = true := by decide +kernel
theorem bkH_X12_setDigits : bHead (bm_14 117) ∈ bw_G := bw_in (bprog_in 8 _ (List.mem_of_getElem? (i := 216) rfl)) rfl
theorem bkM_X12_sets : bchkM bmeth bmjs 3702 = true := by decide +kernel
theorem bkH_X12_sets : bHead (bm_14 118) ∈ bw_G := bw_in (bprog_in 9 _ (List.mem_of_getElem? (i := 26) rfl)) rfl
theorem bkM_X12_shifts : bchkM bmeth bmjs 3703 = true := by decide +kernel
theorem bkH_X12_shifts : bHead (bm_14 119) ∈ bw_G := bw_in (bprog_in 9 _ (List.mem_of_getElem? (i := 127) rfl)) rfl
theorem bkM_X12_sign : bchkM bmeth bmjs 3704 = true := by decide +kernel
theorem bkH_X12_sign : bHead (bm_14 120) ∈ bw_G := bw_in (bprog_in 10 _ (List.mem_of_getElem? (i := 186) rfl)) rfl
theorem bkM_X12_signAt : bchkM bmeth bmjs 3705 = true := by decide +kernel
theorem bkH_X12_signAt : bHead (bm_14 121) ∈ bw_G := bw_in (bprog_in 9 _ (List.mem_of_getElem? (i := 0) rfl)) rfl
theorem bkM_X12_slope : bchkM bmeth bmjs 3709 = true := by decide +kernel
theorem bkH_X12_slope : bHead (bm_14 125) ∈ bw_G := bw_in (bprog_in 10 _ (List.mem_of_getElem? (i := 234) rfl)) rfl
theorem bkM_X12_solve : bchkM bmeth bmjs 3711 = true := by decide +kernel
theorem bkH_X12_solve : bHead (bm_14 127) ∈ bw_G := bw_in (bprog_in 10 _ (List.mem_of_getElem? (i := 155) rfl)) rfl
theorem bkM_X12_subtract : bchkM bmeth bmjs 3715 = true := by decide +kernel
theorem bkH_X12_subtract : bHead (bm_14 131) ∈ bw_G := bw_in (bprog_in 10 _ (List.mem_of_getElem? (i := 60) rfl)) rfl
theorem bkM_X12_sure : bchkM bmeth bmjs 3717 = true := by decide +kernel
theorem bkH_X12_sure : bHead (bm_14 133) ∈ bw_G := bw_in (bprog_in 9 _ (List.mem_of_getElem? (i := 220) rfl)) rfl
theorem bkM_X12_takes : bchkM bmeth bmjs 3718 = true := by decide +kernel
theorem bkH_X12_takes : bHead (bm_14 134) ∈ bw_G := bw_in (bprog_in 9 _ (List.mem_of_getElem? (i := 87) rfl)) rfl
theorem bkM_X12_tells : bchkM bmeth bmjs 3719 = true := by decide +kernel
theorem bkH_X12_tells : bHead (bm_14 135) ∈ bw_G := bw_in (bprog_in 9 _ (List.mem_of_getElem? (i := 65) rfl)) rfl
theorem bkM_X12_ten : bchkM bmeth bmjs 3721 = true := by decide +kernel
theorem bkH_X12_ten : bHead (bm_14 137) ∈ bw_G := bw_in (bprog_in 9 _ (List.mem_of_getElem? (i := 53) rfl)) rfl
theorem bkM_X12_tens : bchkM bmeth bmjs 3722 = true := by decide +kernel
theorem bkH_X12_tens : bHead (bm_14 138) ∈ bw_G := bw_in (bprog_in 9 _ (List.mem_of_getElem? (i := 50) rfl)) rfl
theorem bkM_X12_thrown : bchkM bmeth bmjs 3723 = true := by decide +kernel
theorem bkH_X12_thrown : bHead (bm_14 139) ∈ bw_G := bw_in (bprog_in 8 _ (List.mem_of_getElem? (i := 212) rfl)) rfl
theorem bkM_X12_times : bchkM bmeth bmjs 3724 = true := by decide +kernel
theorem bkH_X12_times : bHead (bm_14 140) ∈ bw_G := bw_in (bprog_in 9 _ (List.mem_of_getElem? (i := 148) rfl)) rfl
theorem bkM_X12_trims : bchkM bmeth bmjs 3726 = true := by decide +kernel
theorem bkH_X12_trims : bHead (bm_14 142) ∈ bw_G := bw_in (bprog_in 9 _ (List.mem_of_getElem? (i := 34) rfl)) rfl
theorem bkM_X12_turns : bchkM bmeth bmjs 3728 = true := by decide +kernel
theorem bkH_X12_turns : bHead (bm_14 144) ∈ bw_G := bw_in (bprog_in 9 _ (List.mem_of_getElem? (i := 74) rfl)) rfl
theorem bkM_X12_type : bchkM bmeth bmjs 3729 = true := by decide +kernel
theorem bkH_X12_type : bHead (bm_14 145) ∈ bw_G := bw_in (bprog_in 8 _ (List.mem_of_getElem? (i := 232) rfl)) rfl
theorem bkM_X12_undo : bchkM bmeth bmjs 3730 = true := by decide +kernel
theorem bkH_X12_undo : bHead (bm_14 146) ∈ bw_G := bw_in (bprog_in 9 _ (List.mem_of_getElem? (i := 4) rfl)) rfl
theorem bkM_X12_unit : bchkM bmeth bmjs 3731 = true := by decide +kernel
theorem bkH_X12_unit : bHead (bm_14 147) ∈ bw_G := bw_in (bprog_in 9 _ (List.mem_of_getElem? (i := 123) rfl)) rfl
theorem bkM_X12_value : bchkM bmeth bmjs 3733 = true := by decide +kernel
theorem bkH_X12_value : bHead (bm_14 149) ∈ bw_G := bw_in (bprog_in 10 _ (List.mem_of_getElem? (i := 210) rfl)) rfl
theorem bkM_X12_width : bchkM bmeth bmjs 3736 = true := by decide +kernel
theorem bkH_X12_width : bHead (bm_14 152) ∈ bw_G := bw_in (bprog_in 9 _ (List.mem_of_getElem? (i := 196) rfl)) rfl
theorem bkM_X12_zeros : bchkM bmeth bmjs 3738 = true := by decide +kernel
theorem bkH_X12_zeros : bHead (bm_14 154) ∈ bw_G := bw_in (bprog_in 11 _ (List.mem_of_getElem? (i := 2) rfl)) rfl
theorem bkMA_14 : ∀ k, k < 155 → (bmjs (3584 + k)).1 ≠ 0 → bchkM bmeth bmjs (3584 + k) = true ∧ bHead (bm_14 k) ∈ bw_G := by
  intro k hk h0
  match k, hk with
  | 0, _ => exact ⟨bkM_X12_init, bkH_X12_init⟩
  | 1, _ => exact absurd (by decide +kernel) h0
  | 2, _ => exact ⟨bkM_X12_add, bkH_X12_add⟩
  | 3, _ => exact absurd (by decide +kernel) h0
  | 4, _ => exact absurd (by decide +kernel) h0
  | 5, _ => exact ⟨bkM_X12_apply, bkH_X12_apply⟩
  | 6, _ => exact absurd (by decide +kernel) h0
  | 7, _ => exact ⟨bkM_X12_area, bkH_X12_area⟩
  | 8, _ => exact absurd (by decide +kernel) h0
  | 9, _ => exact ⟨bkM_X12_becomes, bkH_X12_becomes⟩
  | 10, _ => exact ⟨bkM_X12_bounds, bkH_X12_bounds⟩
  | 11, _ => exact absurd (by decide +kernel) h0
  | 12, _ => exact absurd (by decide +kernel) h0
  | 13, _ => exact ⟨bkM_X12_checksum, bkH_X12_checksum⟩
  | 14, _ => exact ⟨bkM_X12_compare, bkH_X12_compare⟩
  | 15, _ => exact absurd (by decide +kernel) h0
  | 16, _ => exact ⟨bkM_X12_constant, bkH_X12_constant⟩
  | 17, _ => exact ⟨bkM_X12_copies, bkH_X12_copies⟩
  | 18, _ => exact absurd (by decide +kernel) h0
  | 19, _ => exact absurd (by decide +kernel) h0
  | 20, _ => exact ⟨bkM_X12_decide, bkH_X12_decide⟩
  | 21, _ => exact ⟨bkM_X12_deep, bkH_X12_deep⟩
  | 22, _ => exact ⟨bkM_X12_define, bkH_X12_define⟩
  | 23, _ => exact absurd (by decide +kernel) h0
  | 24, _ => exact ⟨bkM_X12_digits, bkH_X12_digits⟩
  | 25, _ => exact ⟨bkM_X12_divide, bkH_X12_divide⟩
  | 26, _ => exact absurd (by decide +kernel) h0
  | 27, _ => exact absurd (by decide +kernel) h0
  | 28, _ => exact ⟨bkM_X12_erase, bkH_X12_erase⟩
  | 29, _ => exact absurd (by decide +kernel) h0
  | 30, _ => exact ⟨bkM_X12_fails, bkH_X12_fails⟩
  | 31, _ => exact ⟨bkM_X12_faults, bkH_X12_faults⟩
  | 32, _ => exact absurd (by decide +kernel) h0
  | 33, _ => exact ⟨bkM_X12_greatest, bkH_X12_greatest⟩
  | 34, _ => exact absurd (by decide +kernel) h0
  | 35, _ => exact ⟨bkM_X12_hasY, bkH_X12_hasY⟩
  | 36, _ => exact absurd (by decide +kernel) h0
  | 37, _ => exact ⟨bkM_X12_held, bkH_X12_held⟩
  | 38, _ => exact ⟨bkM_X12_high_, bkH_X12_high_⟩
  | 39, _ => exact ⟨bkM_X12_high, bkH_X12_high⟩
  | 40, _ => exact absurd (by decide +kernel) h0
  | 41, _ => exact absurd (by decide +kernel) h0
  | 42, _ => exact ⟨bkM_X12_in, bkH_X12_in⟩
  | 43, _ => exact absurd (by decide +kernel) h0
  | 44, _ => exact absurd (by decide +kernel) h0
  | 45, _ => exact absurd (by decide +kernel) h0
  | 46, _ => exact ⟨bkM_X12_isDigit, bkH_X12_isDigit⟩
  | 47, _ => exact ⟨bkM_X12_isFormula, bkH_X12_isFormula⟩
  | 48, _ => exact absurd (by decide +kernel) h0
  | 49, _ => exact ⟨bkM_X12_isShelf, bkH_X12_isShelf⟩
  | 50, _ => exact ⟨bkM_X12_isSingle, bkH_X12_isSingle⟩
  | 51, _ => exact ⟨bkM_X12_isSound, bkH_X12_isSound⟩
  | 52, _ => exact ⟨bkM_X12_isTooGreat, bkH_X12_isTooGreat⟩
  | 53, _ => exact ⟨bkM_X12_isWithin, bkH_X12_isWithin⟩
  | 54, _ => exact absurd (by decide +kernel) h0
  | 55, _ => exact ⟨bkM_X12_join, bkH_X12_join⟩
  | 56, _ => exact absurd (by decide +kernel) h0
  | 57, _ => exact ⟨bkM_X12_known, bkH_X12_known⟩
  | 58, _ => exact ⟨bkM_X12_least, bkH_X12_least⟩
  | 59, _ => exact ⟨bkM_X12_less, bkH_X12_less⟩
  | 60, _ => exact ⟨bkM_X12_lets, bkH_X12_lets⟩
  | 61, _ => exact absurd (by decide +kernel) h0
  | 62, _ => exact ⟨bkM_X12_limb, bkH_X12_limb⟩
  | 63, _ => exact absurd (by decide +kernel) h0
  | 64, _ => exact absurd (by decide +kernel) h0
  | 65, _ => exact ⟨bkM_X12_low_, bkH_X12_low_⟩
  | 66, _ => exact ⟨bkM_X12_low, bkH_X12_low⟩
  | 67, _ => exact absurd (by decide +kernel) h0
  | 68, _ => exact absurd (by decide +kernel) h0
  | 69, _ => exact ⟨bkM_X12_makes_, bkH_X12_makes_⟩
  | 70, _ => exact ⟨bkM_X12_meet, bkH_X12_meet⟩
  | 71, _ => exact absurd (by decide +kernel) h0
  | 72, _ => exact absurd (by decide +kernel) h0
  | 73, _ => exact ⟨bkM_X12_move, bkH_X12_move⟩
  | 74, _ => exact absurd (by decide +kernel) h0
  | 75, _ => exact ⟨bkM_X12_multiply, bkH_X12_multiply⟩
  | 76, _ => exact ⟨bkM_X12_narrow, bkH_X12_narrow⟩
  | 77, _ => exact ⟨bkM_X12_needsBase, bkH_X12_needsBase⟩
  | 78, _ => exact absurd (by decide +kernel) h0
  | 79, _ => exact ⟨bkM_X12_needsPi, bkH_X12_needsPi⟩
  | 80, _ => exact absurd (by decide +kernel) h0
  | 81, _ => exact ⟨bkM_X12_noBounds, bkH_X12_noBounds⟩
  | 82, _ => exact ⟨bkM_X12_noBox, bkH_X12_noBox⟩
  | 83, _ => exact ⟨bkM_X12_noLook, bkH_X12_noLook⟩
  | 84, _ => exact ⟨bkM_X12_noPair, bkH_X12_noPair⟩
  | 85, _ => exact ⟨bkM_X12_number, bkH_X12_number⟩
  | 86, _ => exact ⟨bkM_X12_odds, bkH_X12_odds⟩
  | 87, _ => exact absurd (by decide +kernel) h0
  | 88, _ => exact absurd (by decide +kernel) h0
  | 89, _ => exact absurd (by decide +kernel) h0
  | 90, _ => exact ⟨bkM_X12_pairs, bkH_X12_pairs⟩
  | 91, _ => exact absurd (by decide +kernel) h0
  | 92, _ => exact ⟨bkM_X12_parts, bkH_X12_parts⟩
  | 93, _ => exact ⟨bkM_X12_piece, bkH_X12_piece⟩
  | 94, _ => exact ⟨bkM_X12_pieceKind, bkH_X12_pieceKind⟩
  | 95, _ => exact ⟨bkM_X12_plus, bkH_X12_plus⟩
  | 96, _ => exact ⟨bkM_X12_power, bkH_X12_power⟩
  | 97, _ => exact absurd (by decide +kernel) h0
  | 98, _ => exact absurd (by decide +kernel) h0
  | 99, _ => exact ⟨bkM_X12_put, bkH_X12_put⟩
  | 100, _ => exact absurd (by decide +kernel) h0
  | 101, _ => exact absurd (by decide +kernel) h0
  | 102, _ => exact ⟨bkM_X12_read, bkH_X12_read⟩
  | 103, _ => exact ⟨bkM_X12_readAtom, bkH_X12_readAtom⟩
  | 104, _ => exact absurd (by decide +kernel) h0
  | 105, _ => exact ⟨bkM_X12_readPower, bkH_X12_readPower⟩
  | 106, _ => exact ⟨bkM_X12_readProduct, bkH_X12_readProduct⟩
  | 107, _ => exact ⟨bkM_X12_readSum, bkH_X12_readSum⟩
  | 108, _ => exact absurd (by decide +kernel) h0
  | 109, _ => exact absurd (by decide +kernel) h0
  | 110, _ => exact ⟨bkM_X12_root, bkH_X12_root⟩
  | 111, _ => exact absurd (by decide +kernel) h0
  | 112, _ => exact absurd (by decide +kernel) h0
  | 113, _ => exact absurd (by decide +kernel) h0
  | 114, _ => exact ⟨bkM_X12_scaleOf, bkH_X12_scaleOf⟩
  | 115, _ => exact ⟨bkM_X12_scales, bkH_X12_scales⟩
  | 116, _ => exact ⟨bkM_X12_series, bkH_X12_series⟩
  | 117, _ => exact ⟨bkM_X12_setDigits, bkH_X12_setDigits⟩
  | 118, _ => exact ⟨bkM_X12_sets, bkH_X12_sets⟩
  | 119, _ => exact ⟨bkM_X12_shifts, bkH_X12_shifts⟩
  | 120, _ => exact ⟨bkM_X12_sign, bkH_X12_sign⟩
  | 121, _ => exact ⟨bkM_X12_signAt, bkH_X12_signAt⟩
  | 122, _ => exact absurd (by decide +kernel) h0
  | 123, _ => exact absurd (by decide +kernel) h0
  | 124, _ => exact absurd (by decide +kernel) h0
  | 125, _ => exact ⟨bkM_X12_slope, bkH_X12_slope⟩
  | 126, _ => exact absurd (by decide +kernel) h0
  | 127, _ => exact ⟨bkM_X12_solve, bkH_X12_solve⟩
  | 128, _ => exact absurd (by decide +kernel) h0
  | 129, _ => exact absurd (by decide +kernel) h0
  | 130, _ => exact absurd (by decide +kernel) h0
  | 131, _ => exact ⟨bkM_X12_subtract, bkH_X12_subtract⟩
  | 132, _ => exact absurd (by decide +kernel) h0
  | 133, _ => exact ⟨bkM_X12_sure, bkH_X12_sure⟩
  | 134, _ => exact ⟨bkM_X12_takes, bkH_X12_takes⟩
  | 135, _ => exact ⟨bkM_X12_tells, bkH_X12_tells⟩
  | 136, _ => exact absurd (by decide +kernel) h0
  | 137, _ => exact ⟨bkM_X12_ten, bkH_X12_ten⟩
  | 138, _ => exact ⟨bkM_X12_tens, bkH_X12_tens⟩
  | 139, _ => exact ⟨bkM_X12_thrown, bkH_X12_thrown⟩
  | 140, _ => exact ⟨bkM_X12_times, bkH_X12_times⟩
  | 141, _ => exact absurd (by decide +kernel) h0
  | 142, _ => exact ⟨bkM_X12_trims, bkH_X12_trims⟩
  | 143, _ => exact absurd (by decide +kernel) h0
  | 144, _ => exact ⟨bkM_X12_turns, bkH_X12_turns⟩
  | 145, _ => exact ⟨bkM_X12_type, bkH_X12_type⟩
  | 146, _ => exact ⟨bkM_X12_undo, bkH_X12_undo⟩
  | 147, _ => exact ⟨bkM_X12_unit, bkH_X12_unit⟩
  | 148, _ => exact absurd (by decide +kernel) h0
  | 149, _ => exact ⟨bkM_X12_value, bkH_X12_value⟩
  | 150, _ => exact absurd (by decide +kernel) h0
  | 151, _ => exact absurd (by decide +kernel) h0
  | 152, _ => exact ⟨bkM_X12_width, bkH_X12_width⟩
  | 153, _ => exact absurd (by decide +kernel) h0
  | 154, _ => exact ⟨bkM_X12_zeros, bkH_X12_zeros⟩
  | k + 155, h => omega
noncomputable def bm_15 (k : Nat) : bM := bmc_15.getD k bnoM
theorem bkD_L_add : bchk3 (bm_15 0) bk_L_add = true := by decide +kernel
theorem bkD_L_apply : bchk3 (bm_15 1) bk_L_apply = true := by decide +kernel
theorem bkD_L_area : bchk3 (bm_15 2) bk_L_area = true := by decide +kernel
theorem bkD_L_compare : bchk3 (bm_15 3) bk_L_compare = true := by decide +kernel
theorem bkD_L_constant : bchk3 (bm_15 4) bk_L_constant = true := by decide +kernel
theorem bkD_L_decide : bchk3 (bm_15 5) bk_L_decide = true := by decide +kernel
theorem bkD_L_define : bchk3 (bm_15 6) bk_L_define = true := by decide +kernel
theorem bkD_L_divide : bchk3 (bm_15 7) bk_L_divide = true := by decide +kernel
