/-! The checks, go on. -/
theorem bkH_X11_type : bHead (bm_13 67) ∈ bw_G := bw_in (bprog_in 5 _ (List.mem_of_getElem? (i := 54) rfl)) rfl
theorem bkM_X11_undo : bchkM bmeth bmjs 3396 = true := by decide +kernel
theorem bkH_X11_undo : bHead (bm_13 68) ∈ bw_G := bw_in (bprog_in 6 _ (List.mem_of_getElem? (i := 79) rfl)) rfl
theorem bkM_X11_unitOf : bchkM bmeth bmjs 3397 = true := by decide +kernel
theorem bkH_X11_unitOf : bHead (bm_13 69) ∈ bw_G := bw_in (bprog_in 2 _ (List.mem_of_getElem? (i := 67) rfl)) rfl
theorem bkM_X11_value : bchkM bmeth bmjs 3398 = true := by decide +kernel
theorem bkH_X11_value : bHead (bm_13 70) ∈ bw_G := bw_in (bprog_in 7 _ (List.mem_of_getElem? (i := 19) rfl)) rfl
theorem bkM_X11_width : bchkM bmeth bmjs 3399 = true := by decide +kernel
theorem bkH_X11_width : bHead (bm_13 71) ∈ bw_G := bw_in (bprog_in 6 _ (List.mem_of_getElem? (i := 41) rfl)) rfl
theorem bkM_X11_zeros : bchkM bmeth bmjs 3400 = true := by decide +kernel
theorem bkH_X11_zeros : bHead (bm_13 72) ∈ bw_G := bw_in (bprog_in 7 _ (List.mem_of_getElem? (i := 140) rfl)) rfl
theorem bkMA_13 : ∀ k, k < 73 → (bmjs (3328 + k)).1 ≠ 0 → bchkM bmeth bmjs (3328 + k) = true ∧ bHead (bm_13 k) ∈ bw_G := by
  intro k hk h0
  match k, hk with
  | 0, _ => exact ⟨bkM_X11_init, bkH_X11_init⟩
  | 1, _ => exact ⟨bkM_X11_add, bkH_X11_add⟩
  | 2, _ => exact ⟨bkM_X11_apply, bkH_X11_apply⟩
  | 3, _ => exact ⟨bkM_X11_area, bkH_X11_area⟩
  | 4, _ => exact ⟨bkM_X11_become, bkH_X11_become⟩
  | 5, _ => exact absurd (by decide +kernel) h0
  | 6, _ => exact ⟨bkM_X11_change, bkH_X11_change⟩
  | 7, _ => exact ⟨bkM_X11_checkBoundsCall, bkH_X11_checkBoundsCall⟩
  | 8, _ => exact ⟨bkM_X11_checkCuts, bkH_X11_checkCuts⟩
  | 9, _ => exact ⟨bkM_X11_checkDefined, bkH_X11_checkDefined⟩
  | 10, _ => exact ⟨bkM_X11_checkFormula, bkH_X11_checkFormula⟩
  | 11, _ => exact ⟨bkM_X11_checkFormulaCall, bkH_X11_checkFormulaCall⟩
  | 12, _ => exact ⟨bkM_X11_checkHeld, bkH_X11_checkHeld⟩
  | 13, _ => exact absurd (by decide +kernel) h0
  | 14, _ => exact ⟨bkM_X11_checkPair, bkH_X11_checkPair⟩
  | 15, _ => exact ⟨bkM_X11_checkPiece, bkH_X11_checkPiece⟩
  | 16, _ => exact ⟨bkM_X11_checkShelf, bkH_X11_checkShelf⟩
  | 17, _ => exact ⟨bkM_X11_checkShelves, bkH_X11_checkShelves⟩
  | 18, _ => exact ⟨bkM_X11_checkStatus, bkH_X11_checkStatus⟩
  | 19, _ => exact ⟨bkM_X11_checksum, bkH_X11_checksum⟩
  | 20, _ => exact ⟨bkM_X11_combine, bkH_X11_combine⟩
  | 21, _ => exact ⟨bkM_X11_compare, bkH_X11_compare⟩
  | 22, _ => exact ⟨bkM_X11_constant, bkH_X11_constant⟩
  | 23, _ => exact absurd (by decide +kernel) h0
  | 24, _ => exact ⟨bkM_X11_decide, bkH_X11_decide⟩
  | 25, _ => exact ⟨bkM_X11_define, bkH_X11_define⟩
  | 26, _ => exact ⟨bkM_X11_digits, bkH_X11_digits⟩
  | 27, _ => exact ⟨bkM_X11_divide, bkH_X11_divide⟩
  | 28, _ => exact ⟨bkM_X11_erase, bkH_X11_erase⟩
  | 29, _ => exact ⟨bkM_X11_fill, bkH_X11_fill⟩
  | 30, _ => exact ⟨bkM_X11_greatest, bkH_X11_greatest⟩
  | 31, _ => exact ⟨bkM_X11_hasY, bkH_X11_hasY⟩
  | 32, _ => exact ⟨bkM_X11_held, bkH_X11_held⟩
  | 33, _ => exact ⟨bkM_X11_high, bkH_X11_high⟩
  | 34, _ => exact ⟨bkM_X11_isConstantSound, bkH_X11_isConstantSound⟩
  | 35, _ => exact ⟨bkM_X11_isSound, bkH_X11_isSound⟩
  | 36, _ => exact absurd (by decide +kernel) h0
  | 37, _ => exact ⟨bkM_X11_isWithin, bkH_X11_isWithin⟩
  | 38, _ => exact ⟨bkM_X11_join, bkH_X11_join⟩
  | 39, _ => exact absurd (by decide +kernel) h0
  | 40, _ => exact absurd (by decide +kernel) h0
  | 41, _ => exact ⟨bkM_X11_least, bkH_X11_least⟩
  | 42, _ => exact ⟨bkM_X11_low, bkH_X11_low⟩
  | 43, _ => exact absurd (by decide +kernel) h0
  | 44, _ => exact absurd (by decide +kernel) h0
  | 45, _ => exact absurd (by decide +kernel) h0
  | 46, _ => exact ⟨bkM_X11_meet, bkH_X11_meet⟩
  | 47, _ => exact ⟨bkM_X11_move, bkH_X11_move⟩
  | 48, _ => exact ⟨bkM_X11_multiply, bkH_X11_multiply⟩
  | 49, _ => exact ⟨bkM_X11_narrow, bkH_X11_narrow⟩
  | 50, _ => exact ⟨bkM_X11_pairs, bkH_X11_pairs⟩
  | 51, _ => exact ⟨bkM_X11_piece, bkH_X11_piece⟩
  | 52, _ => exact ⟨bkM_X11_pieceKind, bkH_X11_pieceKind⟩
  | 53, _ => exact ⟨bkM_X11_power, bkH_X11_power⟩
  | 54, _ => exact ⟨bkM_X11_put, bkH_X11_put⟩
  | 55, _ => exact ⟨bkM_X11_read, bkH_X11_read⟩
  | 56, _ => exact ⟨bkM_X11_root, bkH_X11_root⟩
  | 57, _ => exact absurd (by decide +kernel) h0
  | 58, _ => exact ⟨bkM_X11_setDigits, bkH_X11_setDigits⟩
  | 59, _ => exact absurd (by decide +kernel) h0
  | 60, _ => exact ⟨bkM_X11_signAt, bkH_X11_signAt⟩
  | 61, _ => exact ⟨bkM_X11_slope, bkH_X11_slope⟩
  | 62, _ => exact ⟨bkM_X11_solve, bkH_X11_solve⟩
  | 63, _ => exact ⟨bkM_X11_subtract, bkH_X11_subtract⟩
  | 64, _ => exact absurd (by decide +kernel) h0
  | 65, _ => exact ⟨bkM_X11_sure, bkH_X11_sure⟩
  | 66, _ => exact absurd (by decide +kernel) h0
  | 67, _ => exact ⟨bkM_X11_type, bkH_X11_type⟩
  | 68, _ => exact ⟨bkM_X11_undo, bkH_X11_undo⟩
  | 69, _ => exact ⟨bkM_X11_unitOf, bkH_X11_unitOf⟩
  | 70, _ => exact ⟨bkM_X11_value, bkH_X11_value⟩
  | 71, _ => exact ⟨bkM_X11_width, bkH_X11_width⟩
  | 72, _ => exact ⟨bkM_X11_zeros, bkH_X11_zeros⟩
  | k + 73, h => omega
noncomputable def bm_14 (k : Nat) : bM := bmc_14.getD k bnoM
theorem bkD_X12_init_0 : bchk3 (bm_14 0) bk_X12_init_0 = true := by decide +kernel
theorem bkD_X12_init_1 : bchk3 (bm_14 0) bk_X12_init_1 = true := by decide +kernel
theorem bkD_X12_init_2 : bchk3 (bm_14 0) bk_X12_init_2 = true := by decide +kernel
theorem bkD_X12_init : bchk3 (bm_14 0) bk_X12_init = true := bchk3_app bkD_X12_init_0 (bchk3_app bkD_X12_init_1 (bkD_X12_init_2))
theorem bkD_X12_acts : bchk3 (bm_14 1) bk_X12_acts = true := by decide +kernel
theorem bkD_X12_add : bchk3 (bm_14 2) bk_X12_add = true := by decide +kernel
theorem bkD_X12_adds : bchk3 (bm_14 3) bk_X12_adds = true := by decide +kernel
theorem bkD_X12_again : bchk3 (bm_14 4) bk_X12_again = true := by decide +kernel
theorem bkD_X12_apply_0 : bchk3 (bm_14 5) bk_X12_apply_0 = true := by decide +kernel
theorem bkD_X12_apply_1 : bchk3 (bm_14 5) bk_X12_apply_1 = true := by decide +kernel
theorem bkD_X12_apply : bchk3 (bm_14 5) bk_X12_apply = true := bchk3_app bkD_X12_apply_0 (bkD_X12_apply_1)
theorem bkD_X12_arcs : bchk3 (bm_14 6) bk_X12_arcs = true := by decide +kernel
theorem bkD_X12_area : bchk3 (bm_14 7) bk_X12_area = true := by decide +kernel
theorem bkD_X12_areas : bchk3 (bm_14 8) bk_X12_areas = true := by decide +kernel
theorem bkD_X12_becomes_0 : bchk3 (bm_14 9) bk_X12_becomes_0 = true := by decide +kernel
theorem bkD_X12_becomes_1 : bchk3 (bm_14 9) bk_X12_becomes_1 = true := by decide +kernel
theorem bkD_X12_becomes_2 : bchk3 (bm_14 9) bk_X12_becomes_2 = true := by decide +kernel
theorem bkD_X12_becomes : bchk3 (bm_14 9) bk_X12_becomes = true := bchk3_app bkD_X12_becomes_0 (bchk3_app bkD_X12_becomes_1 (bkD_X12_becomes_2))
theorem bkD_X12_bounds : bchk3 (bm_14 10) bk_X12_bounds = true := by decide +kernel
theorem bkD_X12_canBe0 : bchk3 (bm_14 11) bk_X12_canBe0 = true := by decide +kernel
theorem bkD_X12_canCut : bchk3 (bm_14 12) bk_X12_canCut = true := by decide +kernel
theorem bkD_X12_checksum_0 : bchk3 (bm_14 13) bk_X12_checksum_0 = true := by decide +kernel
theorem bkD_X12_checksum_1 : bchk3 (bm_14 13) bk_X12_checksum_1 = true := by decide +kernel
theorem bkD_X12_checksum : bchk3 (bm_14 13) bk_X12_checksum = true := bchk3_app bkD_X12_checksum_0 (bkD_X12_checksum_1)
theorem bkD_X12_compare_0 : bchk3 (bm_14 14) bk_X12_compare_0 = true := by decide +kernel
theorem bkD_X12_compare_1 : bchk3 (bm_14 14) bk_X12_compare_1 = true := by decide +kernel
theorem bkD_X12_compare : bchk3 (bm_14 14) bk_X12_compare = true := bchk3_app bkD_X12_compare_0 (bkD_X12_compare_1)
theorem bkD_X12_compares : bchk3 (bm_14 15) bk_X12_compares = true := by decide +kernel
theorem bkD_X12_constant : bchk3 (bm_14 16) bk_X12_constant = true := by decide +kernel
theorem bkD_X12_copies : bchk3 (bm_14 17) bk_X12_copies = true := by decide +kernel
theorem bkD_X12_crossed : bchk3 (bm_14 18) bk_X12_crossed = true := by decide +kernel
theorem bkD_X12_cutsInto : bchk3 (bm_14 19) bk_X12_cutsInto = true := by decide +kernel
theorem bkD_X12_decide_0 : bchk3 (bm_14 20) bk_X12_decide_0 = true := by decide +kernel
theorem bkD_X12_decide_1 : bchk3 (bm_14 20) bk_X12_decide_1 = true := by decide +kernel
theorem bkD_X12_decide_2 : bchk3 (bm_14 20) bk_X12_decide_2 = true := by decide +kernel
theorem bkD_X12_decide : bchk3 (bm_14 20) bk_X12_decide = true := bchk3_app bkD_X12_decide_0 (bchk3_app bkD_X12_decide_1 (bkD_X12_decide_2))
theorem bkD_X12_deep : bchk3 (bm_14 21) bk_X12_deep = true := by decide +kernel
theorem bkD_X12_define_0 : bchk3 (bm_14 22) bk_X12_define_0 = true := by decide +kernel
theorem bkD_X12_define_1 : bchk3 (bm_14 22) bk_X12_define_1 = true := by decide +kernel
theorem bkD_X12_define_2 : bchk3 (bm_14 22) bk_X12_define_2 = true := by decide +kernel
theorem bkD_X12_define_3 : bchk3 (bm_14 22) bk_X12_define_3 = true := by decide +kernel
theorem bkD_X12_define : bchk3 (bm_14 22) bk_X12_define = true := bchk3_app bkD_X12_define_0 (bchk3_app bkD_X12_define_1 (bchk3_app bkD_X12_define_2 (bkD_X12_define_3)))
