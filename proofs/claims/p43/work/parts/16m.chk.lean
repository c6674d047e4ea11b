/-! The checks, go on. -/
theorem bkH_X11_judge : bHead (bm_13 39) ∈ bw_G := bw_in (bprog_in 7 _ (List.mem_of_getElem? (i := 182) rfl)) rfl
theorem bkM_X11_kindByEnds : bchkM bmeth bmjs 3368 = true := by decide +kernel
theorem bkH_X11_kindByEnds : bHead (bm_13 40) ∈ bw_G := bw_in (bprog_in 7 _ (List.mem_of_getElem? (i := 187) rfl)) rfl
theorem bkM_X11_least : bchkM bmeth bmjs 3369 = true := by decide +kernel
theorem bkH_X11_least : bHead (bm_13 41) ∈ bw_G := bw_in (bprog_in 8 _ (List.mem_of_getElem? (i := 22) rfl)) rfl
theorem bkM_X11_low : bchkM bmeth bmjs 3370 = true := by decide +kernel
theorem bkH_X11_low : bHead (bm_13 42) ∈ bw_G := bw_in (bprog_in 6 _ (List.mem_of_getElem? (i := 27) rfl)) rfl
theorem bkM_X11_makeAlong : bchkM bmeth bmjs 3371 = true := by decide +kernel
theorem bkH_X11_makeAlong : bHead (bm_13 43) ∈ bw_G := bw_in (bprog_in 8 _ (List.mem_of_getElem? (i := 70) rfl)) rfl
theorem bkM_X11_makeMoved : bchkM bmeth bmjs 3372 = true := by decide +kernel
theorem bkH_X11_makeMoved : bHead (bm_13 44) ∈ bw_G := bw_in (bprog_in 8 _ (List.mem_of_getElem? (i := 64) rfl)) rfl
theorem bkM_X11_makeNarrowed : bchkM bmeth bmjs 3373 = true := by decide +kernel
theorem bkH_X11_makeNarrowed : bHead (bm_13 45) ∈ bw_G := bw_in (bprog_in 7 _ (List.mem_of_getElem? (i := 231) rfl)) rfl
theorem bkM_X11_meet : bchkM bmeth bmjs 3374 = true := by decide +kernel
theorem bkH_X11_meet : bHead (bm_13 46) ∈ bw_G := bw_in (bprog_in 6 _ (List.mem_of_getElem? (i := 15) rfl)) rfl
theorem bkM_X11_move : bchkM bmeth bmjs 3375 = true := by decide +kernel
theorem bkH_X11_move : bHead (bm_13 47) ∈ bw_G := bw_in (bprog_in 8 _ (List.mem_of_getElem? (i := 59) rfl)) rfl
theorem bkM_X11_multiply : bchkM bmeth bmjs 3376 = true := by decide +kernel
theorem bkH_X11_multiply : bHead (bm_13 48) ∈ bw_G := bw_in (bprog_in 6 _ (List.mem_of_getElem? (i := 113) rfl)) rfl
theorem bkM_X11_narrow : bchkM bmeth bmjs 3377 = true := by decide +kernel
theorem bkH_X11_narrow : bHead (bm_13 49) ∈ bw_G := bw_in (bprog_in 7 _ (List.mem_of_getElem? (i := 227) rfl)) rfl
theorem bkM_X11_pairs : bchkM bmeth bmjs 3378 = true := by decide +kernel
theorem bkH_X11_pairs : bHead (bm_13 50) ∈ bw_G := bw_in (bprog_in 7 _ (List.mem_of_getElem? (i := 239) rfl)) rfl
theorem bkM_X11_piece : bchkM bmeth bmjs 3379 = true := by decide +kernel
theorem bkH_X11_piece : bHead (bm_13 51) ∈ bw_G := bw_in (bprog_in 7 _ (List.mem_of_getElem? (i := 216) rfl)) rfl
theorem bkM_X11_pieceKind : bchkM bmeth bmjs 3380 = true := by decide +kernel
theorem bkH_X11_pieceKind : bHead (bm_13 52) ∈ bw_G := bw_in (bprog_in 7 _ (List.mem_of_getElem? (i := 196) rfl)) rfl
theorem bkM_X11_power : bchkM bmeth bmjs 3381 = true := by decide +kernel
theorem bkH_X11_power : bHead (bm_13 53) ∈ bw_G := bw_in (bprog_in 6 _ (List.mem_of_getElem? (i := 128) rfl)) rfl
theorem bkM_X11_put : bchkM bmeth bmjs 3382 = true := by decide +kernel
theorem bkH_X11_put : bHead (bm_13 54) ∈ bw_G := bw_in (bprog_in 5 _ (List.mem_of_getElem? (i := 115) rfl)) rfl
theorem bkM_X11_read : bchkM bmeth bmjs 3383 = true := by decide +kernel
theorem bkH_X11_read : bHead (bm_13 55) ∈ bw_G := bw_in (bprog_in 5 _ (List.mem_of_getElem? (i := 175) rfl)) rfl
theorem bkM_X11_root : bchkM bmeth bmjs 3384 = true := by decide +kernel
theorem bkH_X11_root : bHead (bm_13 56) ∈ bw_G := bw_in (bprog_in 6 _ (List.mem_of_getElem? (i := 140) rfl)) rfl
theorem bkM_X11_seekExtreme : bchkM bmeth bmjs 3385 = true := by decide +kernel
theorem bkH_X11_seekExtreme : bHead (bm_13 57) ∈ bw_G := bw_in (bprog_in 8 _ (List.mem_of_getElem? (i := 30) rfl)) rfl
theorem bkM_X11_setDigits : bchkM bmeth bmjs 3386 = true := by decide +kernel
theorem bkH_X11_setDigits : bHead (bm_13 58) ∈ bw_G := bw_in (bprog_in 4 _ (List.mem_of_getElem? (i := 214) rfl)) rfl
theorem bkM_X11_sideOf : bchkM bmeth bmjs 3387 = true := by decide +kernel
theorem bkH_X11_sideOf : bHead (bm_13 59) ∈ bw_G := bw_in (bprog_in 7 _ (List.mem_of_getElem? (i := 132) rfl)) rfl
theorem bkM_X11_signAt : bchkM bmeth bmjs 3388 = true := by decide +kernel
theorem bkH_X11_signAt : bHead (bm_13 60) ∈ bw_G := bw_in (bprog_in 5 _ (List.mem_of_getElem? (i := 79) rfl)) rfl
theorem bkM_X11_slope : bchkM bmeth bmjs 3389 = true := by decide +kernel
theorem bkH_X11_slope : bHead (bm_13 61) ∈ bw_G := bw_in (bprog_in 7 _ (List.mem_of_getElem? (i := 30) rfl)) rfl
theorem bkM_X11_solve : bchkM bmeth bmjs 3390 = true := by decide +kernel
theorem bkH_X11_solve : bHead (bm_13 62) ∈ bw_G := bw_in (bprog_in 6 _ (List.mem_of_getElem? (i := 156) rfl)) rfl
theorem bkM_X11_subtract : bchkM bmeth bmjs 3391 = true := by decide +kernel
theorem bkH_X11_subtract : bHead (bm_13 63) ∈ bw_G := bw_in (bprog_in 6 _ (List.mem_of_getElem? (i := 106) rfl)) rfl
theorem bkM_X11_sumUp : bchkM bmeth bmjs 3392 = true := by decide +kernel
theorem bkH_X11_sumUp : bHead (bm_13 64) ∈ bw_G := bw_in (bprog_in 8 _ (List.mem_of_getElem? (i := 52) rfl)) rfl
theorem bkM_X11_sure : bchkM bmeth bmjs 3393 = true := by decide +kernel
theorem bkH_X11_sure : bHead (bm_13 65) ∈ bw_G := bw_in (bprog_in 6 _ (List.mem_of_getElem? (i := 68) rfl)) rfl
theorem bkM_X11_takeExtreme : bchkM bmeth bmjs 3394 = true := by decide +kernel
theorem bkH_X11_takeExtreme : bHead (bm_13 66) ∈ bw_G := bw_in (bprog_in 8 _ (List.mem_of_getElem? (i := 34) rfl)) rfl
theorem bkM_X11_type : bchkM bmeth bmjs 3395 = true := by decide +kernel
theorem bkH_X11_type : bHead (bm_13 67) ∈ bw_G := bw_in (bprog_in 5 _ (List.mem_of_getElem? (i := 54) rfl)) rfl
theorem bkM_X11_undo : bchkM bmeth bmjs 3396 = true := by decide +kernel
theorem bkH_X11_undo : bHead (bm_13 68) ∈ bw_G := bw_in (bprog_in 6 _ (List.mem_of_getElem? (i := 79) rfl)) rfl
theorem bkM_X11_unitOf : bchkM bmeth bmjs 3397 = true := by decide +kernel
theorem bkH_X11_unitOf : bHead (bm_13 69) ∈ bw_G := bw_in (bprog_in 2 _ (List.mem_of_getElem? (i := 67) rfl)) rfl
theorem bkM_X11_value : bchkM bmeth bmjs 3398 = true := by decide +kernel
theorem bkH_X11_value : bHead (bm_13 70) ∈ bw_G := bw_in (bprog_in 7 _ (List.mem_of_getElem? (i := 19) rfl)) rfl
theorem bkM_X11_width : bchkM bmeth bmjs 3399 = true := by decide +kernel
theorem bkH_X11_width : bHead (bm_13 71) ∈ bw_G := bw_in (bprog_in 6 _ (List.mem_of_getElem? (i := 41) rfl)) rfl
theorem bkM_X11_zeros : bchkM bmeth bmjs 3400 = true := by decide +kernel
theorem bkH_X11_zeros : bHead (bm_13 72) ∈ bw_G := bw_in (bprog_in 7 _ (List.mem_of_getElem? (i := 140) rfl)) rfl
theorem bkMA_13 : ∀ k, k < 73 → (bmjs (3328 + k)).1 ≠ 0 → bchkM bmeth bmjs (3328 + k) = true ∧ bHead (bm_13 k) ∈ bw_G := by
  intro k hk h0
  match k, hk with
  | 0, _ => exact ⟨bkM_X11_init, bkH_X11_init⟩
  | 1, _ => exact ⟨bkM_X11_add, bkH_X11_add⟩
  | 2, _ => exact ⟨bkM_X11_apply, bkH_X11_apply⟩
  | 3, _ => exact ⟨bkM_X11_area, bkH_X11_area⟩
  | 4, _ => exact ⟨bkM_X11_become, bkH_X11_become⟩
  | 5, _ => exact ⟨bkM_X11_canBeZero, bkH_X11_canBeZero⟩
  | 6, _ => exact ⟨bkM_X11_change, bkH_X11_change⟩
  | 7, _ => exact ⟨bkM_X11_checkBoundsCall, bkH_X11_checkBoundsCall⟩
  | 8, _ => exact ⟨bkM_X11_checkCuts, bkH_X11_checkCuts⟩
  | 9, _ => exact ⟨bkM_X11_checkDefined, bkH_X11_checkDefined⟩
  | 10, _ => exact ⟨bkM_X11_checkFormula, bkH_X11_checkFormula⟩
  | 11, _ => exact ⟨bkM_X11_checkFormulaCall, bkH_X11_checkFormulaCall⟩
  | 12, _ => exact ⟨bkM_X11_checkHeld, bkH_X11_checkHeld⟩
  | 13, _ => exact ⟨bkM_X11_checkNoY, bkH_X11_checkNoY⟩
  | 14, _ => exact ⟨bkM_X11_checkPair, bkH_X11_checkPair⟩
  | 15, _ => exact ⟨bkM_X11_checkPiece, bkH_X11_checkPiece⟩
  | 16, _ => exact ⟨bkM_X11_checkShelf, bkH_X11_checkShelf⟩
  | 17, _ => exact ⟨bkM_X11_checkShelves, bkH_X11_checkShelves⟩
  | 18, _ => exact ⟨bkM_X11_checkStatus, bkH_X11_checkStatus⟩
  | 19, _ => exact ⟨bkM_X11_checksum, bkH_X11_checksum⟩
  | 20, _ => exact ⟨bkM_X11_combine, bkH_X11_combine⟩
  | 21, _ => exact ⟨bkM_X11_compare, bkH_X11_compare⟩
  | 22, _ => exact ⟨bkM_X11_constant, bkH_X11_constant⟩
  | 23, _ => exact ⟨bkM_X11_crossed, bkH_X11_crossed⟩
  | 24, _ => exact ⟨bkM_X11_decide, bkH_X11_decide⟩
  | 25, _ => exact ⟨bkM_X11_define, bkH_X11_define⟩
  | 26, _ => exact ⟨bkM_X11_digits, bkH_X11_digits⟩
  | 27, _ => exact ⟨bkM_X11_divide, bkH_X11_divide⟩
  | 28, _ => exact ⟨bkM_X11_erase, bkH_X11_erase⟩
  | 29, _ => exact ⟨bkM_X11_fill, bkH_X11_fill⟩
  | 30, _ => exact ⟨bkM_X11_greatest, bkH_X11_greatest⟩
  | 31, _ => exact ⟨bkM_X11_hasY, bkH_X11_hasY⟩
  | 32, _ => exact ⟨bkM_X11_held, bkH_X11_held⟩
  | 33, _ => exact ⟨bkM_X11_high, bkH_X11_high⟩
  | 34, _ => exact ⟨bkM_X11_isConstantSound, bkH_X11_isConstantSound⟩
  | 35, _ => exact ⟨bkM_X11_isSound, bkH_X11_isSound⟩
  | 36, _ => exact ⟨bkM_X11_isValueSound, bkH_X11_isValueSound⟩
  | 37, _ => exact ⟨bkM_X11_isWithin, bkH_X11_isWithin⟩
  | 38, _ => exact ⟨bkM_X11_join, bkH_X11_join⟩
  | 39, _ => exact ⟨bkM_X11_judge, bkH_X11_judge⟩
  | 40, _ => exact ⟨bkM_X11_kindByEnds, bkH_X11_kindByEnds⟩
  | 41, _ => exact ⟨bkM_X11_least, bkH_X11_least⟩
  | 42, _ => exact ⟨bkM_X11_low, bkH_X11_low⟩
  | 43, _ => exact ⟨bkM_X11_makeAlong, bkH_X11_makeAlong⟩
  | 44, _ => exact ⟨bkM_X11_makeMoved, bkH_X11_makeMoved⟩
  | 45, _ => exact ⟨bkM_X11_makeNarrowed, bkH_X11_makeNarrowed⟩
  | 46, _ => exact ⟨bkM_X11_meet, bkH_X11_meet⟩
  | 47, _ => exact ⟨bkM_X11_move, bkH_X11_move⟩
  | 48, _ => exact ⟨bkM_X11_multiply, bkH_X11_multiply⟩
  | 49, _ => exact ⟨bkM_X11_narrow, bkH_X11_narrow⟩
  | 50, _ => exact ⟨bkM_X11_pairs, bkH_X11_pairs⟩
  | 51, _ => exact ⟨bkM_X11_piece, bkH_X11_piece⟩
  | 52, _ => exact ⟨bkM_X11_pieceKind, bkH_X11_pieceKind⟩
  | 53, _ => exact ⟨bkM_X11_power, bkH_X11_power⟩
  | 54, _ => exact ⟨bkM_X11_put, bkH_X11_put⟩
  | 55, _ => exact ⟨bkM_X11_read, bkH_X11_read⟩
  | 56, _ => exact ⟨bkM_X11_root, bkH_X11_root⟩
  | 57, _ => exact ⟨bkM_X11_seekExtreme, bkH_X11_seekExtreme⟩
  | 58, _ => exact ⟨bkM_X11_setDigits, bkH_X11_setDigits⟩
  | 59, _ => exact ⟨bkM_X11_sideOf, bkH_X11_sideOf⟩
  | 60, _ => exact ⟨bkM_X11_signAt, bkH_X11_signAt⟩
  | 61, _ => exact ⟨bkM_X11_slope, bkH_X11_slope⟩
  | 62, _ => exact ⟨bkM_X11_solve, bkH_X11_solve⟩
  | 63, _ => exact ⟨bkM_X11_subtract, bkH_X11_subtract⟩
  | 64, _ => exact ⟨bkM_X11_sumUp, bkH_X11_sumUp⟩
  | 65, _ => exact ⟨bkM_X11_sure, bkH_X11_sure⟩
  | 66, _ => exact ⟨bkM_X11_takeExtreme, bkH_X11_takeExtreme⟩
  | 67, _ => exact ⟨bkM_X11_type, bkH_X11_type⟩
  | 68, _ => exact ⟨bkM_X11_undo, bkH_X11_undo⟩
  | 69, _ => exact ⟨bkM_X11_unitOf, bkH_X11_unitOf⟩
  | 70, _ => exact ⟨bkM_X11_value, bkH_X11_value⟩
  | 71, _ => exact ⟨bkM_X11_width, bkH_X11_width⟩
  | 72, _ => exact ⟨bkM_X11_zeros, bkH_X11_zeros⟩
  | k + 73, h => omega
noncomputable def bm_14 (k : Nat) : bM := bmc_14.getD k bnoM
theorem bkD_X12_init_0 : bchk3 (bm_14 0) bk_X12_init_0 = true := by decide +kernel
theorem bkD_X12_init_1 : bchk3 (bm_14 0) bk_X12_init_1 = true := by decide +kernel
theorem bkD_X12_init_2 : bchk3 (bm_14 0) bk_X12_init_2 = true := by decide +kernel
theorem bkD_X12_init : bchk3 (bm_14 0) bk_X12_init = true := bchk3_app bkD_X12_init_0 (bchk3_app bkD_X12_init_1 (bkD_X12_init_2))
theorem bkD_X12_acts : bchk3 (bm_14 1) bk_X12_acts = true := by decide +kernel
