/-! The checks, go on. -/
theorem bkH_X11_judge : bHead (bm_13 39) ∈ bw_G := sorry
theorem bkM_X11_kindByEnds : bchkM bmeth bmjs 3368 = true := sorry
theorem bkH_X11_kindByEnds : bHead (bm_13 40) ∈ bw_G := sorry
theorem bkM_X11_least : bchkM bmeth bmjs 3369 = true := sorry
theorem bkH_X11_least : bHead (bm_13 41) ∈ bw_G := sorry
theorem bkM_X11_low : bchkM bmeth bmjs 3370 = true := sorry
theorem bkH_X11_low : bHead (bm_13 42) ∈ bw_G := sorry
theorem bkM_X11_makeAlong : bchkM bmeth bmjs 3371 = true := sorry
theorem bkH_X11_makeAlong : bHead (bm_13 43) ∈ bw_G := sorry
theorem bkM_X11_makeMoved : bchkM bmeth bmjs 3372 = true := sorry
theorem bkH_X11_makeMoved : bHead (bm_13 44) ∈ bw_G := sorry
theorem bkM_X11_makeNarrowed : bchkM bmeth bmjs 3373 = true := sorry
theorem bkH_X11_makeNarrowed : bHead (bm_13 45) ∈ bw_G := sorry
theorem bkM_X11_meet : bchkM bmeth bmjs 3374 = true := sorry
theorem bkH_X11_meet : bHead (bm_13 46) ∈ bw_G := sorry
theorem bkM_X11_move : bchkM bmeth bmjs 3375 = true := sorry
theorem bkH_X11_move : bHead (bm_13 47) ∈ bw_G := sorry
theorem bkM_X11_multiply : bchkM bmeth bmjs 3376 = true := sorry
theorem bkH_X11_multiply : bHead (bm_13 48) ∈ bw_G := sorry
theorem bkM_X11_narrow : bchkM bmeth bmjs 3377 = true := sorry
theorem bkH_X11_narrow : bHead (bm_13 49) ∈ bw_G := sorry
theorem bkM_X11_pairs : bchkM bmeth bmjs 3378 = true := sorry
theorem bkH_X11_pairs : bHead (bm_13 50) ∈ bw_G := sorry
theorem bkM_X11_piece : bchkM bmeth bmjs 3379 = true := sorry
theorem bkH_X11_piece : bHead (bm_13 51) ∈ bw_G := sorry
theorem bkM_X11_pieceKind : bchkM bmeth bmjs 3380 = true := sorry
theorem bkH_X11_pieceKind : bHead (bm_13 52) ∈ bw_G := sorry
theorem bkM_X11_power : bchkM bmeth bmjs 3381 = true := sorry
theorem bkH_X11_power : bHead (bm_13 53) ∈ bw_G := sorry
theorem bkM_X11_put : bchkM bmeth bmjs 3382 = true := sorry
theorem bkH_X11_put : bHead (bm_13 54) ∈ bw_G := sorry
theorem bkM_X11_read : bchkM bmeth bmjs 3383 = true := sorry
theorem bkH_X11_read : bHead (bm_13 55) ∈ bw_G := sorry
theorem bkM_X11_root : bchkM bmeth bmjs 3384 = true := sorry
theorem bkH_X11_root : bHead (bm_13 56) ∈ bw_G := sorry
theorem bkM_X11_seekExtreme : bchkM bmeth bmjs 3385 = true := sorry
theorem bkH_X11_seekExtreme : bHead (bm_13 57) ∈ bw_G := sorry
theorem bkM_X11_setDigits : bchkM bmeth bmjs 3386 = true := sorry
theorem bkH_X11_setDigits : bHead (bm_13 58) ∈ bw_G := sorry
theorem bkM_X11_sideOf : bchkM bmeth bmjs 3387 = true := sorry
theorem bkH_X11_sideOf : bHead (bm_13 59) ∈ bw_G := sorry
theorem bkM_X11_signAt : bchkM bmeth bmjs 3388 = true := sorry
theorem bkH_X11_signAt : bHead (bm_13 60) ∈ bw_G := sorry
theorem bkM_X11_slope : bchkM bmeth bmjs 3389 = true := sorry
theorem bkH_X11_slope : bHead (bm_13 61) ∈ bw_G := sorry
theorem bkM_X11_solve : bchkM bmeth bmjs 3390 = true := sorry
theorem bkH_X11_solve : bHead (bm_13 62) ∈ bw_G := sorry
theorem bkM_X11_subtract : bchkM bmeth bmjs 3391 = true := sorry
theorem bkH_X11_subtract : bHead (bm_13 63) ∈ bw_G := sorry
theorem bkM_X11_sumUp : bchkM bmeth bmjs 3392 = true := sorry
theorem bkH_X11_sumUp : bHead (bm_13 64) ∈ bw_G := sorry
theorem bkM_X11_sure : bchkM bmeth bmjs 3393 = true := sorry
theorem bkH_X11_sure : bHead (bm_13 65) ∈ bw_G := sorry
theorem bkM_X11_takeExtreme : bchkM bmeth bmjs 3394 = true := sorry
theorem bkH_X11_takeExtreme : bHead (bm_13 66) ∈ bw_G := sorry
theorem bkM_X11_type : bchkM bmeth bmjs 3395 = true := sorry
theorem bkH_X11_type : bHead (bm_13 67) ∈ bw_G := sorry
theorem bkM_X11_undo : bchkM bmeth bmjs 3396 = true := sorry
theorem bkH_X11_undo : bHead (bm_13 68) ∈ bw_G := sorry
theorem bkM_X11_unitOf : bchkM bmeth bmjs 3397 = true := sorry
theorem bkH_X11_unitOf : bHead (bm_13 69) ∈ bw_G := sorry
theorem bkM_X11_value : bchkM bmeth bmjs 3398 = true := sorry
theorem bkH_X11_value : bHead (bm_13 70) ∈ bw_G := sorry
theorem bkM_X11_width : bchkM bmeth bmjs 3399 = true := sorry
theorem bkH_X11_width : bHead (bm_13 71) ∈ bw_G := sorry
theorem bkM_X11_zeros : bchkM bmeth bmjs 3400 = true := sorry
theorem bkH_X11_zeros : bHead (bm_13 72) ∈ bw_G := sorry
theorem bkMA_13 : ∀ k, k < 73 → (bmjs (3328 + k)).1 ≠ 0 → bchkM bmeth bmjs (3328 + k) = true ∧ bHead (bm_13 k) ∈ bw_G := sorry
noncomputable def bm_14 (k : Nat) : bM := bmc_14.getD k bnoM
theorem bkD_X12_init_0 : bchk3 (bm_14 0) bk_X12_init_0 = true := sorry
theorem bkD_X12_init_1 : bchk3 (bm_14 0) bk_X12_init_1 = true := sorry
theorem bkD_X12_init_2 : bchk3 (bm_14 0) bk_X12_init_2 = true := sorry
theorem bkD_X12_init : bchk3 (bm_14 0) bk_X12_init = true := sorry
theorem bkD_X12_acts : bchk3 (bm_14 1) bk_X12_acts = true := sorry
