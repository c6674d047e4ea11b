/-! The checks, go on. -/
theorem bkD_X12_lifted_0 : bchk3 (bm_14 61) bk_X12_lifted_0 = true := by decide +kernel
theorem bkD_X12_lifted_1 : bchk3 (bm_14 61) bk_X12_lifted_1 = true := by decide +kernel
theorem bkD_X12_lifted_2 : bchk3 (bm_14 61) bk_X12_lifted_2 = true := by decide +kernel
theorem bkD_X12_lifted_3 : bchk3 (bm_14 61) bk_X12_lifted_3 = true := by decide +kernel
theorem bkD_X12_lifted : bchk3 (bm_14 61) bk_X12_lifted = true := bchk3_app bkD_X12_lifted_0 (bchk3_app bkD_X12_lifted_1 (bchk3_app bkD_X12_lifted_2 (bkD_X12_lifted_3)))
theorem bkD_X12_limb : bchk3 (bm_14 62) bk_X12_limb = true := by decide +kernel
theorem bkD_X12_logs_0 : bchk3 (bm_14 63) bk_X12_logs_0 = true := by decide +kernel
theorem bkD_X12_logs_1 : bchk3 (bm_14 63) bk_X12_logs_1 = true := by decide +kernel
theorem bkD_X12_logs_2 : bchk3 (bm_14 63) bk_X12_logs_2 = true := by decide +kernel
theorem bkD_X12_logs_3 : bchk3 (bm_14 63) bk_X12_logs_3 = true := by decide +kernel
theorem bkD_X12_logs_4 : bchk3 (bm_14 63) bk_X12_logs_4 = true := by decide +kernel
theorem bkD_X12_logs : bchk3 (bm_14 63) bk_X12_logs = true := bchk3_app bkD_X12_logs_0 (bchk3_app bkD_X12_logs_1 (bchk3_app bkD_X12_logs_2 (bchk3_app bkD_X12_logs_3 (bkD_X12_logs_4))))
theorem bkD_X12_looks_0 : bchk3 (bm_14 64) bk_X12_looks_0 = true := by decide +kernel
theorem bkD_X12_looks_1 : bchk3 (bm_14 64) bk_X12_looks_1 = true := by decide +kernel
theorem bkD_X12_looks : bchk3 (bm_14 64) bk_X12_looks = true := bchk3_app bkD_X12_looks_0 (bkD_X12_looks_1)
theorem bkD_X12_low_ : bchk3 (bm_14 65) bk_X12_low_ = true := by decide +kernel
theorem bkD_X12_low : bchk3 (bm_14 66) bk_X12_low = true := by decide +kernel
theorem bkD_X12_made : bchk3 (bm_14 67) bk_X12_made = true := by decide +kernel
theorem bkD_X12_makes : bchk3 (bm_14 68) bk_X12_makes = true := by decide +kernel
theorem bkD_X12_makes__0 : bchk3 (bm_14 69) bk_X12_makes__0 = true := by decide +kernel
theorem bkD_X12_makes__1 : bchk3 (bm_14 69) bk_X12_makes__1 = true := by decide +kernel
theorem bkD_X12_makes_ : bchk3 (bm_14 69) bk_X12_makes_ = true := bchk3_app bkD_X12_makes__0 (bkD_X12_makes__1)
theorem bkD_X12_meet : bchk3 (bm_14 70) bk_X12_meet = true := by decide +kernel
theorem bkD_X12_middle_0 : bchk3 (bm_14 71) bk_X12_middle_0 = true := by decide +kernel
theorem bkD_X12_middle_1 : bchk3 (bm_14 71) bk_X12_middle_1 = true := by decide +kernel
theorem bkD_X12_middle : bchk3 (bm_14 71) bk_X12_middle = true := bchk3_app bkD_X12_middle_0 (bkD_X12_middle_1)
theorem bkD_X12_modulo : bchk3 (bm_14 72) bk_X12_modulo = true := by decide +kernel
theorem bkD_X12_move_0 : bchk3 (bm_14 73) bk_X12_move_0 = true := by decide +kernel
theorem bkD_X12_move_1 : bchk3 (bm_14 73) bk_X12_move_1 = true := by decide +kernel
theorem bkD_X12_move : bchk3 (bm_14 73) bk_X12_move = true := bchk3_app bkD_X12_move_0 (bkD_X12_move_1)
theorem bkD_X12_moves_0 : bchk3 (bm_14 74) bk_X12_moves_0 = true := by decide +kernel
theorem bkD_X12_moves_1 : bchk3 (bm_14 74) bk_X12_moves_1 = true := by decide +kernel
theorem bkD_X12_moves_2 : bchk3 (bm_14 74) bk_X12_moves_2 = true := by decide +kernel
theorem bkD_X12_moves : bchk3 (bm_14 74) bk_X12_moves = true := bchk3_app bkD_X12_moves_0 (bchk3_app bkD_X12_moves_1 (bkD_X12_moves_2))
theorem bkD_X12_multiply : bchk3 (bm_14 75) bk_X12_multiply = true := by decide +kernel
theorem bkD_X12_narrow_0 : bchk3 (bm_14 76) bk_X12_narrow_0 = true := by decide +kernel
theorem bkD_X12_narrow_1 : bchk3 (bm_14 76) bk_X12_narrow_1 = true := by decide +kernel
theorem bkD_X12_narrow_2 : bchk3 (bm_14 76) bk_X12_narrow_2 = true := by decide +kernel
theorem bkD_X12_narrow : bchk3 (bm_14 76) bk_X12_narrow = true := bchk3_app bkD_X12_narrow_0 (bchk3_app bkD_X12_narrow_1 (bkD_X12_narrow_2))
theorem bkD_X12_needsBase : bchk3 (bm_14 77) bk_X12_needsBase = true := by decide +kernel
theorem bkD_X12_needsLog : bchk3 (bm_14 78) bk_X12_needsLog = true := by decide +kernel
theorem bkD_X12_needsPi : bchk3 (bm_14 79) bk_X12_needsPi = true := by decide +kernel
theorem bkD_X12_negative : bchk3 (bm_14 80) bk_X12_negative = true := by decide +kernel
theorem bkD_X12_noBounds : bchk3 (bm_14 81) bk_X12_noBounds = true := by decide +kernel
theorem bkD_X12_noBox : bchk3 (bm_14 82) bk_X12_noBox = true := by decide +kernel
theorem bkD_X12_noLook : bchk3 (bm_14 83) bk_X12_noLook = true := by decide +kernel
theorem bkD_X12_noPair : bchk3 (bm_14 84) bk_X12_noPair = true := by decide +kernel
theorem bkD_X12_number_0 : bchk3 (bm_14 85) bk_X12_number_0 = true := by decide +kernel
theorem bkD_X12_number_1 : bchk3 (bm_14 85) bk_X12_number_1 = true := by decide +kernel
theorem bkD_X12_number : bchk3 (bm_14 85) bk_X12_number = true := bchk3_app bkD_X12_number_0 (bkD_X12_number_1)
theorem bkD_X12_odds_0 : bchk3 (bm_14 86) bk_X12_odds_0 = true := by decide +kernel
