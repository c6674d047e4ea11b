/-! The checks, go on. -/
theorem bkD_X12_rooted_0 : bchk3 (bm_14 111) bk_X12_rooted_0 = true := by decide +kernel
theorem bkD_X12_rooted_1 : bchk3 (bm_14 111) bk_X12_rooted_1 = true := by decide +kernel
theorem bkD_X12_rooted : bchk3 (bm_14 111) bk_X12_rooted = true := bchk3_app bkD_X12_rooted_0 (bkD_X12_rooted_1)
theorem bkD_X12_roots_0 : bchk3 (bm_14 112) bk_X12_roots_0 = true := by decide +kernel
theorem bkD_X12_roots_1 : bchk3 (bm_14 112) bk_X12_roots_1 = true := by decide +kernel
theorem bkD_X12_roots_2 : bchk3 (bm_14 112) bk_X12_roots_2 = true := by decide +kernel
theorem bkD_X12_roots : bchk3 (bm_14 112) bk_X12_roots = true := bchk3_app bkD_X12_roots_0 (bchk3_app bkD_X12_roots_1 (bkD_X12_roots_2))
theorem bkD_X12_rounds_0 : bchk3 (bm_14 113) bk_X12_rounds_0 = true := by decide +kernel
theorem bkD_X12_rounds_1 : bchk3 (bm_14 113) bk_X12_rounds_1 = true := by decide +kernel
theorem bkD_X12_rounds : bchk3 (bm_14 113) bk_X12_rounds = true := bchk3_app bkD_X12_rounds_0 (bkD_X12_rounds_1)
theorem bkD_X12_scaleOf_0 : bchk3 (bm_14 114) bk_X12_scaleOf_0 = true := by decide +kernel
theorem bkD_X12_scaleOf_1 : bchk3 (bm_14 114) bk_X12_scaleOf_1 = true := by decide +kernel
theorem bkD_X12_scaleOf : bchk3 (bm_14 114) bk_X12_scaleOf = true := bchk3_app bkD_X12_scaleOf_0 (bkD_X12_scaleOf_1)
theorem bkD_X12_scales_0 : bchk3 (bm_14 115) bk_X12_scales_0 = true := by decide +kernel
theorem bkD_X12_scales_1 : bchk3 (bm_14 115) bk_X12_scales_1 = true := by decide +kernel
theorem bkD_X12_scales : bchk3 (bm_14 115) bk_X12_scales = true := bchk3_app bkD_X12_scales_0 (bkD_X12_scales_1)
theorem bkD_X12_series : bchk3 (bm_14 116) bk_X12_series = true := by decide +kernel
theorem bkD_X12_setDigits : bchk3 (bm_14 117) bk_X12_setDigits = true := by decide +kernel
theorem bkD_X12_sets : bchk3 (bm_14 118) bk_X12_sets = true := by decide +kernel
theorem bkD_X12_shifts_0 : bchk3 (bm_14 119) bk_X12_shifts_0 = true := by decide +kernel
theorem bkD_X12_shifts_1 : bchk3 (bm_14 119) bk_X12_shifts_1 = true := by decide +kernel
theorem bkD_X12_shifts : bchk3 (bm_14 119) bk_X12_shifts = true := bchk3_app bkD_X12_shifts_0 (bkD_X12_shifts_1)
theorem bkD_X12_sign : bchk3 (bm_14 120) bk_X12_sign = true := by decide +kernel
theorem bkD_X12_signAt : bchk3 (bm_14 121) bk_X12_signAt = true := by decide +kernel
theorem bkD_X12_signOf : bchk3 (bm_14 122) bk_X12_signOf = true := by decide +kernel
theorem bkD_X12_single : bchk3 (bm_14 123) bk_X12_single = true := by decide +kernel
theorem bkD_X12_size : bchk3 (bm_14 124) bk_X12_size = true := by decide +kernel
theorem bkD_X12_slope : bchk3 (bm_14 125) bk_X12_slope = true := by decide +kernel
theorem bkD_X12_slopes_0 : bchk3 (bm_14 126) bk_X12_slopes_0 = true := by decide +kernel
theorem bkD_X12_slopes_1 : bchk3 (bm_14 126) bk_X12_slopes_1 = true := by decide +kernel
theorem bkD_X12_slopes_2 : bchk3 (bm_14 126) bk_X12_slopes_2 = true := by decide +kernel
theorem bkD_X12_slopes_3 : bchk3 (bm_14 126) bk_X12_slopes_3 = true := by decide +kernel
theorem bkD_X12_slopes_4 : bchk3 (bm_14 126) bk_X12_slopes_4 = true := by decide +kernel
theorem bkD_X12_slopes_5 : bchk3 (bm_14 126) bk_X12_slopes_5 = true := by decide +kernel
theorem bkD_X12_slopes_6 : bchk3 (bm_14 126) bk_X12_slopes_6 = true := by decide +kernel
theorem bkD_X12_slopes_7 : bchk3 (bm_14 126) bk_X12_slopes_7 = true := by decide +kernel
theorem bkD_X12_slopes_8 : bchk3 (bm_14 126) bk_X12_slopes_8 = true := by decide +kernel
theorem bkD_X12_slopes : bchk3 (bm_14 126) bk_X12_slopes = true := bchk3_app bkD_X12_slopes_0 (bchk3_app bkD_X12_slopes_1 (bchk3_app bkD_X12_slopes_2 (bchk3_app bkD_X12_slopes_3 (bchk3_app bkD_X12_slopes_4 (bchk3_app bkD_X12_slopes_5 (bchk3_app bkD_X12_slopes_6 (bchk3_app bkD_X12_slopes_7 (bkD_X12_slopes_8))))))))
theorem bkD_X12_solve_0 : bchk3 (bm_14 127) bk_X12_solve_0 = true := by decide +kernel
theorem bkD_X12_solve_1 : bchk3 (bm_14 127) bk_X12_solve_1 = true := by decide +kernel
theorem bkD_X12_solve_2 : bchk3 (bm_14 127) bk_X12_solve_2 = true := by decide +kernel
theorem bkD_X12_solve : bchk3 (bm_14 127) bk_X12_solve = true := bchk3_app bkD_X12_solve_0 (bchk3_app bkD_X12_solve_1 (bkD_X12_solve_2))
theorem bkD_X12_spans : bchk3 (bm_14 128) bk_X12_spans = true := by decide +kernel
theorem bkD_X12_spelledInto : bchk3 (bm_14 129) bk_X12_spelledInto = true := by decide +kernel
theorem bkD_X12_spells_0 : bchk3 (bm_14 130) bk_X12_spells_0 = true := by decide +kernel
theorem bkD_X12_spells_1 : bchk3 (bm_14 130) bk_X12_spells_1 = true := by decide +kernel
theorem bkD_X12_spells_2 : bchk3 (bm_14 130) bk_X12_spells_2 = true := by decide +kernel
theorem bkD_X12_spells : bchk3 (bm_14 130) bk_X12_spells = true := bchk3_app bkD_X12_spells_0 (bchk3_app bkD_X12_spells_1 (bkD_X12_spells_2))
theorem bkD_X12_subtract : bchk3 (bm_14 131) bk_X12_subtract = true := by decide +kernel
theorem bkD_X12_sum_0 : bchk3 (bm_14 132) bk_X12_sum_0 = true := by decide +kernel
theorem bkD_X12_sum_1 : bchk3 (bm_14 132) bk_X12_sum_1 = true := by decide +kernel
