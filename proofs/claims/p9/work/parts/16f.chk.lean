/-! The checks, go on. -/
theorem bkD_X6_init : bchk3 (bm_8 0) bk_X6_init = true := sorry
theorem bkD_X6_actOf : bchk3 (bm_8 1) bk_X6_actOf = true := sorry
theorem bkD_X6_aim : bchk3 (bm_8 2) bk_X6_aim = true := sorry
theorem bkD_X6_at : bchk3 (bm_8 3) bk_X6_at = true := sorry
theorem bkD_X6_byOf : bchk3 (bm_8 4) bk_X6_byOf = true := sorry
theorem bkD_X6_clear : bchk3 (bm_8 5) bk_X6_clear = true := sorry
theorem bkD_X6_enter : bchk3 (bm_8 6) bk_X6_enter = true := sorry
theorem bkD_X6_make_0 : bchk3 (bm_8 7) bk_X6_make_0 = true := sorry
theorem bkD_X6_make_1 : bchk3 (bm_8 7) bk_X6_make_1 = true := sorry
theorem bkD_X6_make_2 : bchk3 (bm_8 7) bk_X6_make_2 = true := sorry
theorem bkD_X6_make : bchk3 (bm_8 7) bk_X6_make = true := sorry
theorem bkD_X6_makeFrom : bchk3 (bm_8 8) bk_X6_makeFrom = true := sorry
theorem bkD_X6_makeSlope_0 : bchk3 (bm_8 9) bk_X6_makeSlope_0 = true := sorry
theorem bkD_X6_makeSlope_1 : bchk3 (bm_8 9) bk_X6_makeSlope_1 = true := sorry
theorem bkD_X6_makeSlope_2 : bchk3 (bm_8 9) bk_X6_makeSlope_2 = true := sorry
theorem bkD_X6_makeSlope : bchk3 (bm_8 9) bk_X6_makeSlope = true := sorry
theorem bkD_X6_makeValue : bchk3 (bm_8 10) bk_X6_makeValue = true := sorry
theorem bkD_X6_nextSign : bchk3 (bm_8 11) bk_X6_nextSign = true := sorry
theorem bkD_X6_numberOf : bchk3 (bm_8 12) bk_X6_numberOf = true := sorry
theorem bkD_X6_push : bchk3 (bm_8 13) bk_X6_push = true := sorry
theorem bkD_X6_recipeOf : bchk3 (bm_8 14) bk_X6_recipeOf = true := sorry
theorem bkD_X6_result : bchk3 (bm_8 15) bk_X6_result = true := sorry
theorem bkD_X6_unit : bchk3 (bm_8 16) bk_X6_unit = true := sorry
theorem bkD_X6_useDigits : bchk3 (bm_8 17) bk_X6_useDigits = true := sorry
theorem bkA_8 : bAllOk (fun y l => bchk3 y l = true) bkc_8 bmc_8 := sorry
theorem bkM_X6_init : bchkM bmeth bmjs 2048 = true := sorry
theorem bkH_X6_init : bHead (bm_8 0) ∈ bw_G := sorry
theorem bkM_X6_actOf : bchkM bmeth bmjs 2049 = true := sorry
theorem bkH_X6_actOf : bHead (bm_8 1) ∈ bw_G := sorry
theorem bkM_X6_aim : bchkM bmeth bmjs 2050 = true := sorry
theorem bkH_X6_aim : bHead (bm_8 2) ∈ bw_G := sorry
theorem bkM_X6_at : bchkM bmeth bmjs 2051 = true := sorry
theorem bkH_X6_at : bHead (bm_8 3) ∈ bw_G := sorry
theorem bkM_X6_byOf : bchkM bmeth bmjs 2052 = true := sorry
theorem bkH_X6_byOf : bHead (bm_8 4) ∈ bw_G := sorry
theorem bkM_X6_clear : bchkM bmeth bmjs 2053 = true := sorry
theorem bkH_X6_clear : bHead (bm_8 5) ∈ bw_G := sorry
theorem bkM_X6_enter : bchkM bmeth bmjs 2054 = true := sorry
theorem bkH_X6_enter : bHead (bm_8 6) ∈ bw_G := sorry
theorem bkM_X6_make : bchkM bmeth bmjs 2055 = true := sorry
theorem bkH_X6_make : bHead (bm_8 7) ∈ bw_G := sorry
theorem bkM_X6_makeFrom : bchkM bmeth bmjs 2056 = true := sorry
theorem bkH_X6_makeFrom : bHead (bm_8 8) ∈ bw_G := sorry
theorem bkM_X6_makeSlope : bchkM bmeth bmjs 2057 = true := sorry
theorem bkH_X6_makeSlope : bHead (bm_8 9) ∈ bw_G := sorry
theorem bkM_X6_makeValue : bchkM bmeth bmjs 2058 = true := sorry
theorem bkH_X6_makeValue : bHead (bm_8 10) ∈ bw_G := sorry
theorem bkM_X6_nextSign : bchkM bmeth bmjs 2059 = true := sorry
theorem bkH_X6_nextSign : bHead (bm_8 11) ∈ bw_G := sorry
theorem bkM_X6_numberOf : bchkM bmeth bmjs 2060 = true := sorry
theorem bkH_X6_numberOf : bHead (bm_8 12) ∈ bw_G := sorry
theorem bkM_X6_push : bchkM bmeth bmjs 2061 = true := sorry
theorem bkH_X6_push : bHead (bm_8 13) ∈ bw_G := sorry
theorem bkM_X6_recipeOf : bchkM bmeth bmjs 2062 = true := sorry
theorem bkH_X6_recipeOf : bHead (bm_8 14) ∈ bw_G := sorry
theorem bkM_X6_result : bchkM bmeth bmjs 2063 = true := sorry
theorem bkH_X6_result : bHead (bm_8 15) ∈ bw_G := sorry
theorem bkM_X6_unit : bchkM bmeth bmjs 2064 = true := sorry
theorem bkH_X6_unit : bHead (bm_8 16) ∈ bw_G := sorry
theorem bkM_X6_useDigits : bchkM bmeth bmjs 2065 = true := sorry
theorem bkH_X6_useDigits : bHead (bm_8 17) ∈ bw_G := sorry
theorem bkMA_8 : ∀ k, k < 18 → (bmjs (2048 + k)).1 ≠ 0 → bchkM bmeth bmjs (2048 + k) = true ∧ bHead (bm_8 k) ∈ bw_G := sorry
noncomputable def bm_9 (k : Nat) : bM := bmc_9.getD k bnoM
theorem bkD_X7_init : bchk3 (bm_9 0) bk_X7_init = true := sorry
theorem bkD_X7_append : bchk3 (bm_9 1) bk_X7_append = true := sorry
