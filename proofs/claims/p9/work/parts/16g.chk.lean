/-! The checks, go on. -/
theorem bkD_X7_box : bchk3 (bm_9 2) bk_X7_box = true := sorry
theorem bkD_X7_clear : bchk3 (bm_9 3) bk_X7_clear = true := sorry
theorem bkD_X7_cut : bchk3 (bm_9 4) bk_X7_cut = true := sorry
theorem bkD_X7_markAt : bchk3 (bm_9 5) bk_X7_markAt = true := sorry
theorem bkD_X7_split_0 : bchk3 (bm_9 6) bk_X7_split_0 = true := sorry
theorem bkD_X7_split_1 : bchk3 (bm_9 6) bk_X7_split_1 = true := sorry
theorem bkD_X7_split : bchk3 (bm_9 6) bk_X7_split = true := sorry
theorem bkD_X7_takeLast : bchk3 (bm_9 7) bk_X7_takeLast = true := sorry
theorem bkD_X7_within : bchk3 (bm_9 8) bk_X7_within = true := sorry
theorem bkA_9 : bAllOk (fun y l => bchk3 y l = true) bkc_9 bmc_9 := sorry
theorem bkM_X7_init : bchkM bmeth bmjs 2304 = true := sorry
theorem bkH_X7_init : bHead (bm_9 0) ∈ bw_G := sorry
theorem bkM_X7_append : bchkM bmeth bmjs 2305 = true := sorry
theorem bkH_X7_append : bHead (bm_9 1) ∈ bw_G := sorry
theorem bkM_X7_box : bchkM bmeth bmjs 2306 = true := sorry
theorem bkH_X7_box : bHead (bm_9 2) ∈ bw_G := sorry
theorem bkM_X7_clear : bchkM bmeth bmjs 2307 = true := sorry
theorem bkH_X7_clear : bHead (bm_9 3) ∈ bw_G := sorry
theorem bkM_X7_cut : bchkM bmeth bmjs 2308 = true := sorry
theorem bkH_X7_cut : bHead (bm_9 4) ∈ bw_G := sorry
theorem bkM_X7_markAt : bchkM bmeth bmjs 2309 = true := sorry
theorem bkH_X7_markAt : bHead (bm_9 5) ∈ bw_G := sorry
theorem bkM_X7_split : bchkM bmeth bmjs 2310 = true := sorry
theorem bkH_X7_split : bHead (bm_9 6) ∈ bw_G := sorry
theorem bkM_X7_takeLast : bchkM bmeth bmjs 2311 = true := sorry
theorem bkH_X7_takeLast : bHead (bm_9 7) ∈ bw_G := sorry
theorem bkM_X7_within : bchkM bmeth bmjs 2312 = true := sorry
theorem bkH_X7_within : bHead (bm_9 8) ∈ bw_G := sorry
theorem bkMA_9 : ∀ k, k < 9 → (bmjs (2304 + k)).1 ≠ 0 → bchkM bmeth bmjs (2304 + k) = true ∧ bHead (bm_9 k) ∈ bw_G := sorry
noncomputable def bm_10 (k : Nat) : bM := bmc_10.getD k bnoM
theorem bkD_X8_init_0 : bchk3 (bm_10 0) bk_X8_init_0 = true := sorry
theorem bkD_X8_init_1 : bchk3 (bm_10 0) bk_X8_init_1 = true := sorry
theorem bkD_X8_init : bchk3 (bm_10 0) bk_X8_init = true := sorry
theorem bkD_X8_align_0 : bchk3 (bm_10 1) bk_X8_align_0 = true := sorry
theorem bkD_X8_align_1 : bchk3 (bm_10 1) bk_X8_align_1 = true := sorry
theorem bkD_X8_align : bchk3 (bm_10 1) bk_X8_align = true := sorry
theorem bkD_X8_assign : bchk3 (bm_10 2) bk_X8_assign = true := sorry
theorem bkD_X8_dropSign : bchk3 (bm_10 3) bk_X8_dropSign = true := sorry
theorem bkD_X8_guessRoot : bchk3 (bm_10 4) bk_X8_guessRoot = true := sorry
theorem bkD_X8_nextDigits_0 : bchk3 (bm_10 5) bk_X8_nextDigits_0 = true := sorry
theorem bkD_X8_nextDigits_1 : bchk3 (bm_10 5) bk_X8_nextDigits_1 = true := sorry
theorem bkD_X8_nextDigits : bchk3 (bm_10 5) bk_X8_nextDigits = true := sorry
theorem bkD_X8_powerOf : bchk3 (bm_10 6) bk_X8_powerOf = true := sorry
theorem bkD_X8_product : bchk3 (bm_10 7) bk_X8_product = true := sorry
theorem bkD_X8_quotient_0 : bchk3 (bm_10 8) bk_X8_quotient_0 = true := sorry
theorem bkD_X8_quotient_1 : bchk3 (bm_10 8) bk_X8_quotient_1 = true := sorry
theorem bkD_X8_quotient : bchk3 (bm_10 8) bk_X8_quotient = true := sorry
theorem bkD_X8_raise : bchk3 (bm_10 9) bk_X8_raise = true := sorry
theorem bkD_X8_settle_0 : bchk3 (bm_10 10) bk_X8_settle_0 = true := sorry
theorem bkD_X8_settle_1 : bchk3 (bm_10 10) bk_X8_settle_1 = true := sorry
theorem bkD_X8_settle : bchk3 (bm_10 10) bk_X8_settle = true := sorry
theorem bkD_X8_spread : bchk3 (bm_10 11) bk_X8_spread = true := sorry
theorem bkD_X8_take_0 : bchk3 (bm_10 12) bk_X8_take_0 = true := sorry
theorem bkD_X8_take_1 : bchk3 (bm_10 12) bk_X8_take_1 = true := sorry
theorem bkD_X8_take : bchk3 (bm_10 12) bk_X8_take = true := sorry
theorem bkD_X8_takeDigit : bchk3 (bm_10 13) bk_X8_takeDigit = true := sorry
theorem bkD_X8_takeText_0 : bchk3 (bm_10 14) bk_X8_takeText_0 = true := sorry
theorem bkD_X8_takeText_1 : bchk3 (bm_10 14) bk_X8_takeText_1 = true := sorry
theorem bkD_X8_takeText : bchk3 (bm_10 14) bk_X8_takeText = true := sorry
