/-! The checks, go on. -/
theorem bkD_X8_tellDown : bchk3 (bm_10 15) bk_X8_tellDown = true := sorry
theorem bkD_X8_tellUp : bchk3 (bm_10 16) bk_X8_tellUp = true := sorry
theorem bkD_X8_toPower : bchk3 (bm_10 17) bk_X8_toPower = true := sorry
theorem bkD_X8_toRoot_0 : bchk3 (bm_10 18) bk_X8_toRoot_0 = true := sorry
theorem bkD_X8_toRoot_1 : bchk3 (bm_10 18) bk_X8_toRoot_1 = true := sorry
theorem bkD_X8_toRoot_2 : bchk3 (bm_10 18) bk_X8_toRoot_2 = true := sorry
theorem bkD_X8_toRoot : bchk3 (bm_10 18) bk_X8_toRoot = true := sorry
theorem bkD_X8_turn : bchk3 (bm_10 19) bk_X8_turn = true := sorry
theorem bkD_X8_wholeOfRow : bchk3 (bm_10 20) bk_X8_wholeOfRow = true := sorry
theorem bkD_X8_widen_0 : bchk3 (bm_10 21) bk_X8_widen_0 = true := sorry
theorem bkD_X8_widen_1 : bchk3 (bm_10 21) bk_X8_widen_1 = true := sorry
theorem bkD_X8_widen_2 : bchk3 (bm_10 21) bk_X8_widen_2 = true := sorry
theorem bkD_X8_widen : bchk3 (bm_10 21) bk_X8_widen = true := sorry
theorem bkA_10 : bAllOk (fun y l => bchk3 y l = true) bkc_10 bmc_10 := sorry
theorem bkM_X8_init : bchkM bmeth bmjs 2560 = true := sorry
theorem bkH_X8_init : bHead (bm_10 0) ∈ bw_G := sorry
theorem bkM_X8_align : bchkM bmeth bmjs 2561 = true := sorry
theorem bkH_X8_align : bHead (bm_10 1) ∈ bw_G := sorry
theorem bkM_X8_assign : bchkM bmeth bmjs 2562 = true := sorry
theorem bkH_X8_assign : bHead (bm_10 2) ∈ bw_G := sorry
theorem bkM_X8_dropSign : bchkM bmeth bmjs 2563 = true := sorry
theorem bkH_X8_dropSign : bHead (bm_10 3) ∈ bw_G := sorry
theorem bkM_X8_guessRoot : bchkM bmeth bmjs 2564 = true := sorry
theorem bkH_X8_guessRoot : bHead (bm_10 4) ∈ bw_G := sorry
theorem bkM_X8_nextDigits : bchkM bmeth bmjs 2565 = true := sorry
theorem bkH_X8_nextDigits : bHead (bm_10 5) ∈ bw_G := sorry
theorem bkM_X8_powerOf : bchkM bmeth bmjs 2566 = true := sorry
theorem bkH_X8_powerOf : bHead (bm_10 6) ∈ bw_G := sorry
theorem bkM_X8_product : bchkM bmeth bmjs 2567 = true := sorry
theorem bkH_X8_product : bHead (bm_10 7) ∈ bw_G := sorry
theorem bkM_X8_quotient : bchkM bmeth bmjs 2568 = true := sorry
theorem bkH_X8_quotient : bHead (bm_10 8) ∈ bw_G := sorry
theorem bkM_X8_raise : bchkM bmeth bmjs 2569 = true := sorry
theorem bkH_X8_raise : bHead (bm_10 9) ∈ bw_G := sorry
theorem bkM_X8_settle : bchkM bmeth bmjs 2570 = true := sorry
theorem bkH_X8_settle : bHead (bm_10 10) ∈ bw_G := sorry
theorem bkM_X8_spread : bchkM bmeth bmjs 2571 = true := sorry
theorem bkH_X8_spread : bHead (bm_10 11) ∈ bw_G := sorry
theorem bkM_X8_take : bchkM bmeth bmjs 2572 = true := sorry
theorem bkH_X8_take : bHead (bm_10 12) ∈ bw_G := sorry
theorem bkM_X8_takeDigit : bchkM bmeth bmjs 2573 = true := sorry
theorem bkH_X8_takeDigit : bHead (bm_10 13) ∈ bw_G := sorry
theorem bkM_X8_takeText : bchkM bmeth bmjs 2574 = true := sorry
theorem bkH_X8_takeText : bHead (bm_10 14) ∈ bw_G := sorry
theorem bkM_X8_tellDown : bchkM bmeth bmjs 2575 = true := sorry
theorem bkH_X8_tellDown : bHead (bm_10 15) ∈ bw_G := sorry
theorem bkM_X8_tellUp : bchkM bmeth bmjs 2576 = true := sorry
theorem bkH_X8_tellUp : bHead (bm_10 16) ∈ bw_G := sorry
theorem bkM_X8_toPower : bchkM bmeth bmjs 2577 = true := sorry
theorem bkH_X8_toPower : bHead (bm_10 17) ∈ bw_G := sorry
theorem bkM_X8_toRoot : bchkM bmeth bmjs 2578 = true := sorry
theorem bkH_X8_toRoot : bHead (bm_10 18) ∈ bw_G := sorry
theorem bkM_X8_turn : bchkM bmeth bmjs 2579 = true := sorry
theorem bkH_X8_turn : bHead (bm_10 19) ∈ bw_G := sorry
theorem bkM_X8_wholeOfRow : bchkM bmeth bmjs 2580 = true := sorry
theorem bkH_X8_wholeOfRow : bHead (bm_10 20) ∈ bw_G := sorry
theorem bkM_X8_widen : bchkM bmeth bmjs 2581 = true := sorry
theorem bkH_X8_widen : bHead (bm_10 21) ∈ bw_G := sorry
theorem bkMA_10 : ∀ k, k < 22 → (bmjs (2560 + k)).1 ≠ 0 → bchkM bmeth bmjs (2560 + k) = true ∧ bHead (bm_10 k) ∈ bw_G := sorry
noncomputable def bm_11 (k : Nat) : bM := bmc_11.getD k bnoM
theorem bkD_X9_init_0 : bchk3 (bm_11 0) bk_X9_init_0 = true := sorry
theorem bkD_X9_init_1 : bchk3 (bm_11 0) bk_X9_init_1 = true := sorry
theorem bkD_X9_init : bchk3 (bm_11 0) bk_X9_init = true := sorry
theorem bkD_X9_box : bchk3 (bm_11 1) bk_X9_box = true := sorry
theorem bkD_X9_fill_0 : bchk3 (bm_11 2) bk_X9_fill_0 = true := sorry
theorem bkD_X9_fill_1 : bchk3 (bm_11 2) bk_X9_fill_1 = true := sorry
theorem bkD_X9_fill : bchk3 (bm_11 2) bk_X9_fill = true := sorry
