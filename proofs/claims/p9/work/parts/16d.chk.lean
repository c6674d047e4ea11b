/-! The checks, go on. -/
theorem bkM_X3_sumPowers : bchkM bmeth bmjs 1289 = true := sorry
theorem bkH_X3_sumPowers : bHead (bm_5 9) ∈ bw_G := sorry
theorem bkM_X3_tell : bchkM bmeth bmjs 1290 = true := sorry
theorem bkH_X3_tell : bHead (bm_5 10) ∈ bw_G := sorry
theorem bkMA_5 : ∀ k, k < 11 → (bmjs (1280 + k)).1 ≠ 0 → bchkM bmeth bmjs (1280 + k) = true ∧ bHead (bm_5 k) ∈ bw_G := sorry
noncomputable def bm_6 (k : Nat) : bM := bmc_6.getD k bnoM
theorem bkD_X4_init : bchk3 (bm_6 0) bk_X4_init = true := sorry
theorem bkD_X4_clear : bchk3 (bm_6 1) bk_X4_clear = true := sorry
theorem bkD_X4_copy : bchk3 (bm_6 2) bk_X4_copy = true := sorry
theorem bkD_X4_isBelow : bchk3 (bm_6 3) bk_X4_isBelow = true := sorry
theorem bkD_X4_isZero : bchk3 (bm_6 4) bk_X4_isZero = true := sorry
theorem bkD_X4_limbAt : bchk3 (bm_6 5) bk_X4_limbAt = true := sorry
theorem bkD_X4_load_0 : bchk3 (bm_6 6) bk_X4_load_0 = true := sorry
theorem bkD_X4_load_1 : bchk3 (bm_6 6) bk_X4_load_1 = true := sorry
theorem bkD_X4_load : bchk3 (bm_6 6) bk_X4_load = true := sorry
theorem bkD_X4_minus : bchk3 (bm_6 7) bk_X4_minus = true := sorry
theorem bkD_X4_over : bchk3 (bm_6 8) bk_X4_over = true := sorry
theorem bkD_X4_plus : bchk3 (bm_6 9) bk_X4_plus = true := sorry
theorem bkD_X4_setLimb : bchk3 (bm_6 10) bk_X4_setLimb = true := sorry
theorem bkD_X4_toProduct_0 : bchk3 (bm_6 11) bk_X4_toProduct_0 = true := sorry
theorem bkD_X4_toProduct_1 : bchk3 (bm_6 11) bk_X4_toProduct_1 = true := sorry
theorem bkD_X4_toProduct : bchk3 (bm_6 11) bk_X4_toProduct = true := sorry
theorem bkA_6 : bAllOk (fun y l => bchk3 y l = true) bkc_6 bmc_6 := sorry
theorem bkM_X4_init : bchkM bmeth bmjs 1536 = true := sorry
theorem bkH_X4_init : bHead (bm_6 0) ∈ bw_G := sorry
theorem bkM_X4_clear : bchkM bmeth bmjs 1537 = true := sorry
theorem bkH_X4_clear : bHead (bm_6 1) ∈ bw_G := sorry
theorem bkM_X4_copy : bchkM bmeth bmjs 1538 = true := sorry
theorem bkH_X4_copy : bHead (bm_6 2) ∈ bw_G := sorry
theorem bkM_X4_isBelow : bchkM bmeth bmjs 1539 = true := sorry
theorem bkH_X4_isBelow : bHead (bm_6 3) ∈ bw_G := sorry
theorem bkM_X4_isZero : bchkM bmeth bmjs 1540 = true := sorry
theorem bkH_X4_isZero : bHead (bm_6 4) ∈ bw_G := sorry
theorem bkM_X4_limbAt : bchkM bmeth bmjs 1541 = true := sorry
theorem bkH_X4_limbAt : bHead (bm_6 5) ∈ bw_G := sorry
theorem bkM_X4_load : bchkM bmeth bmjs 1542 = true := sorry
theorem bkH_X4_load : bHead (bm_6 6) ∈ bw_G := sorry
theorem bkM_X4_minus : bchkM bmeth bmjs 1543 = true := sorry
theorem bkH_X4_minus : bHead (bm_6 7) ∈ bw_G := sorry
theorem bkM_X4_over : bchkM bmeth bmjs 1544 = true := sorry
theorem bkH_X4_over : bHead (bm_6 8) ∈ bw_G := sorry
theorem bkM_X4_plus : bchkM bmeth bmjs 1545 = true := sorry
theorem bkH_X4_plus : bHead (bm_6 9) ∈ bw_G := sorry
theorem bkM_X4_setLimb : bchkM bmeth bmjs 1546 = true := sorry
theorem bkH_X4_setLimb : bHead (bm_6 10) ∈ bw_G := sorry
theorem bkM_X4_toProduct : bchkM bmeth bmjs 1547 = true := sorry
theorem bkH_X4_toProduct : bHead (bm_6 11) ∈ bw_G := sorry
theorem bkMA_6 : ∀ k, k < 12 → (bmjs (1536 + k)).1 ≠ 0 → bchkM bmeth bmjs (1536 + k) = true ∧ bHead (bm_6 k) ∈ bw_G := sorry
noncomputable def bm_7 (k : Nat) : bM := bmc_7.getD k bnoM
theorem bkD_X5_init : bchk3 (bm_7 0) bk_X5_init = true := sorry
theorem bkD_X5_actAt : bchk3 (bm_7 1) bk_X5_actAt = true := sorry
theorem bkD_X5_append : bchk3 (bm_7 2) bk_X5_append = true := sorry
theorem bkD_X5_closeAtom : bchk3 (bm_7 3) bk_X5_closeAtom = true := sorry
theorem bkD_X5_findStarts_0 : bchk3 (bm_7 4) bk_X5_findStarts_0 = true := sorry
theorem bkD_X5_findStarts_1 : bchk3 (bm_7 4) bk_X5_findStarts_1 = true := sorry
theorem bkD_X5_findStarts : bchk3 (bm_7 4) bk_X5_findStarts = true := sorry
theorem bkD_X5_hold : bchk3 (bm_7 5) bk_X5_hold = true := sorry
theorem bkD_X5_isAhead : bchk3 (bm_7 6) bk_X5_isAhead = true := sorry
theorem bkD_X5_isPair : bchk3 (bm_7 7) bk_X5_isPair = true := sorry
theorem bkD_X5_lastHeld : bchk3 (bm_7 8) bk_X5_lastHeld = true := sorry
theorem bkD_X5_leftOf : bchk3 (bm_7 9) bk_X5_leftOf = true := sorry
theorem bkD_X5_numberAt : bchk3 (bm_7 10) bk_X5_numberAt = true := sorry
theorem bkD_X5_parse_0 : bchk3 (bm_7 11) bk_X5_parse_0 = true := sorry
