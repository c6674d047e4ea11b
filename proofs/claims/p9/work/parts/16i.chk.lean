/-! The checks, go on. -/
theorem bkD_X9_holds : bchk3 (bm_11 3) bk_X9_holds = true := sorry
theorem bkD_X9_isShelf : bchk3 (bm_11 4) bk_X9_isShelf = true := sorry
theorem bkD_X9_takeBack : bchk3 (bm_11 5) bk_X9_takeBack = true := sorry
theorem bkA_11 : bAllOk (fun y l => bchk3 y l = true) bkc_11 bmc_11 := sorry
theorem bkM_X9_init : bchkM bmeth bmjs 2816 = true := sorry
theorem bkH_X9_init : bHead (bm_11 0) ∈ bw_G := sorry
theorem bkM_X9_box : bchkM bmeth bmjs 2817 = true := sorry
theorem bkH_X9_box : bHead (bm_11 1) ∈ bw_G := sorry
theorem bkM_X9_fill : bchkM bmeth bmjs 2818 = true := sorry
theorem bkH_X9_fill : bHead (bm_11 2) ∈ bw_G := sorry
theorem bkM_X9_holds : bchkM bmeth bmjs 2819 = true := sorry
theorem bkH_X9_holds : bHead (bm_11 3) ∈ bw_G := sorry
theorem bkM_X9_isShelf : bchkM bmeth bmjs 2820 = true := sorry
theorem bkH_X9_isShelf : bHead (bm_11 4) ∈ bw_G := sorry
theorem bkM_X9_takeBack : bchkM bmeth bmjs 2821 = true := sorry
theorem bkH_X9_takeBack : bHead (bm_11 5) ∈ bw_G := sorry
theorem bkMA_11 : ∀ k, k < 6 → (bmjs (2816 + k)).1 ≠ 0 → bchkM bmeth bmjs (2816 + k) = true ∧ bHead (bm_11 k) ∈ bw_G := sorry
noncomputable def bm_12 (k : Nat) : bM := bmc_12.getD k bnoM
theorem bkD_X10_init : bchk3 (bm_12 0) bk_X10_init = true := sorry
theorem bkD_X10_addedTo : bchk3 (bm_12 1) bk_X10_addedTo = true := sorry
theorem bkD_X10_append : bchk3 (bm_12 2) bk_X10_append = true := sorry
theorem bkD_X10_at : bchk3 (bm_12 3) bk_X10_at = true := sorry
theorem bkD_X10_clear : bchk3 (bm_12 4) bk_X10_clear = true := sorry
theorem bkD_X10_isDigitAt : bchk3 (bm_12 5) bk_X10_isDigitAt = true := sorry
theorem bkD_X10_isNumber_0 : bchk3 (bm_12 6) bk_X10_isNumber_0 = true := sorry
theorem bkD_X10_isNumber_1 : bchk3 (bm_12 6) bk_X10_isNumber_1 = true := sorry
theorem bkD_X10_isNumber : bchk3 (bm_12 6) bk_X10_isNumber = true := sorry
theorem bkD_X10_write_0 : bchk3 (bm_12 7) bk_X10_write_0 = true := sorry
theorem bkD_X10_write_1 : bchk3 (bm_12 7) bk_X10_write_1 = true := sorry
theorem bkD_X10_write_2 : bchk3 (bm_12 7) bk_X10_write_2 = true := sorry
theorem bkD_X10_write : bchk3 (bm_12 7) bk_X10_write = true := sorry
theorem bkA_12 : bAllOk (fun y l => bchk3 y l = true) bkc_12 bmc_12 := sorry
theorem bkM_X10_init : bchkM bmeth bmjs 3072 = true := sorry
theorem bkH_X10_init : bHead (bm_12 0) ∈ bw_G := sorry
theorem bkM_X10_addedTo : bchkM bmeth bmjs 3073 = true := sorry
theorem bkH_X10_addedTo : bHead (bm_12 1) ∈ bw_G := sorry
theorem bkM_X10_append : bchkM bmeth bmjs 3074 = true := sorry
theorem bkH_X10_append : bHead (bm_12 2) ∈ bw_G := sorry
theorem bkM_X10_at : bchkM bmeth bmjs 3075 = true := sorry
theorem bkH_X10_at : bHead (bm_12 3) ∈ bw_G := sorry
theorem bkM_X10_clear : bchkM bmeth bmjs 3076 = true := sorry
theorem bkH_X10_clear : bHead (bm_12 4) ∈ bw_G := sorry
theorem bkM_X10_isDigitAt : bchkM bmeth bmjs 3077 = true := sorry
theorem bkH_X10_isDigitAt : bHead (bm_12 5) ∈ bw_G := sorry
theorem bkM_X10_isNumber : bchkM bmeth bmjs 3078 = true := sorry
theorem bkH_X10_isNumber : bHead (bm_12 6) ∈ bw_G := sorry
theorem bkM_X10_write : bchkM bmeth bmjs 3079 = true := sorry
theorem bkH_X10_write : bHead (bm_12 7) ∈ bw_G := sorry
theorem bkMA_12 : ∀ k, k < 8 → (bmjs (3072 + k)).1 ≠ 0 → bchkM bmeth bmjs (3072 + k) = true ∧ bHead (bm_12 k) ∈ bw_G := sorry
noncomputable def bm_13 (k : Nat) : bM := bmc_13.getD k bnoM
theorem bkD_X11_init_0 : bchk3 (bm_13 0) bk_X11_init_0 = true := sorry
theorem bkD_X11_init_1 : bchk3 (bm_13 0) bk_X11_init_1 = true := sorry
theorem bkD_X11_init_2 : bchk3 (bm_13 0) bk_X11_init_2 = true := sorry
theorem bkD_X11_init : bchk3 (bm_13 0) bk_X11_init = true := sorry
theorem bkD_X11_add : bchk3 (bm_13 1) bk_X11_add = true := sorry
theorem bkD_X11_apply : bchk3 (bm_13 2) bk_X11_apply = true := sorry
theorem bkD_X11_area : bchk3 (bm_13 3) bk_X11_area = true := sorry
theorem bkD_X11_become : bchk3 (bm_13 4) bk_X11_become = true := sorry
theorem bkD_X11_canBeZero : bchk3 (bm_13 5) bk_X11_canBeZero = true := sorry
theorem bkD_X11_change : bchk3 (bm_13 6) bk_X11_change = true := sorry
theorem bkD_X11_checkBoundsCall : bchk3 (bm_13 7) bk_X11_checkBoundsCall = true := sorry
theorem bkD_X11_checkCuts : bchk3 (bm_13 8) bk_X11_checkCuts = true := sorry
theorem bkD_X11_checkDefined : bchk3 (bm_13 9) bk_X11_checkDefined = true := sorry
theorem bkD_X11_checkFormula : bchk3 (bm_13 10) bk_X11_checkFormula = true := sorry
