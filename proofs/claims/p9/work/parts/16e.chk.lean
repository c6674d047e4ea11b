/-! The checks, go on. -/
theorem bkD_X5_parse_1 : bchk3 (bm_7 11) bk_X5_parse_1 = true := sorry
theorem bkD_X5_parse : bchk3 (bm_7 11) bk_X5_parse = true := sorry
theorem bkD_X5_release : bchk3 (bm_7 12) bk_X5_release = true := sorry
theorem bkD_X5_releaseProducts : bchk3 (bm_7 13) bk_X5_releaseProducts = true := sorry
theorem bkD_X5_releaseSums : bchk3 (bm_7 14) bk_X5_releaseSums = true := sorry
theorem bkD_X5_scaleAt : bchk3 (bm_7 15) bk_X5_scaleAt = true := sorry
theorem bkD_X5_startOf : bchk3 (bm_7 16) bk_X5_startOf = true := sorry
theorem bkD_X5_takesAct : bchk3 (bm_7 17) bk_X5_takesAct = true := sorry
theorem bkD_X5_takesAtom_0 : bchk3 (bm_7 18) bk_X5_takesAtom_0 = true := sorry
theorem bkD_X5_takesAtom_1 : bchk3 (bm_7 18) bk_X5_takesAtom_1 = true := sorry
theorem bkD_X5_takesAtom : bchk3 (bm_7 18) bk_X5_takesAtom = true := sorry
theorem bkD_X5_takesClosing : bchk3 (bm_7 19) bk_X5_takesClosing = true := sorry
theorem bkD_X5_takesExponent : bchk3 (bm_7 20) bk_X5_takesExponent = true := sorry
theorem bkD_X5_takesNumber_0 : bchk3 (bm_7 21) bk_X5_takesNumber_0 = true := sorry
theorem bkD_X5_takesNumber_1 : bchk3 (bm_7 21) bk_X5_takesNumber_1 = true := sorry
theorem bkD_X5_takesNumber : bchk3 (bm_7 21) bk_X5_takesNumber = true := sorry
theorem bkD_X5_within : bchk3 (bm_7 22) bk_X5_within = true := sorry
theorem bkA_7 : bAllOk (fun y l => bchk3 y l = true) bkc_7 bmc_7 := sorry
theorem bkM_X5_init : bchkM bmeth bmjs 1792 = true := sorry
theorem bkH_X5_init : bHead (bm_7 0) ∈ bw_G := sorry
theorem bkM_X5_actAt : bchkM bmeth bmjs 1793 = true := sorry
theorem bkH_X5_actAt : bHead (bm_7 1) ∈ bw_G := sorry
theorem bkM_X5_append : bchkM bmeth bmjs 1794 = true := sorry
theorem bkH_X5_append : bHead (bm_7 2) ∈ bw_G := sorry
theorem bkM_X5_closeAtom : bchkM bmeth bmjs 1795 = true := sorry
theorem bkH_X5_closeAtom : bHead (bm_7 3) ∈ bw_G := sorry
theorem bkM_X5_findStarts : bchkM bmeth bmjs 1796 = true := sorry
theorem bkH_X5_findStarts : bHead (bm_7 4) ∈ bw_G := sorry
theorem bkM_X5_hold : bchkM bmeth bmjs 1797 = true := sorry
theorem bkH_X5_hold : bHead (bm_7 5) ∈ bw_G := sorry
theorem bkM_X5_isAhead : bchkM bmeth bmjs 1798 = true := sorry
theorem bkH_X5_isAhead : bHead (bm_7 6) ∈ bw_G := sorry
theorem bkM_X5_isPair : bchkM bmeth bmjs 1799 = true := sorry
theorem bkH_X5_isPair : bHead (bm_7 7) ∈ bw_G := sorry
theorem bkM_X5_lastHeld : bchkM bmeth bmjs 1800 = true := sorry
theorem bkH_X5_lastHeld : bHead (bm_7 8) ∈ bw_G := sorry
theorem bkM_X5_leftOf : bchkM bmeth bmjs 1801 = true := sorry
theorem bkH_X5_leftOf : bHead (bm_7 9) ∈ bw_G := sorry
theorem bkM_X5_numberAt : bchkM bmeth bmjs 1802 = true := sorry
theorem bkH_X5_numberAt : bHead (bm_7 10) ∈ bw_G := sorry
theorem bkM_X5_parse : bchkM bmeth bmjs 1803 = true := sorry
theorem bkH_X5_parse : bHead (bm_7 11) ∈ bw_G := sorry
theorem bkM_X5_release : bchkM bmeth bmjs 1804 = true := sorry
theorem bkH_X5_release : bHead (bm_7 12) ∈ bw_G := sorry
theorem bkM_X5_releaseProducts : bchkM bmeth bmjs 1805 = true := sorry
theorem bkH_X5_releaseProducts : bHead (bm_7 13) ∈ bw_G := sorry
theorem bkM_X5_releaseSums : bchkM bmeth bmjs 1806 = true := sorry
theorem bkH_X5_releaseSums : bHead (bm_7 14) ∈ bw_G := sorry
theorem bkM_X5_scaleAt : bchkM bmeth bmjs 1807 = true := sorry
theorem bkH_X5_scaleAt : bHead (bm_7 15) ∈ bw_G := sorry
theorem bkM_X5_startOf : bchkM bmeth bmjs 1808 = true := sorry
theorem bkH_X5_startOf : bHead (bm_7 16) ∈ bw_G := sorry
theorem bkM_X5_takesAct : bchkM bmeth bmjs 1809 = true := sorry
theorem bkH_X5_takesAct : bHead (bm_7 17) ∈ bw_G := sorry
theorem bkM_X5_takesAtom : bchkM bmeth bmjs 1810 = true := sorry
theorem bkH_X5_takesAtom : bHead (bm_7 18) ∈ bw_G := sorry
theorem bkM_X5_takesClosing : bchkM bmeth bmjs 1811 = true := sorry
theorem bkH_X5_takesClosing : bHead (bm_7 19) ∈ bw_G := sorry
theorem bkM_X5_takesExponent : bchkM bmeth bmjs 1812 = true := sorry
theorem bkH_X5_takesExponent : bHead (bm_7 20) ∈ bw_G := sorry
theorem bkM_X5_takesNumber : bchkM bmeth bmjs 1813 = true := sorry
theorem bkH_X5_takesNumber : bHead (bm_7 21) ∈ bw_G := sorry
theorem bkM_X5_within : bchkM bmeth bmjs 1814 = true := sorry
theorem bkH_X5_within : bHead (bm_7 22) ∈ bw_G := sorry
theorem bkMA_7 : ∀ k, k < 23 → (bmjs (1792 + k)).1 ≠ 0 → bchkM bmeth bmjs (1792 + k) = true ∧ bHead (bm_7 k) ∈ bw_G := sorry
noncomputable def bm_8 (k : Nat) : bM := bmc_8.getD k bnoM
theorem bkD_X6_init_0 : bchk3 (bm_8 0) bk_X6_init_0 = true := sorry
theorem bkD_X6_init_1 : bchk3 (bm_8 0) bk_X6_init_1 = true := sorry
