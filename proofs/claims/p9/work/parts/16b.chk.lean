/-! The checks, go on. -/
theorem bkD_X1_roundDown : bchk3 (bm_3 10) bk_X1_roundDown = true := sorry
theorem bkD_X1_roundUp : bchk3 (bm_3 11) bk_X1_roundUp = true := sorry
theorem bkD_X1_shift : bchk3 (bm_3 12) bk_X1_shift = true := sorry
theorem bkD_X1_toDifference : bchk3 (bm_3 13) bk_X1_toDifference = true := sorry
theorem bkD_X1_toMultiple : bchk3 (bm_3 14) bk_X1_toMultiple = true := sorry
theorem bkD_X1_toSum : bchk3 (bm_3 15) bk_X1_toSum = true := sorry
theorem bkD_X1_turn : bchk3 (bm_3 16) bk_X1_turn = true := sorry
theorem bkA_3 : bAllOk (fun y l => bchk3 y l = true) bkc_3 bmc_3 := sorry
theorem bkM_X1_init : bchkM bmeth bmjs 768 = true := sorry
theorem bkH_X1_init : bHead (bm_3 0) ∈ bw_G := sorry
theorem bkM_X1_against : bchkM bmeth bmjs 769 = true := sorry
theorem bkH_X1_against : bHead (bm_3 1) ∈ bw_G := sorry
theorem bkM_X1_assign : bchkM bmeth bmjs 770 = true := sorry
theorem bkH_X1_assign : bHead (bm_3 2) ∈ bw_G := sorry
theorem bkM_X1_copy : bchkM bmeth bmjs 771 = true := sorry
theorem bkH_X1_copy : bHead (bm_3 3) ∈ bw_G := sorry
theorem bkM_X1_halve : bchkM bmeth bmjs 772 = true := sorry
theorem bkH_X1_halve : bHead (bm_3 4) ∈ bw_G := sorry
theorem bkM_X1_isBelow : bchkM bmeth bmjs 773 = true := sorry
theorem bkH_X1_isBelow : bHead (bm_3 5) ∈ bw_G := sorry
theorem bkM_X1_isNegative : bchkM bmeth bmjs 774 = true := sorry
theorem bkH_X1_isNegative : bHead (bm_3 6) ∈ bw_G := sorry
theorem bkM_X1_isPositive : bchkM bmeth bmjs 775 = true := sorry
theorem bkH_X1_isPositive : bHead (bm_3 7) ∈ bw_G := sorry
theorem bkM_X1_isTooGreat : bchkM bmeth bmjs 776 = true := sorry
theorem bkH_X1_isTooGreat : bHead (bm_3 8) ∈ bw_G := sorry
theorem bkM_X1_isZero : bchkM bmeth bmjs 777 = true := sorry
theorem bkH_X1_isZero : bHead (bm_3 9) ∈ bw_G := sorry
theorem bkM_X1_roundDown : bchkM bmeth bmjs 778 = true := sorry
theorem bkH_X1_roundDown : bHead (bm_3 10) ∈ bw_G := sorry
theorem bkM_X1_roundUp : bchkM bmeth bmjs 779 = true := sorry
theorem bkH_X1_roundUp : bHead (bm_3 11) ∈ bw_G := sorry
theorem bkM_X1_shift : bchkM bmeth bmjs 780 = true := sorry
theorem bkH_X1_shift : bHead (bm_3 12) ∈ bw_G := sorry
theorem bkM_X1_toDifference : bchkM bmeth bmjs 781 = true := sorry
theorem bkH_X1_toDifference : bHead (bm_3 13) ∈ bw_G := sorry
theorem bkM_X1_toMultiple : bchkM bmeth bmjs 782 = true := sorry
theorem bkH_X1_toMultiple : bHead (bm_3 14) ∈ bw_G := sorry
theorem bkM_X1_toSum : bchkM bmeth bmjs 783 = true := sorry
theorem bkH_X1_toSum : bHead (bm_3 15) ∈ bw_G := sorry
theorem bkM_X1_turn : bchkM bmeth bmjs 784 = true := sorry
theorem bkH_X1_turn : bHead (bm_3 16) ∈ bw_G := sorry
theorem bkMA_3 : ∀ k, k < 17 → (bmjs (768 + k)).1 ≠ 0 → bchkM bmeth bmjs (768 + k) = true ∧ bHead (bm_3 k) ∈ bw_G := sorry
noncomputable def bm_4 (k : Nat) : bM := bmc_4.getD k bnoM
theorem bkD_X2_init : bchk3 (bm_4 0) bk_X2_init = true := sorry
theorem bkD_X2_between : bchk3 (bm_4 1) bk_X2_between = true := sorry
theorem bkD_X2_copy : bchk3 (bm_4 2) bk_X2_copy = true := sorry
theorem bkD_X2_cutDownTo : bchk3 (bm_4 3) bk_X2_cutDownTo = true := sorry
theorem bkD_X2_dropSigns : bchk3 (bm_4 4) bk_X2_dropSigns = true := sorry
theorem bkD_X2_embrace : bchk3 (bm_4 5) bk_X2_embrace = true := sorry
theorem bkD_X2_holdsZero : bchk3 (bm_4 6) bk_X2_holdsZero = true := sorry
theorem bkD_X2_isSingle : bchk3 (bm_4 7) bk_X2_isSingle = true := sorry
theorem bkD_X2_isTooGreat : bchk3 (bm_4 8) bk_X2_isTooGreat = true := sorry
theorem bkD_X2_liesIn : bchk3 (bm_4 9) bk_X2_liesIn = true := sorry
theorem bkD_X2_roundOut : bchk3 (bm_4 10) bk_X2_roundOut = true := sorry
theorem bkD_X2_toMiddle : bchk3 (bm_4 11) bk_X2_toMiddle = true := sorry
theorem bkD_X2_turn : bchk3 (bm_4 12) bk_X2_turn = true := sorry
theorem bkA_4 : bAllOk (fun y l => bchk3 y l = true) bkc_4 bmc_4 := sorry
theorem bkM_X2_init : bchkM bmeth bmjs 1024 = true := sorry
theorem bkH_X2_init : bHead (bm_4 0) ∈ bw_G := sorry
theorem bkM_X2_between : bchkM bmeth bmjs 1025 = true := sorry
theorem bkH_X2_between : bHead (bm_4 1) ∈ bw_G := sorry
theorem bkM_X2_copy : bchkM bmeth bmjs 1026 = true := sorry
theorem bkH_X2_copy : bHead (bm_4 2) ∈ bw_G := sorry
theorem bkM_X2_cutDownTo : bchkM bmeth bmjs 1027 = true := sorry
theorem bkH_X2_cutDownTo : bHead (bm_4 3) ∈ bw_G := sorry
theorem bkM_X2_dropSigns : bchkM bmeth bmjs 1028 = true := sorry
theorem bkH_X2_dropSigns : bHead (bm_4 4) ∈ bw_G := sorry
