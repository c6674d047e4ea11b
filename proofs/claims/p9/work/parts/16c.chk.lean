/-! The checks, go on. -/
theorem bkM_X2_embrace : bchkM bmeth bmjs 1029 = true := sorry
theorem bkH_X2_embrace : bHead (bm_4 5) ∈ bw_G := sorry
theorem bkM_X2_holdsZero : bchkM bmeth bmjs 1030 = true := sorry
theorem bkH_X2_holdsZero : bHead (bm_4 6) ∈ bw_G := sorry
theorem bkM_X2_isSingle : bchkM bmeth bmjs 1031 = true := sorry
theorem bkH_X2_isSingle : bHead (bm_4 7) ∈ bw_G := sorry
theorem bkM_X2_isTooGreat : bchkM bmeth bmjs 1032 = true := sorry
theorem bkH_X2_isTooGreat : bHead (bm_4 8) ∈ bw_G := sorry
theorem bkM_X2_liesIn : bchkM bmeth bmjs 1033 = true := sorry
theorem bkH_X2_liesIn : bHead (bm_4 9) ∈ bw_G := sorry
theorem bkM_X2_roundOut : bchkM bmeth bmjs 1034 = true := sorry
theorem bkH_X2_roundOut : bHead (bm_4 10) ∈ bw_G := sorry
theorem bkM_X2_toMiddle : bchkM bmeth bmjs 1035 = true := sorry
theorem bkH_X2_toMiddle : bHead (bm_4 11) ∈ bw_G := sorry
theorem bkM_X2_turn : bchkM bmeth bmjs 1036 = true := sorry
theorem bkH_X2_turn : bHead (bm_4 12) ∈ bw_G := sorry
theorem bkMA_4 : ∀ k, k < 13 → (bmjs (1024 + k)).1 ≠ 0 → bchkM bmeth bmjs (1024 + k) = true ∧ bHead (bm_4 k) ∈ bw_G := sorry
noncomputable def bm_5 (k : Nat) : bM := bmc_5.getD k bnoM
theorem bkD_X3_init_0 : bchk3 (bm_5 0) bk_X3_init_0 = true := sorry
theorem bkD_X3_init_1 : bchk3 (bm_5 0) bk_X3_init_1 = true := sorry
theorem bkD_X3_init : bchk3 (bm_5 0) bk_X3_init = true := sorry
theorem bkD_X3_arc_0 : bchk3 (bm_5 1) bk_X3_arc_0 = true := sorry
theorem bkD_X3_arc_1 : bchk3 (bm_5 1) bk_X3_arc_1 = true := sorry
theorem bkD_X3_arc_2 : bchk3 (bm_5 1) bk_X3_arc_2 = true := sorry
theorem bkD_X3_arc : bchk3 (bm_5 1) bk_X3_arc = true := sorry
theorem bkD_X3_begin : bchk3 (bm_5 2) bk_X3_begin = true := sorry
theorem bkD_X3_exponential_0 : bchk3 (bm_5 3) bk_X3_exponential_0 = true := sorry
theorem bkD_X3_exponential_1 : bchk3 (bm_5 3) bk_X3_exponential_1 = true := sorry
theorem bkD_X3_exponential : bchk3 (bm_5 3) bk_X3_exponential = true := sorry
theorem bkD_X3_logarithm_0 : bchk3 (bm_5 4) bk_X3_logarithm_0 = true := sorry
theorem bkD_X3_logarithm_1 : bchk3 (bm_5 4) bk_X3_logarithm_1 = true := sorry
theorem bkD_X3_logarithm_2 : bchk3 (bm_5 4) bk_X3_logarithm_2 = true := sorry
theorem bkD_X3_logarithm : bchk3 (bm_5 4) bk_X3_logarithm = true := sorry
theorem bkD_X3_nearestEighth : bchk3 (bm_5 5) bk_X3_nearestEighth = true := sorry
theorem bkD_X3_settle : bchk3 (bm_5 6) bk_X3_settle = true := sorry
theorem bkD_X3_shiftToEighth_0 : bchk3 (bm_5 7) bk_X3_shiftToEighth_0 = true := sorry
theorem bkD_X3_shiftToEighth_1 : bchk3 (bm_5 7) bk_X3_shiftToEighth_1 = true := sorry
theorem bkD_X3_shiftToEighth : bchk3 (bm_5 7) bk_X3_shiftToEighth = true := sorry
theorem bkD_X3_sumOddPowers_0 : bchk3 (bm_5 8) bk_X3_sumOddPowers_0 = true := sorry
theorem bkD_X3_sumOddPowers_1 : bchk3 (bm_5 8) bk_X3_sumOddPowers_1 = true := sorry
theorem bkD_X3_sumOddPowers : bchk3 (bm_5 8) bk_X3_sumOddPowers = true := sorry
theorem bkD_X3_sumPowers_0 : bchk3 (bm_5 9) bk_X3_sumPowers_0 = true := sorry
theorem bkD_X3_sumPowers_1 : bchk3 (bm_5 9) bk_X3_sumPowers_1 = true := sorry
theorem bkD_X3_sumPowers : bchk3 (bm_5 9) bk_X3_sumPowers = true := sorry
theorem bkD_X3_tell : bchk3 (bm_5 10) bk_X3_tell = true := sorry
theorem bkA_5 : bAllOk (fun y l => bchk3 y l = true) bkc_5 bmc_5 := sorry
theorem bkM_X3_init : bchkM bmeth bmjs 1280 = true := sorry
theorem bkH_X3_init : bHead (bm_5 0) ∈ bw_G := sorry
theorem bkM_X3_arc : bchkM bmeth bmjs 1281 = true := sorry
theorem bkH_X3_arc : bHead (bm_5 1) ∈ bw_G := sorry
theorem bkM_X3_begin : bchkM bmeth bmjs 1282 = true := sorry
theorem bkH_X3_begin : bHead (bm_5 2) ∈ bw_G := sorry
theorem bkM_X3_exponential : bchkM bmeth bmjs 1283 = true := sorry
theorem bkH_X3_exponential : bHead (bm_5 3) ∈ bw_G := sorry
theorem bkM_X3_logarithm : bchkM bmeth bmjs 1284 = true := sorry
theorem bkH_X3_logarithm : bHead (bm_5 4) ∈ bw_G := sorry
theorem bkM_X3_nearestEighth : bchkM bmeth bmjs 1285 = true := sorry
theorem bkH_X3_nearestEighth : bHead (bm_5 5) ∈ bw_G := sorry
theorem bkM_X3_settle : bchkM bmeth bmjs 1286 = true := sorry
theorem bkH_X3_settle : bHead (bm_5 6) ∈ bw_G := sorry
theorem bkM_X3_shiftToEighth : bchkM bmeth bmjs 1287 = true := sorry
theorem bkH_X3_shiftToEighth : bHead (bm_5 7) ∈ bw_G := sorry
theorem bkM_X3_sumOddPowers : bchkM bmeth bmjs 1288 = true := sorry
theorem bkH_X3_sumOddPowers : bHead (bm_5 8) ∈ bw_G := sorry
