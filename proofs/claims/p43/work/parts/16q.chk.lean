/-! The checks, go on. -/
theorem bkD_X12_odds_1 : bchk3 (bm_14 86) bk_X12_odds_1 = true := by decide +kernel
theorem bkD_X12_odds : bchk3 (bm_14 86) bk_X12_odds = true := bchk3_app bkD_X12_odds_0 (bkD_X12_odds_1)
theorem bkD_X12_order : bchk3 (bm_14 87) bk_X12_order = true := by decide +kernel
theorem bkD_X12_outward_0 : bchk3 (bm_14 88) bk_X12_outward_0 = true := by decide +kernel
theorem bkD_X12_outward_1 : bchk3 (bm_14 88) bk_X12_outward_1 = true := by decide +kernel
theorem bkD_X12_outward_2 : bchk3 (bm_14 88) bk_X12_outward_2 = true := by decide +kernel
theorem bkD_X12_outward : bchk3 (bm_14 88) bk_X12_outward = true := bchk3_app bkD_X12_outward_0 (bchk3_app bkD_X12_outward_1 (bkD_X12_outward_2))
theorem bkD_X12_pair_0 : bchk3 (bm_14 89) bk_X12_pair_0 = true := by decide +kernel
theorem bkD_X12_pair_1 : bchk3 (bm_14 89) bk_X12_pair_1 = true := by decide +kernel
theorem bkD_X12_pair_2 : bchk3 (bm_14 89) bk_X12_pair_2 = true := by decide +kernel
theorem bkD_X12_pair : bchk3 (bm_14 89) bk_X12_pair = true := bchk3_app bkD_X12_pair_0 (bchk3_app bkD_X12_pair_1 (bkD_X12_pair_2))
theorem bkD_X12_pairs_0 : bchk3 (bm_14 90) bk_X12_pairs_0 = true := by decide +kernel
theorem bkD_X12_pairs_1 : bchk3 (bm_14 90) bk_X12_pairs_1 = true := by decide +kernel
theorem bkD_X12_pairs_2 : bchk3 (bm_14 90) bk_X12_pairs_2 = true := by decide +kernel
theorem bkD_X12_pairs : bchk3 (bm_14 90) bk_X12_pairs = true := bchk3_app bkD_X12_pairs_0 (bchk3_app bkD_X12_pairs_1 (bkD_X12_pairs_2))
theorem bkD_X12_part : bchk3 (bm_14 91) bk_X12_part = true := by decide +kernel
theorem bkD_X12_parts : bchk3 (bm_14 92) bk_X12_parts = true := by decide +kernel
theorem bkD_X12_piece : bchk3 (bm_14 93) bk_X12_piece = true := by decide +kernel
theorem bkD_X12_pieceKind : bchk3 (bm_14 94) bk_X12_pieceKind = true := by decide +kernel
theorem bkD_X12_plus_0 : bchk3 (bm_14 95) bk_X12_plus_0 = true := by decide +kernel
theorem bkD_X12_plus_1 : bchk3 (bm_14 95) bk_X12_plus_1 = true := by decide +kernel
theorem bkD_X12_plus : bchk3 (bm_14 95) bk_X12_plus = true := bchk3_app bkD_X12_plus_0 (bkD_X12_plus_1)
theorem bkD_X12_power : bchk3 (bm_14 96) bk_X12_power = true := by decide +kernel
theorem bkD_X12_powers : bchk3 (bm_14 97) bk_X12_powers = true := by decide +kernel
theorem bkD_X12_product : bchk3 (bm_14 98) bk_X12_product = true := by decide +kernel
theorem bkD_X12_put_0 : bchk3 (bm_14 99) bk_X12_put_0 = true := by decide +kernel
theorem bkD_X12_put_1 : bchk3 (bm_14 99) bk_X12_put_1 = true := by decide +kernel
theorem bkD_X12_put : bchk3 (bm_14 99) bk_X12_put = true := bchk3_app bkD_X12_put_0 (bkD_X12_put_1)
theorem bkD_X12_quotient : bchk3 (bm_14 100) bk_X12_quotient = true := by decide +kernel
theorem bkD_X12_raises_0 : bchk3 (bm_14 101) bk_X12_raises_0 = true := by decide +kernel
theorem bkD_X12_raises_1 : bchk3 (bm_14 101) bk_X12_raises_1 = true := by decide +kernel
theorem bkD_X12_raises_2 : bchk3 (bm_14 101) bk_X12_raises_2 = true := by decide +kernel
theorem bkD_X12_raises : bchk3 (bm_14 101) bk_X12_raises = true := bchk3_app bkD_X12_raises_0 (bchk3_app bkD_X12_raises_1 (bkD_X12_raises_2))
theorem bkD_X12_read_0 : bchk3 (bm_14 102) bk_X12_read_0 = true := by decide +kernel
theorem bkD_X12_read_1 : bchk3 (bm_14 102) bk_X12_read_1 = true := by decide +kernel
theorem bkD_X12_read : bchk3 (bm_14 102) bk_X12_read = true := bchk3_app bkD_X12_read_0 (bkD_X12_read_1)
theorem bkD_X12_readAtom_0 : bchk3 (bm_14 103) bk_X12_readAtom_0 = true := by decide +kernel
theorem bkD_X12_readAtom_1 : bchk3 (bm_14 103) bk_X12_readAtom_1 = true := by decide +kernel
theorem bkD_X12_readAtom_2 : bchk3 (bm_14 103) bk_X12_readAtom_2 = true := by decide +kernel
theorem bkD_X12_readAtom : bchk3 (bm_14 103) bk_X12_readAtom = true := bchk3_app bkD_X12_readAtom_0 (bchk3_app bkD_X12_readAtom_1 (bkD_X12_readAtom_2))
theorem bkD_X12_readNumber_0 : bchk3 (bm_14 104) bk_X12_readNumber_0 = true := by decide +kernel
theorem bkD_X12_readNumber_1 : bchk3 (bm_14 104) bk_X12_readNumber_1 = true := by decide +kernel
theorem bkD_X12_readNumber : bchk3 (bm_14 104) bk_X12_readNumber = true := bchk3_app bkD_X12_readNumber_0 (bkD_X12_readNumber_1)
theorem bkD_X12_readPower : bchk3 (bm_14 105) bk_X12_readPower = true := by decide +kernel
theorem bkD_X12_readProduct : bchk3 (bm_14 106) bk_X12_readProduct = true := by decide +kernel
theorem bkD_X12_readSum : bchk3 (bm_14 107) bk_X12_readSum = true := by decide +kernel
theorem bkD_X12_rises : bchk3 (bm_14 108) bk_X12_rises = true := by decide +kernel
theorem bkD_X12_rising_0 : bchk3 (bm_14 109) bk_X12_rising_0 = true := by decide +kernel
theorem bkD_X12_rising_1 : bchk3 (bm_14 109) bk_X12_rising_1 = true := by decide +kernel
theorem bkD_X12_rising : bchk3 (bm_14 109) bk_X12_rising = true := bchk3_app bkD_X12_rising_0 (bkD_X12_rising_1)
theorem bkD_X12_root : bchk3 (bm_14 110) bk_X12_root = true := by decide +kernel
