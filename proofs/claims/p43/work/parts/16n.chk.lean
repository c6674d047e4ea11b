/-! The checks, go on. -/
theorem bkD_X12_add : bchk3 (bm_14 2) bk_X12_add = true := by decide +kernel
theorem bkD_X12_adds : bchk3 (bm_14 3) bk_X12_adds = true := by decide +kernel
theorem bkD_X12_again_0 : bchk3 (bm_14 4) bk_X12_again_0 = true := by decide +kernel
theorem bkD_X12_again_1 : bchk3 (bm_14 4) bk_X12_again_1 = true := by decide +kernel
theorem bkD_X12_again : bchk3 (bm_14 4) bk_X12_again = true := bchk3_app bkD_X12_again_0 (bkD_X12_again_1)
theorem bkD_X12_apply_0 : bchk3 (bm_14 5) bk_X12_apply_0 = true := by decide +kernel
theorem bkD_X12_apply_1 : bchk3 (bm_14 5) bk_X12_apply_1 = true := by decide +kernel
theorem bkD_X12_apply : bchk3 (bm_14 5) bk_X12_apply = true := bchk3_app bkD_X12_apply_0 (bkD_X12_apply_1)
theorem bkD_X12_arcs_0 : bchk3 (bm_14 6) bk_X12_arcs_0 = true := by decide +kernel
theorem bkD_X12_arcs_1 : bchk3 (bm_14 6) bk_X12_arcs_1 = true := by decide +kernel
theorem bkD_X12_arcs_2 : bchk3 (bm_14 6) bk_X12_arcs_2 = true := by decide +kernel
theorem bkD_X12_arcs_3 : bchk3 (bm_14 6) bk_X12_arcs_3 = true := by decide +kernel
theorem bkD_X12_arcs : bchk3 (bm_14 6) bk_X12_arcs = true := bchk3_app bkD_X12_arcs_0 (bchk3_app bkD_X12_arcs_1 (bchk3_app bkD_X12_arcs_2 (bkD_X12_arcs_3)))
theorem bkD_X12_area : bchk3 (bm_14 7) bk_X12_area = true := by decide +kernel
theorem bkD_X12_areas_0 : bchk3 (bm_14 8) bk_X12_areas_0 = true := by decide +kernel
theorem bkD_X12_areas_1 : bchk3 (bm_14 8) bk_X12_areas_1 = true := by decide +kernel
theorem bkD_X12_areas : bchk3 (bm_14 8) bk_X12_areas = true := bchk3_app bkD_X12_areas_0 (bkD_X12_areas_1)
theorem bkD_X12_becomes_0 : bchk3 (bm_14 9) bk_X12_becomes_0 = true := by decide +kernel
theorem bkD_X12_becomes_1 : bchk3 (bm_14 9) bk_X12_becomes_1 = true := by decide +kernel
theorem bkD_X12_becomes_2 : bchk3 (bm_14 9) bk_X12_becomes_2 = true := by decide +kernel
theorem bkD_X12_becomes : bchk3 (bm_14 9) bk_X12_becomes = true := bchk3_app bkD_X12_becomes_0 (bchk3_app bkD_X12_becomes_1 (bkD_X12_becomes_2))
theorem bkD_X12_bounds : bchk3 (bm_14 10) bk_X12_bounds = true := by decide +kernel
theorem bkD_X12_canBe0 : bchk3 (bm_14 11) bk_X12_canBe0 = true := by decide +kernel
theorem bkD_X12_canCut : bchk3 (bm_14 12) bk_X12_canCut = true := by decide +kernel
theorem bkD_X12_checksum_0 : bchk3 (bm_14 13) bk_X12_checksum_0 = true := by decide +kernel
theorem bkD_X12_checksum_1 : bchk3 (bm_14 13) bk_X12_checksum_1 = true := by decide +kernel
theorem bkD_X12_checksum : bchk3 (bm_14 13) bk_X12_checksum = true := bchk3_app bkD_X12_checksum_0 (bkD_X12_checksum_1)
theorem bkD_X12_compare_0 : bchk3 (bm_14 14) bk_X12_compare_0 = true := by decide +kernel
theorem bkD_X12_compare_1 : bchk3 (bm_14 14) bk_X12_compare_1 = true := by decide +kernel
theorem bkD_X12_compare : bchk3 (bm_14 14) bk_X12_compare = true := bchk3_app bkD_X12_compare_0 (bkD_X12_compare_1)
theorem bkD_X12_compares_0 : bchk3 (bm_14 15) bk_X12_compares_0 = true := by decide +kernel
theorem bkD_X12_compares_1 : bchk3 (bm_14 15) bk_X12_compares_1 = true := by decide +kernel
theorem bkD_X12_compares : bchk3 (bm_14 15) bk_X12_compares = true := bchk3_app bkD_X12_compares_0 (bkD_X12_compares_1)
theorem bkD_X12_constant : bchk3 (bm_14 16) bk_X12_constant = true := by decide +kernel
theorem bkD_X12_copies : bchk3 (bm_14 17) bk_X12_copies = true := by decide +kernel
theorem bkD_X12_crossed : bchk3 (bm_14 18) bk_X12_crossed = true := by decide +kernel
theorem bkD_X12_cutsInto_0 : bchk3 (bm_14 19) bk_X12_cutsInto_0 = true := by decide +kernel
theorem bkD_X12_cutsInto_1 : bchk3 (bm_14 19) bk_X12_cutsInto_1 = true := by decide +kernel
theorem bkD_X12_cutsInto : bchk3 (bm_14 19) bk_X12_cutsInto = true := bchk3_app bkD_X12_cutsInto_0 (bkD_X12_cutsInto_1)
theorem bkD_X12_decide_0 : bchk3 (bm_14 20) bk_X12_decide_0 = true := by decide +kernel
theorem bkD_X12_decide_1 : bchk3 (bm_14 20) bk_X12_decide_1 = true := by decide +kernel
theorem bkD_X12_decide_2 : bchk3 (bm_14 20) bk_X12_decide_2 = true := by decide +kernel
theorem bkD_X12_decide : bchk3 (bm_14 20) bk_X12_decide = true := bchk3_app bkD_X12_decide_0 (bchk3_app bkD_X12_decide_1 (bkD_X12_decide_2))
theorem bkD_X12_deep : bchk3 (bm_14 21) bk_X12_deep = true := by decide +kernel
theorem bkD_X12_define_0 : bchk3 (bm_14 22) bk_X12_define_0 = true := by decide +kernel
theorem bkD_X12_define_1 : bchk3 (bm_14 22) bk_X12_define_1 = true := by decide +kernel
theorem bkD_X12_define_2 : bchk3 (bm_14 22) bk_X12_define_2 = true := by decide +kernel
theorem bkD_X12_define_3 : bchk3 (bm_14 22) bk_X12_define_3 = true := by decide +kernel
theorem bkD_X12_define : bchk3 (bm_14 22) bk_X12_define = true := bchk3_app bkD_X12_define_0 (bchk3_app bkD_X12_define_1 (bchk3_app bkD_X12_define_2 (bkD_X12_define_3)))
theorem bkD_X12_difference : bchk3 (bm_14 23) bk_X12_difference = true := by decide +kernel
theorem bkD_X12_digits : bchk3 (bm_14 24) bk_X12_digits = true := by decide +kernel
