/-! The checks, go on. -/
theorem bkD_X12_sum : bchk3 (bm_14 132) bk_X12_sum = true := sorry
theorem bkD_X12_sure_0 : bchk3 (bm_14 133) bk_X12_sure_0 = true := sorry
theorem bkD_X12_sure_1 : bchk3 (bm_14 133) bk_X12_sure_1 = true := sorry
theorem bkD_X12_sure : bchk3 (bm_14 133) bk_X12_sure = true := sorry
theorem bkD_X12_takes : bchk3 (bm_14 134) bk_X12_takes = true := sorry
theorem bkD_X12_tells_0 : bchk3 (bm_14 135) bk_X12_tells_0 = true := sorry
theorem bkD_X12_tells_1 : bchk3 (bm_14 135) bk_X12_tells_1 = true := sorry
theorem bkD_X12_tells : bchk3 (bm_14 135) bk_X12_tells = true := sorry
theorem bkD_X12_tellsOf_0 : bchk3 (bm_14 136) bk_X12_tellsOf_0 = true := sorry
theorem bkD_X12_tellsOf_1 : bchk3 (bm_14 136) bk_X12_tellsOf_1 = true := sorry
theorem bkD_X12_tellsOf_2 : bchk3 (bm_14 136) bk_X12_tellsOf_2 = true := sorry
theorem bkD_X12_tellsOf : bchk3 (bm_14 136) bk_X12_tellsOf = true := sorry
theorem bkD_X12_ten : bchk3 (bm_14 137) bk_X12_ten = true := sorry
theorem bkD_X12_tens : bchk3 (bm_14 138) bk_X12_tens = true := sorry
theorem bkD_X12_thrown : bchk3 (bm_14 139) bk_X12_thrown = true := sorry
theorem bkD_X12_times_0 : bchk3 (bm_14 140) bk_X12_times_0 = true := sorry
theorem bkD_X12_times_1 : bchk3 (bm_14 140) bk_X12_times_1 = true := sorry
theorem bkD_X12_times_2 : bchk3 (bm_14 140) bk_X12_times_2 = true := sorry
theorem bkD_X12_times : bchk3 (bm_14 140) bk_X12_times = true := sorry
theorem bkD_X12_told : bchk3 (bm_14 141) bk_X12_told = true := sorry
theorem bkD_X12_trims : bchk3 (bm_14 142) bk_X12_trims = true := sorry
theorem bkD_X12_turned : bchk3 (bm_14 143) bk_X12_turned = true := sorry
theorem bkD_X12_turns : bchk3 (bm_14 144) bk_X12_turns = true := sorry
theorem bkD_X12_type : bchk3 (bm_14 145) bk_X12_type = true := sorry
theorem bkD_X12_undo_0 : bchk3 (bm_14 146) bk_X12_undo_0 = true := sorry
theorem bkD_X12_undo_1 : bchk3 (bm_14 146) bk_X12_undo_1 = true := sorry
theorem bkD_X12_undo : bchk3 (bm_14 146) bk_X12_undo = true := sorry
theorem bkD_X12_unit : bchk3 (bm_14 147) bk_X12_unit = true := sorry
theorem bkD_X12_unsigned_0 : bchk3 (bm_14 148) bk_X12_unsigned_0 = true := sorry
theorem bkD_X12_unsigned_1 : bchk3 (bm_14 148) bk_X12_unsigned_1 = true := sorry
theorem bkD_X12_unsigned : bchk3 (bm_14 148) bk_X12_unsigned = true := sorry
theorem bkD_X12_value : bchk3 (bm_14 149) bk_X12_value = true := sorry
theorem bkD_X12_values_0 : bchk3 (bm_14 150) bk_X12_values_0 = true := sorry
theorem bkD_X12_values_1 : bchk3 (bm_14 150) bk_X12_values_1 = true := sorry
theorem bkD_X12_values_2 : bchk3 (bm_14 150) bk_X12_values_2 = true := sorry
theorem bkD_X12_values : bchk3 (bm_14 150) bk_X12_values = true := sorry
theorem bkD_X12_whole : bchk3 (bm_14 151) bk_X12_whole = true := sorry
theorem bkD_X12_width : bchk3 (bm_14 152) bk_X12_width = true := sorry
theorem bkD_X12_writes : bchk3 (bm_14 153) bk_X12_writes = true := sorry
theorem bkD_X12_zeros_0 : bchk3 (bm_14 154) bk_X12_zeros_0 = true := sorry
theorem bkD_X12_zeros_1 : bchk3 (bm_14 154) bk_X12_zeros_1 = true := sorry
theorem bkD_X12_zeros : bchk3 (bm_14 154) bk_X12_zeros = true := sorry
theorem bkA_14 : bAllOk (fun y l => bchk3 y l = true) bkc_14 bmc_14 := sorry
theorem bkM_X12_init : bchkM bmeth bmjs 3584 = true := sorry
theorem bkH_X12_init : bHead (bm_14 0) ∈ bw_G := sorry
theorem bkM_X12_acts : bchkM bmeth bmjs 3585 = true := sorry
theorem bkH_X12_acts : bHead (bm_14 1) ∈ bw_G := sorry
theorem bkM_X12_add : bchkM bmeth bmjs 3586 = true := sorry
theorem bkH_X12_add : bHead (bm_14 2) ∈ bw_G := sorry
theorem bkM_X12_adds : bchkM bmeth bmjs 3587 = true := sorry
theorem bkH_X12_adds : bHead (bm_14 3) ∈ bw_G := sorry
theorem bkM_X12_again : bchkM bmeth bmjs 3588 = true := sorry
theorem bkH_X12_again : bHead (bm_14 4) ∈ bw_G := sorry
theorem bkM_X12_apply : bchkM bmeth bmjs 3589 = true := sorry
theorem bkH_X12_apply : bHead (bm_14 5) ∈ bw_G := sorry
