/-! The checks, go on. -/
theorem bkD_L_subtract : bchk3 (bm_15 31) bk_L_subtract = true := by decide +kernel
theorem bkD_L_sure : bchk3 (bm_15 32) bk_L_sure = true := by decide +kernel
theorem bkD_L_type : bchk3 (bm_15 33) bk_L_type = true := by decide +kernel
theorem bkD_L_undo : bchk3 (bm_15 34) bk_L_undo = true := by decide +kernel
theorem bkD_L_value : bchk3 (bm_15 35) bk_L_value = true := by decide +kernel
theorem bkD_L_width : bchk3 (bm_15 36) bk_L_width = true := by decide +kernel
theorem bkD_L_zeros : bchk3 (bm_15 37) bk_L_zeros = true := by decide +kernel
theorem bkA_15 : bAllOk (fun y l => bchk3 y l = true) bkc_15 bmc_15 := ⟨bkD_L_add, bkD_L_apply, bkD_L_area, bkD_L_compare, bkD_L_constant, bkD_L_decide, bkD_L_define, bkD_L_divide, bkD_L_greatest, bkD_L_hasY, bkD_L_high, bkD_L_isWithin, bkD_L_join, bkD_L_law, bkD_L_least, bkD_L_low, bkD_L_meet, bkD_L_move, bkD_L_multiply, bkD_L_narrow, bkD_L_pairs, bkD_L_piece, bkD_L_pieceKind, bkD_L_power, bkD_L_put, bkD_L_read, bkD_L_root, bkD_L_setDigits, bkD_L_signAt, bkD_L_slope, bkD_L_solve, bkD_L_subtract, bkD_L_sure, bkD_L_type, bkD_L_undo, bkD_L_value, bkD_L_width, bkD_L_zeros, trivial⟩
theorem bkM_L_add : bchkM bmeth bmjs 3840 = true := by decide +kernel
theorem bkH_L_add : bHead (bm_15 0) ∈ bw_G := bw_in (bprog_in 6 _ (List.mem_of_getElem? (i := 87) rfl)) rfl
theorem bkM_L_apply : bchkM bmeth bmjs 3841 = true := by decide +kernel
theorem bkH_L_apply : bHead (bm_15 1) ∈ bw_G := bw_in (bprog_in 6 _ (List.mem_of_getElem? (i := 144) rfl)) rfl
theorem bkM_L_area : bchkM bmeth bmjs 3842 = true := by decide +kernel
theorem bkH_L_area : bHead (bm_15 2) ∈ bw_G := bw_in (bprog_in 8 _ (List.mem_of_getElem? (i := 44) rfl)) rfl
theorem bkM_L_compare : bchkM bmeth bmjs 3843 = true := by decide +kernel
theorem bkH_L_compare : bHead (bm_15 3) ∈ bw_G := bw_in (bprog_in 6 _ (List.mem_of_getElem? (i := 56) rfl)) rfl
theorem bkM_L_constant : bchkM bmeth bmjs 3844 = true := by decide +kernel
theorem bkH_L_constant : bHead (bm_15 4) ∈ bw_G := bw_in (bprog_in 5 _ (List.mem_of_getElem? (i := 207) rfl)) rfl
theorem bkM_L_decide : bchkM bmeth bmjs 3845 = true := by decide +kernel
theorem bkH_L_decide : bHead (bm_15 5) ∈ bw_G := bw_in (bprog_in 7 _ (List.mem_of_getElem? (i := 124) rfl)) rfl
theorem bkM_L_define : bchkM bmeth bmjs 3846 = true := by decide +kernel
theorem bkH_L_define : bHead (bm_15 6) ∈ bw_G := bw_in (bprog_in 6 _ (List.mem_of_getElem? (i := 164) rfl)) rfl
theorem bkM_L_divide : bchkM bmeth bmjs 3847 = true := by decide +kernel
theorem bkH_L_divide : bHead (bm_15 7) ∈ bw_G := bw_in (bprog_in 6 _ (List.mem_of_getElem? (i := 116) rfl)) rfl
theorem bkM_L_greatest : bchkM bmeth bmjs 3848 = true := by decide +kernel
theorem bkH_L_greatest : bHead (bm_15 8) ∈ bw_G := bw_in (bprog_in 8 _ (List.mem_of_getElem? (i := 37) rfl)) rfl
theorem bkM_L_hasY : bchkM bmeth bmjs 3849 = true := by decide +kernel
theorem bkH_L_hasY : bHead (bm_15 9) ∈ bw_G := bw_in (bprog_in 7 _ (List.mem_of_getElem? (i := 3) rfl)) rfl
theorem bkM_L_high : bchkM bmeth bmjs 3850 = true := by decide +kernel
theorem bkH_L_high : bHead (bm_15 10) ∈ bw_G := bw_in (bprog_in 6 _ (List.mem_of_getElem? (i := 30) rfl)) rfl
theorem bkM_L_isWithin : bchkM bmeth bmjs 3851 = true := by decide +kernel
theorem bkH_L_isWithin : bHead (bm_15 11) ∈ bw_G := bw_in (bprog_in 6 _ (List.mem_of_getElem? (i := 45) rfl)) rfl
theorem bkM_L_join : bchkM bmeth bmjs 3852 = true := by decide +kernel
theorem bkH_L_join : bHead (bm_15 12) ∈ bw_G := bw_in (bprog_in 5 _ (List.mem_of_getElem? (i := 215) rfl)) rfl
theorem bkM_L_least : bchkM bmeth bmjs 3854 = true := by decide +kernel
theorem bkH_L_least : bHead (bm_15 14) ∈ bw_G := bw_in (bprog_in 8 _ (List.mem_of_getElem? (i := 18) rfl)) rfl
theorem bkM_L_low : bchkM bmeth bmjs 3855 = true := by decide +kernel
theorem bkH_L_low : bHead (bm_15 15) ∈ bw_G := bw_in (bprog_in 6 _ (List.mem_of_getElem? (i := 23) rfl)) rfl
theorem bkM_L_meet : bchkM bmeth bmjs 3856 = true := by decide +kernel
theorem bkH_L_meet : bHead (bm_15 16) ∈ bw_G := bw_in (bprog_in 6 _ (List.mem_of_getElem? (i := 11) rfl)) rfl
theorem bkM_L_move : bchkM bmeth bmjs 3857 = true := by decide +kernel
theorem bkH_L_move : bHead (bm_15 17) ∈ bw_G := bw_in (bprog_in 8 _ (List.mem_of_getElem? (i := 55) rfl)) rfl
theorem bkM_L_multiply : bchkM bmeth bmjs 3858 = true := by decide +kernel
theorem bkH_L_multiply : bHead (bm_15 18) ∈ bw_G := bw_in (bprog_in 6 _ (List.mem_of_getElem? (i := 109) rfl)) rfl
theorem bkM_L_narrow : bchkM bmeth bmjs 3859 = true := by decide +kernel
theorem bkH_L_narrow : bHead (bm_15 19) ∈ bw_G := bw_in (bprog_in 7 _ (List.mem_of_getElem? (i := 223) rfl)) rfl
theorem bkM_L_pairs : bchkM bmeth bmjs 3860 = true := by decide +kernel
theorem bkH_L_pairs : bHead (bm_15 20) ∈ bw_G := bw_in (bprog_in 7 _ (List.mem_of_getElem? (i := 235) rfl)) rfl
theorem bkM_L_piece : bchkM bmeth bmjs 3861 = true := by decide +kernel
theorem bkH_L_piece : bHead (bm_15 21) ∈ bw_G := bw_in (bprog_in 7 _ (List.mem_of_getElem? (i := 212) rfl)) rfl
theorem bkM_L_pieceKind : bchkM bmeth bmjs 3862 = true := by decide +kernel
theorem bkH_L_pieceKind : bHead (bm_15 22) ∈ bw_G := bw_in (bprog_in 7 _ (List.mem_of_getElem? (i := 192) rfl)) rfl
theorem bkM_L_power : bchkM bmeth bmjs 3863 = true := by decide +kernel
theorem bkH_L_power : bHead (bm_15 23) ∈ bw_G := bw_in (bprog_in 6 _ (List.mem_of_getElem? (i := 124) rfl)) rfl
theorem bkM_L_put : bchkM bmeth bmjs 3864 = true := by decide +kernel
theorem bkH_L_put : bHead (bm_15 24) ∈ bw_G := bw_in (bprog_in 5 _ (List.mem_of_getElem? (i := 87) rfl)) rfl
theorem bkM_L_read : bchkM bmeth bmjs 3865 = true := by decide +kernel
theorem bkH_L_read : bHead (bm_15 25) ∈ bw_G := bw_in (bprog_in 5 _ (List.mem_of_getElem? (i := 171) rfl)) rfl
theorem bkM_L_root : bchkM bmeth bmjs 3866 = true := by decide +kernel
theorem bkH_L_root : bHead (bm_15 26) ∈ bw_G := bw_in (bprog_in 6 _ (List.mem_of_getElem? (i := 136) rfl)) rfl
theorem bkM_L_setDigits : bchkM bmeth bmjs 3867 = true := by decide +kernel
theorem bkH_L_setDigits : bHead (bm_15 27) ∈ bw_G := bw_in (bprog_in 4 _ (List.mem_of_getElem? (i := 209) rfl)) rfl
theorem bkM_L_signAt : bchkM bmeth bmjs 3868 = true := by decide +kernel
theorem bkH_L_signAt : bHead (bm_15 28) ∈ bw_G := bw_in (bprog_in 5 _ (List.mem_of_getElem? (i := 75) rfl)) rfl
theorem bkM_L_slope : bchkM bmeth bmjs 3869 = true := by decide +kernel
theorem bkH_L_slope : bHead (bm_15 29) ∈ bw_G := bw_in (bprog_in 7 _ (List.mem_of_getElem? (i := 26) rfl)) rfl
theorem bkM_L_solve : bchkM bmeth bmjs 3870 = true := by decide +kernel
theorem bkH_L_solve : bHead (bm_15 30) ∈ bw_G := bw_in (bprog_in 6 _ (List.mem_of_getElem? (i := 152) rfl)) rfl
theorem bkM_L_subtract : bchkM bmeth bmjs 3871 = true := by decide +kernel
theorem bkH_L_subtract : bHead (bm_15 31) ∈ bw_G := bw_in (bprog_in 6 _ (List.mem_of_getElem? (i := 102) rfl)) rfl
theorem bkM_L_sure : bchkM bmeth bmjs 3872 = true := by decide +kernel
theorem bkH_L_sure : bHead (bm_15 32) ∈ bw_G := bw_in (bprog_in 6 _ (List.mem_of_getElem? (i := 64) rfl)) rfl
theorem bkM_L_type : bchkM bmeth bmjs 3873 = true := by decide +kernel
