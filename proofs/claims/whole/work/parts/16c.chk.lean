/-! The checks, method by method. -/
noncomputable def bm_15 (k : Nat) : bM := bmc_15.getD k bnoM
theorem bkD_L_add : bchk3 (bm_15 0) bk_L_add = true := by decide +kernel
theorem bkD_L_apply : bchk3 (bm_15 1) bk_L_apply = true := by decide +kernel
theorem bkD_L_area : bchk3 (bm_15 2) bk_L_area = true := by decide +kernel
theorem bkD_L_compare : bchk3 (bm_15 3) bk_L_compare = true := by decide +kernel
theorem bkD_L_constant : bchk3 (bm_15 4) bk_L_constant = true := by decide +kernel
theorem bkD_L_decide : bchk3 (bm_15 5) bk_L_decide = true := by decide +kernel
theorem bkD_L_define : bchk3 (bm_15 6) bk_L_define = true := by decide +kernel
theorem bkD_L_divide : bchk3 (bm_15 7) bk_L_divide = true := by decide +kernel
theorem bkD_L_greatest : bchk3 (bm_15 8) bk_L_greatest = true := by decide +kernel
theorem bkD_L_hasY : bchk3 (bm_15 9) bk_L_hasY = true := by decide +kernel
theorem bkD_L_high : bchk3 (bm_15 10) bk_L_high = true := by decide +kernel
theorem bkD_L_isWithin : bchk3 (bm_15 11) bk_L_isWithin = true := by decide +kernel
theorem bkD_L_join : bchk3 (bm_15 12) bk_L_join = true := by decide +kernel
theorem bkD_L_law_0 : bchk3 (bm_15 13) bk_L_law_0 = true := by decide +kernel
theorem bkD_L_law_1 : bchk3 (bm_15 13) bk_L_law_1 = true := by decide +kernel
theorem bkD_L_law_2 : bchk3 (bm_15 13) bk_L_law_2 = true := by decide +kernel
theorem bkD_L_law_3 : bchk3 (bm_15 13) bk_L_law_3 = true := by decide +kernel
theorem bkD_L_law_4 : bchk3 (bm_15 13) bk_L_law_4 = true := by decide +kernel
theorem bkD_L_law_5 : bchk3 (bm_15 13) bk_L_law_5 = true := by decide +kernel
theorem bkD_L_law_6 : bchk3 (bm_15 13) bk_L_law_6 = true := by decide +kernel
theorem bkD_L_law_7 : bchk3 (bm_15 13) bk_L_law_7 = true := by decide +kernel
theorem bkD_L_law_8 : bchk3 (bm_15 13) bk_L_law_8 = true := by decide +kernel
theorem bkD_L_law_9 : bchk3 (bm_15 13) bk_L_law_9 = true := by decide +kernel
theorem bkD_L_law_10 : bchk3 (bm_15 13) bk_L_law_10 = true := by decide +kernel
theorem bkD_L_law_11 : bchk3 (bm_15 13) bk_L_law_11 = true := by decide +kernel
theorem bkD_L_law_12 : bchk3 (bm_15 13) bk_L_law_12 = true := by decide +kernel
theorem bkD_L_law_13 : bchk3 (bm_15 13) bk_L_law_13 = true := by decide +kernel
theorem bkD_L_law : bchk3 (bm_15 13) bk_L_law = true := bchk3_app bkD_L_law_0 (bchk3_app bkD_L_law_1 (bchk3_app bkD_L_law_2 (bchk3_app bkD_L_law_3 (bchk3_app bkD_L_law_4 (bchk3_app bkD_L_law_5 (bchk3_app bkD_L_law_6 (bchk3_app bkD_L_law_7 (bchk3_app bkD_L_law_8 (bchk3_app bkD_L_law_9 (bchk3_app bkD_L_law_10 (bchk3_app bkD_L_law_11 (bchk3_app bkD_L_law_12 (bkD_L_law_13)))))))))))))
theorem bkD_L_least : bchk3 (bm_15 14) bk_L_least = true := by decide +kernel
theorem bkD_L_low : bchk3 (bm_15 15) bk_L_low = true := by decide +kernel
theorem bkD_L_meet : bchk3 (bm_15 16) bk_L_meet = true := by decide +kernel
theorem bkD_L_move : bchk3 (bm_15 17) bk_L_move = true := by decide +kernel
theorem bkD_L_multiply : bchk3 (bm_15 18) bk_L_multiply = true := by decide +kernel
theorem bkD_L_narrow : bchk3 (bm_15 19) bk_L_narrow = true := by decide +kernel
theorem bkD_L_pairs : bchk3 (bm_15 20) bk_L_pairs = true := by decide +kernel
theorem bkD_L_piece : bchk3 (bm_15 21) bk_L_piece = true := by decide +kernel
theorem bkD_L_pieceKind : bchk3 (bm_15 22) bk_L_pieceKind = true := by decide +kernel
theorem bkD_L_power : bchk3 (bm_15 23) bk_L_power = true := by decide +kernel
theorem bkD_L_put : bchk3 (bm_15 24) bk_L_put = true := by decide +kernel
theorem bkD_L_read : bchk3 (bm_15 25) bk_L_read = true := by decide +kernel
theorem bkD_L_root : bchk3 (bm_15 26) bk_L_root = true := by decide +kernel
theorem bkD_L_setDigits : bchk3 (bm_15 27) bk_L_setDigits = true := by decide +kernel
theorem bkD_L_signAt : bchk3 (bm_15 28) bk_L_signAt = true := by decide +kernel
theorem bkD_L_slope : bchk3 (bm_15 29) bk_L_slope = true := by decide +kernel
theorem bkD_L_solve : bchk3 (bm_15 30) bk_L_solve = true := by decide +kernel
theorem bkD_L_subtract : bchk3 (bm_15 31) bk_L_subtract = true := by decide +kernel
theorem bkD_L_sure : bchk3 (bm_15 32) bk_L_sure = true := by decide +kernel
theorem bkD_L_type : bchk3 (bm_15 33) bk_L_type = true := by decide +kernel
theorem bkD_L_undo : bchk3 (bm_15 34) bk_L_undo = true := by decide +kernel
theorem bkD_L_value : bchk3 (bm_15 35) bk_L_value = true := by decide +kernel
theorem bkD_L_width : bchk3 (bm_15 36) bk_L_width = true := by decide +kernel
theorem bkD_L_zeros : bchk3 (bm_15 37) bk_L_zeros = true := by decide +kernel
theorem bkA_15 : bAllOk (fun y l => bchk3 y l = true) bkc_15 bmc_15 := ⟨bkD_L_add, bkD_L_apply, bkD_L_area, bkD_L_compare, bkD_L_constant, bkD_L_decide, bkD_L_define, bkD_L_divide, bkD_L_greatest, bkD_L_hasY, bkD_L_high, bkD_L_isWithin, bkD_L_join, bkD_L_law, bkD_L_least, bkD_L_low, bkD_L_meet, bkD_L_move, bkD_L_multiply, bkD_L_narrow, bkD_L_pairs, bkD_L_piece, bkD_L_pieceKind, bkD_L_power, bkD_L_put, bkD_L_read, bkD_L_root, bkD_L_setDigits, bkD_L_signAt, bkD_L_slope, bkD_L_solve, bkD_L_subtract, bkD_L_sure, bkD_L_type, bkD_L_undo, bkD_L_value, bkD_L_width, bkD_L_zeros, trivial⟩
theorem bkM_L_add : bchkM bmeth bmjs 3840 = true := by decide +kernel
theorem bkH_L_add : bHead (bm_15 0) ∈ bw_G := bw_in (bprog_in 6 _ (List.mem_of_getElem? (i := 87) rfl)) rfl
theorem bkM_L_apply : bchkM bmeth bmjs 3841 = true := by decide +kernel
theorem bkH_L_apply : bHead (bm_15 1) ∈ bw_G := bw_in (bprog_in 6 _ (List.mem_of_getElem? (i := 144) rfl)) rfl
theorem bkM_L_area : bchkM bmeth bmjs 3842 = true := by decide +kernel
theorem bkH_L_area : bHead (bm_15 2) ∈ bw_G := bw_in (bprog_in 8 _ (List.mem_of_getElem? (i := 44) rfl)) rfl
theorem bkM_L_compare : bchkM bmeth bmjs 3843 = true := by decide +kernel
theorem bkH_L_compare : bHead (bm_15 3) ∈ bw_G := bw_in (bprog_in 6 _ (List.mem_of_getElem? (i := 56) rfl)) rfl
theorem bkM_L_constant : bchkM bmeth bmjs 3844 = true := by decide +kernel
theorem bkH_L_constant : bHead (bm_15 4) ∈ bw_G := bw_in (bprog_in 5 _ (List.mem_of_getElem? (i := 207) rfl)) rfl
theorem bkM_L_decide : bchkM bmeth bmjs 3845 = true := by decide +kernel
theorem bkH_L_decide : bHead (bm_15 5) ∈ bw_G := bw_in (bprog_in 7 _ (List.mem_of_getElem? (i := 124) rfl)) rfl
theorem bkM_L_define : bchkM bmeth bmjs 3846 = true := by decide +kernel
theorem bkH_L_define : bHead (bm_15 6) ∈ bw_G := bw_in (bprog_in 6 _ (List.mem_of_getElem? (i := 164) rfl)) rfl
theorem bkM_L_divide : bchkM bmeth bmjs 3847 = true := by decide +kernel
theorem bkH_L_divide : bHead (bm_15 7) ∈ bw_G := bw_in (bprog_in 6 _ (List.mem_of_getElem? (i := 116) rfl)) rfl
theorem bkM_L_greatest : bchkM bmeth bmjs 3848 = true := by decide +kernel
theorem bkH_L_greatest : bHead (bm_15 8) ∈ bw_G := bw_in (bprog_in 8 _ (List.mem_of_getElem? (i := 37) rfl)) rfl
theorem bkM_L_hasY : bchkM bmeth bmjs 3849 = true := by decide +kernel
theorem bkH_L_hasY : bHead (bm_15 9) ∈ bw_G := bw_in (bprog_in 7 _ (List.mem_of_getElem? (i := 3) rfl)) rfl
theorem bkM_L_high : bchkM bmeth bmjs 3850 = true := by decide +kernel
theorem bkH_L_high : bHead (bm_15 10) ∈ bw_G := bw_in (bprog_in 6 _ (List.mem_of_getElem? (i := 30) rfl)) rfl
theorem bkM_L_isWithin : bchkM bmeth bmjs 3851 = true := by decide +kernel
theorem bkH_L_isWithin : bHead (bm_15 11) ∈ bw_G := bw_in (bprog_in 6 _ (List.mem_of_getElem? (i := 45) rfl)) rfl
theorem bkM_L_join : bchkM bmeth bmjs 3852 = true := by decide +kernel
theorem bkH_L_join : bHead (bm_15 12) ∈ bw_G := bw_in (bprog_in 5 _ (List.mem_of_getElem? (i := 215) rfl)) rfl
theorem bkM_L_least : bchkM bmeth bmjs 3854 = true := by decide +kernel
theorem bkH_L_least : bHead (bm_15 14) ∈ bw_G := bw_in (bprog_in 8 _ (List.mem_of_getElem? (i := 18) rfl)) rfl
theorem bkM_L_low : bchkM bmeth bmjs 3855 = true := by decide +kernel
theorem bkH_L_low : bHead (bm_15 15) ∈ bw_G := bw_in (bprog_in 6 _ (List.mem_of_getElem? (i := 23) rfl)) rfl
theorem bkM_L_meet : bchkM bmeth bmjs 3856 = true := by decide +kernel
theorem bkH_L_meet : bHead (bm_15 16) ∈ bw_G := bw_in (bprog_in 6 _ (List.mem_of_getElem? (i := 11) rfl)) rfl
theorem bkM_L_move : bchkM bmeth bmjs 3857 = true := by decide +kernel
theorem bkH_L_move : bHead (bm_15 17) ∈ bw_G := bw_in (bprog_in 8 _ (List.mem_of_getElem? (i := 55) rfl)) rfl
theorem bkM_L_multiply : bchkM bmeth bmjs 3858 = true := by decide +kernel
theorem bkH_L_multiply : bHead (bm_15 18) ∈ bw_G := bw_in (bprog_in 6 _ (List.mem_of_getElem? (i := 109) rfl)) rfl
theorem bkM_L_narrow : bchkM bmeth bmjs 3859 = true := by decide +kernel
theorem bkH_L_narrow : bHead (bm_15 19) ∈ bw_G := bw_in (bprog_in 7 _ (List.mem_of_getElem? (i := 223) rfl)) rfl
theorem bkM_L_pairs : bchkM bmeth bmjs 3860 = true := by decide +kernel
theorem bkH_L_pairs : bHead (bm_15 20) ∈ bw_G := bw_in (bprog_in 7 _ (List.mem_of_getElem? (i := 235) rfl)) rfl
theorem bkM_L_piece : bchkM bmeth bmjs 3861 = true := by decide +kernel
theorem bkH_L_piece : bHead (bm_15 21) ∈ bw_G := bw_in (bprog_in 7 _ (List.mem_of_getElem? (i := 212) rfl)) rfl
theorem bkM_L_pieceKind : bchkM bmeth bmjs 3862 = true := by decide +kernel
theorem bkH_L_pieceKind : bHead (bm_15 22) ∈ bw_G := bw_in (bprog_in 7 _ (List.mem_of_getElem? (i := 192) rfl)) rfl
theorem bkM_L_power : bchkM bmeth bmjs 3863 = true := by decide +kernel
theorem bkH_L_power : bHead (bm_15 23) ∈ bw_G := bw_in (bprog_in 6 _ (List.mem_of_getElem? (i := 124) rfl)) rfl
theorem bkM_L_put : bchkM bmeth bmjs 3864 = true := by decide +kernel
theorem bkH_L_put : bHead (bm_15 24) ∈ bw_G := bw_in (bprog_in 5 _ (List.mem_of_getElem? (i := 87) rfl)) rfl
theorem bkM_L_read : bchkM bmeth bmjs 3865 = true := by decide +kernel
theorem bkH_L_read : bHead (bm_15 25) ∈ bw_G := bw_in (bprog_in 5 _ (List.mem_of_getElem? (i := 171) rfl)) rfl
theorem bkM_L_root : bchkM bmeth bmjs 3866 = true := by decide +kernel
theorem bkH_L_root : bHead (bm_15 26) ∈ bw_G := bw_in (bprog_in 6 _ (List.mem_of_getElem? (i := 136) rfl)) rfl
theorem bkM_L_setDigits : bchkM bmeth bmjs 3867 = true := by decide +kernel
theorem bkH_L_setDigits : bHead (bm_15 27) ∈ bw_G := bw_in (bprog_in 4 _ (List.mem_of_getElem? (i := 209) rfl)) rfl
theorem bkM_L_signAt : bchkM bmeth bmjs 3868 = true := by decide +kernel
theorem bkH_L_signAt : bHead (bm_15 28) ∈ bw_G := bw_in (bprog_in 5 _ (List.mem_of_getElem? (i := 75) rfl)) rfl
theorem bkM_L_slope : bchkM bmeth bmjs 3869 = true := by decide +kernel
theorem bkH_L_slope : bHead (bm_15 29) ∈ bw_G := bw_in (bprog_in 7 _ (List.mem_of_getElem? (i := 26) rfl)) rfl
theorem bkM_L_solve : bchkM bmeth bmjs 3870 = true := by decide +kernel
theorem bkH_L_solve : bHead (bm_15 30) ∈ bw_G := bw_in (bprog_in 6 _ (List.mem_of_getElem? (i := 152) rfl)) rfl
theorem bkM_L_subtract : bchkM bmeth bmjs 3871 = true := by decide +kernel
theorem bkH_L_subtract : bHead (bm_15 31) ∈ bw_G := bw_in (bprog_in 6 _ (List.mem_of_getElem? (i := 102) rfl)) rfl
theorem bkM_L_sure : bchkM bmeth bmjs 3872 = true := by decide +kernel
theorem bkH_L_sure : bHead (bm_15 32) ∈ bw_G := bw_in (bprog_in 6 _ (List.mem_of_getElem? (i := 64) rfl)) rfl
theorem bkM_L_type : bchkM bmeth bmjs 3873 = true := by decide +kernel
theorem bkH_L_type : bHead (bm_15 33) ∈ bw_G := bw_in (bprog_in 5 _ (List.mem_of_getElem? (i := 49) rfl)) rfl
theorem bkM_L_undo : bchkM bmeth bmjs 3874 = true := by decide +kernel
theorem bkH_L_undo : bHead (bm_15 34) ∈ bw_G := bw_in (bprog_in 6 _ (List.mem_of_getElem? (i := 75) rfl)) rfl
theorem bkM_L_value : bchkM bmeth bmjs 3875 = true := by decide +kernel
theorem bkH_L_value : bHead (bm_15 35) ∈ bw_G := bw_in (bprog_in 7 _ (List.mem_of_getElem? (i := 15) rfl)) rfl
theorem bkM_L_width : bchkM bmeth bmjs 3876 = true := by decide +kernel
theorem bkH_L_width : bHead (bm_15 36) ∈ bw_G := bw_in (bprog_in 6 _ (List.mem_of_getElem? (i := 37) rfl)) rfl
theorem bkM_L_zeros : bchkM bmeth bmjs 3877 = true := by decide +kernel
theorem bkH_L_zeros : bHead (bm_15 37) ∈ bw_G := bw_in (bprog_in 7 _ (List.mem_of_getElem? (i := 135) rfl)) rfl
theorem bkMA_15 : ∀ k, k < 38 → (bmjs (3840 + k)).1 ≠ 0 → bchkM bmeth bmjs (3840 + k) = true ∧ bHead (bm_15 k) ∈ bw_G := by
  intro k hk h0
  match k, hk with
  | 0, _ => exact ⟨bkM_L_add, bkH_L_add⟩
  | 1, _ => exact ⟨bkM_L_apply, bkH_L_apply⟩
  | 2, _ => exact ⟨bkM_L_area, bkH_L_area⟩
  | 3, _ => exact ⟨bkM_L_compare, bkH_L_compare⟩
  | 4, _ => exact ⟨bkM_L_constant, bkH_L_constant⟩
  | 5, _ => exact ⟨bkM_L_decide, bkH_L_decide⟩
  | 6, _ => exact ⟨bkM_L_define, bkH_L_define⟩
  | 7, _ => exact ⟨bkM_L_divide, bkH_L_divide⟩
  | 8, _ => exact ⟨bkM_L_greatest, bkH_L_greatest⟩
  | 9, _ => exact ⟨bkM_L_hasY, bkH_L_hasY⟩
  | 10, _ => exact ⟨bkM_L_high, bkH_L_high⟩
  | 11, _ => exact ⟨bkM_L_isWithin, bkH_L_isWithin⟩
  | 12, _ => exact ⟨bkM_L_join, bkH_L_join⟩
  | 13, _ => exact absurd (by decide +kernel) h0
  | 14, _ => exact ⟨bkM_L_least, bkH_L_least⟩
  | 15, _ => exact ⟨bkM_L_low, bkH_L_low⟩
  | 16, _ => exact ⟨bkM_L_meet, bkH_L_meet⟩
  | 17, _ => exact ⟨bkM_L_move, bkH_L_move⟩
  | 18, _ => exact ⟨bkM_L_multiply, bkH_L_multiply⟩
  | 19, _ => exact ⟨bkM_L_narrow, bkH_L_narrow⟩
  | 20, _ => exact ⟨bkM_L_pairs, bkH_L_pairs⟩
  | 21, _ => exact ⟨bkM_L_piece, bkH_L_piece⟩
  | 22, _ => exact ⟨bkM_L_pieceKind, bkH_L_pieceKind⟩
  | 23, _ => exact ⟨bkM_L_power, bkH_L_power⟩
  | 24, _ => exact ⟨bkM_L_put, bkH_L_put⟩
  | 25, _ => exact ⟨bkM_L_read, bkH_L_read⟩
  | 26, _ => exact ⟨bkM_L_root, bkH_L_root⟩
  | 27, _ => exact ⟨bkM_L_setDigits, bkH_L_setDigits⟩
  | 28, _ => exact ⟨bkM_L_signAt, bkH_L_signAt⟩
  | 29, _ => exact ⟨bkM_L_slope, bkH_L_slope⟩
  | 30, _ => exact ⟨bkM_L_solve, bkH_L_solve⟩
  | 31, _ => exact ⟨bkM_L_subtract, bkH_L_subtract⟩
  | 32, _ => exact ⟨bkM_L_sure, bkH_L_sure⟩
  | 33, _ => exact ⟨bkM_L_type, bkH_L_type⟩
  | 34, _ => exact ⟨bkM_L_undo, bkH_L_undo⟩
  | 35, _ => exact ⟨bkM_L_value, bkH_L_value⟩
  | 36, _ => exact ⟨bkM_L_width, bkH_L_width⟩
  | 37, _ => exact ⟨bkM_L_zeros, bkH_L_zeros⟩
  | k + 38, h => omega
noncomputable def bm_16 (k : Nat) : bM := bmc_16.getD k bnoM
theorem bkD_J13_compare_74951 : bchk3 (bm_16 0) bk_J13_compare_74951 = true := by decide +kernel
theorem bkA_16 : bAllOk (fun y l => bchk3 y l = true) bkc_16 bmc_16 := ⟨bkD_J13_compare_74951, trivial⟩
theorem bkM_J13_compare_74951 : bchkM bmeth bmjs 4096 = true := by decide +kernel
theorem bkH_J13_compare_74951 : bHead (bm_16 0) ∈ bw_G := bw_in (bprog_in 3 _ (List.mem_of_getElem? (i := 138) rfl)) rfl
theorem bkMA_16 : ∀ k, k < 1 → (bmjs (4096 + k)).1 ≠ 0 → bchkM bmeth bmjs (4096 + k) = true ∧ bHead (bm_16 k) ∈ bw_G := by
  intro k hk h0
  match k, hk with
  | 0, _ => exact ⟨bkM_J13_compare_74951, bkH_J13_compare_74951⟩
  | k + 1, h => omega
noncomputable def bm_17 (k : Nat) : bM := bmc_17.getD k bnoM
theorem bkD_J9_abs_0f7a4 : bchk3 (bm_17 0) bk_J9_abs_0f7a4 = true := by decide +kernel
theorem bkD_J9_floorDiv_f86c9 : bchk3 (bm_17 1) bk_J9_floorDiv_f86c9 = true := by decide +kernel
theorem bkD_J9_floorMod_f86c9 : bchk3 (bm_17 2) bk_J9_floorMod_f86c9 = true := by decide +kernel
theorem bkA_17 : bAllOk (fun y l => bchk3 y l = true) bkc_17 bmc_17 := ⟨bkD_J9_abs_0f7a4, bkD_J9_floorDiv_f86c9, bkD_J9_floorMod_f86c9, trivial⟩
theorem bkM_J9_floorDiv_f86c9 : bchkM bmeth bmjs 4353 = true := by decide +kernel
theorem bkH_J9_floorDiv_f86c9 : bHead (bm_17 1) ∈ bw_G := bw_in (bprog_in 3 _ (List.mem_of_getElem? (i := 42) rfl)) rfl
theorem bkM_J9_floorMod_f86c9 : bchkM bmeth bmjs 4354 = true := by decide +kernel
theorem bkH_J9_floorMod_f86c9 : bHead (bm_17 2) ∈ bw_G := bw_in (bprog_in 3 _ (List.mem_of_getElem? (i := 45) rfl)) rfl
theorem bkMA_17 : ∀ k, k < 3 → (bmjs (4352 + k)).1 ≠ 0 → bchkM bmeth bmjs (4352 + k) = true ∧ bHead (bm_17 k) ∈ bw_G := by
  intro k hk h0
  match k, hk with
  | 0, _ => exact absurd (by decide +kernel) h0
  | 1, _ => exact ⟨bkM_J9_floorDiv_f86c9, bkH_J9_floorDiv_f86c9⟩
  | 2, _ => exact ⟨bkM_J9_floorMod_f86c9, bkH_J9_floorMod_f86c9⟩
  | k + 3, h => omega
