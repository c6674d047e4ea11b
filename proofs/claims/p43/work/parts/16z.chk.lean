/-! The checks, go on. -/
theorem bkH_L_type : bHead (bm_15 33) ∈ bw_G := bw_in (bprog_in 5 _ (List.mem_of_getElem? (i := 49) rfl)) rfl
theorem bkM_L_undo : bchkM bmeth bmjs 3874 = true := by decide +kernel
theorem bkH_L_undo : bHead (bm_15 34) ∈ bw_G := bw_in (bprog_in 6 _ (List.mem_of_getElem? (i := 75) rfl)) rfl
theorem bkM_L_value : bchkM bmeth bmjs 3875 = true := by decide +kernel
theorem bkH_L_value : bHead (bm_15 35) ∈ bw_G := bw_in (bprog_in 7 _ (List.mem_of_getElem? (i := 15) rfl)) rfl
theorem bkM_L_width : bchkM bmeth bmjs 3876 = true := by decide +kernel
theorem bkH_L_width : bHead (bm_15 36) ∈ bw_G := bw_in (bprog_in 6 _ (List.mem_of_getElem? (i := 37) rfl)) rfl
theorem bkM_L_zeros : bchkM bmeth bmjs 3877 = true := by decide +kernel
theorem bkH_L_zeros : bHead (bm_15 37) ∈ bw_G := bw_in (bprog_in 7 _ (List.mem_of_getElem? (i := 135) rfl)) rfl
theorem bkMA_15 : ∀ k, k < 38 → (bmjs (3840 + k)).1 ≠ 0 → bchkM bmeth bmjs (3840 + k) = true ∧ bHead (bm_15 k) ∈ bw_G := by
  intro k hk h0
  match k, hk with
  | 0, _ => exact ⟨bkM_L_add, bkH_L_add⟩
  | 1, _ => exact ⟨bkM_L_apply, bkH_L_apply⟩
  | 2, _ => exact ⟨bkM_L_area, bkH_L_area⟩
  | 3, _ => exact ⟨bkM_L_compare, bkH_L_compare⟩
  | 4, _ => exact ⟨bkM_L_constant, bkH_L_constant⟩
  | 5, _ => exact ⟨bkM_L_decide, bkH_L_decide⟩
  | 6, _ => exact ⟨bkM_L_define, bkH_L_define⟩
  | 7, _ => exact ⟨bkM_L_divide, bkH_L_divide⟩
  | 8, _ => exact ⟨bkM_L_greatest, bkH_L_greatest⟩
  | 9, _ => exact ⟨bkM_L_hasY, bkH_L_hasY⟩
  | 10, _ => exact ⟨bkM_L_high, bkH_L_high⟩
  | 11, _ => exact ⟨bkM_L_isWithin, bkH_L_isWithin⟩
  | 12, _ => exact ⟨bkM_L_join, bkH_L_join⟩
  | 13, _ => exact absurd (by decide +kernel) h0
  | 14, _ => exact ⟨bkM_L_least, bkH_L_least⟩
  | 15, _ => exact ⟨bkM_L_low, bkH_L_low⟩
  | 16, _ => exact ⟨bkM_L_meet, bkH_L_meet⟩
  | 17, _ => exact ⟨bkM_L_move, bkH_L_move⟩
  | 18, _ => exact ⟨bkM_L_multiply, bkH_L_multiply⟩
  | 19, _ => exact ⟨bkM_L_narrow, bkH_L_narrow⟩
  | 20, _ => exact ⟨bkM_L_pairs, bkH_L_pairs⟩
  | 21, _ => exact ⟨bkM_L_piece, bkH_L_piece⟩
  | 22, _ => exact ⟨bkM_L_pieceKind, bkH_L_pieceKind⟩
  | 23, _ => exact ⟨bkM_L_power, bkH_L_power⟩
  | 24, _ => exact ⟨bkM_L_put, bkH_L_put⟩
  | 25, _ => exact ⟨bkM_L_read, bkH_L_read⟩
  | 26, _ => exact ⟨bkM_L_root, bkH_L_root⟩
  | 27, _ => exact ⟨bkM_L_setDigits, bkH_L_setDigits⟩
  | 28, _ => exact ⟨bkM_L_signAt, bkH_L_signAt⟩
  | 29, _ => exact ⟨bkM_L_slope, bkH_L_slope⟩
  | 30, _ => exact ⟨bkM_L_solve, bkH_L_solve⟩
  | 31, _ => exact ⟨bkM_L_subtract, bkH_L_subtract⟩
  | 32, _ => exact ⟨bkM_L_sure, bkH_L_sure⟩
  | 33, _ => exact ⟨bkM_L_type, bkH_L_type⟩
  | 34, _ => exact ⟨bkM_L_undo, bkH_L_undo⟩
  | 35, _ => exact ⟨bkM_L_value, bkH_L_value⟩
  | 36, _ => exact ⟨bkM_L_width, bkH_L_width⟩
  | 37, _ => exact ⟨bkM_L_zeros, bkH_L_zeros⟩
  | k + 38, h => omega
noncomputable def bm_16 (k : Nat) : bM := bmc_16.getD k bnoM
theorem bkD_J13_compare_74951 : bchk3 (bm_16 0) bk_J13_compare_74951 = true := by decide +kernel
theorem bkA_16 : bAllOk (fun y l => bchk3 y l = true) bkc_16 bmc_16 := ⟨bkD_J13_compare_74951, trivial⟩
theorem bkM_J13_compare_74951 : bchkM bmeth bmjs 4096 = true := by decide +kernel
theorem bkH_J13_compare_74951 : bHead (bm_16 0) ∈ bw_G := bw_in (bprog_in 3 _ (List.mem_of_getElem? (i := 138) rfl)) rfl
theorem bkMA_16 : ∀ k, k < 1 → (bmjs (4096 + k)).1 ≠ 0 → bchkM bmeth bmjs (4096 + k) = true ∧ bHead (bm_16 k) ∈ bw_G := by
  intro k hk h0
  match k, hk with
  | 0, _ => exact ⟨bkM_J13_compare_74951, bkH_J13_compare_74951⟩
  | k + 1, h => omega
noncomputable def bm_17 (k : Nat) : bM := bmc_17.getD k bnoM
theorem bkD_J9_abs_0f7a4 : bchk3 (bm_17 0) bk_J9_abs_0f7a4 = true := by decide +kernel
theorem bkD_J9_floorDiv_f86c9 : bchk3 (bm_17 1) bk_J9_floorDiv_f86c9 = true := by decide +kernel
theorem bkD_J9_floorMod_f86c9 : bchk3 (bm_17 2) bk_J9_floorMod_f86c9 = true := by decide +kernel
theorem bkA_17 : bAllOk (fun y l => bchk3 y l = true) bkc_17 bmc_17 := ⟨bkD_J9_abs_0f7a4, bkD_J9_floorDiv_f86c9, bkD_J9_floorMod_f86c9, trivial⟩
theorem bkM_J9_abs_0f7a4 : bchkM bmeth bmjs 4352 = true := by decide +kernel
theorem bkH_J9_abs_0f7a4 : bHead (bm_17 0) ∈ bw_G := bw_in (bprog_in 4 _ (List.mem_of_getElem? (i := 122) rfl)) rfl
theorem bkM_J9_floorDiv_f86c9 : bchkM bmeth bmjs 4353 = true := by decide +kernel
theorem bkH_J9_floorDiv_f86c9 : bHead (bm_17 1) ∈ bw_G := bw_in (bprog_in 3 _ (List.mem_of_getElem? (i := 42) rfl)) rfl
theorem bkM_J9_floorMod_f86c9 : bchkM bmeth bmjs 4354 = true := by decide +kernel
theorem bkH_J9_floorMod_f86c9 : bHead (bm_17 2) ∈ bw_G := bw_in (bprog_in 3 _ (List.mem_of_getElem? (i := 45) rfl)) rfl
theorem bkMA_17 : ∀ k, k < 3 → (bmjs (4352 + k)).1 ≠ 0 → bchkM bmeth bmjs (4352 + k) = true ∧ bHead (bm_17 k) ∈ bw_G := by
  intro k hk h0
  match k, hk with
  | 0, _ => exact ⟨bkM_J9_abs_0f7a4, bkH_J9_abs_0f7a4⟩
  | 1, _ => exact ⟨bkM_J9_floorDiv_f86c9, bkH_J9_floorDiv_f86c9⟩
  | 2, _ => exact ⟨bkM_J9_floorMod_f86c9, bkH_J9_floorMod_f86c9⟩
  | k + 3, h => omega
