/-! The checks, go on. -/
theorem bkH_L_solve : bHead (bm_15 30) ∈ bw_G := sorry
theorem bkM_L_subtract : bchkM bmeth bmjs 3871 = true := sorry
theorem bkH_L_subtract : bHead (bm_15 31) ∈ bw_G := sorry
theorem bkM_L_sure : bchkM bmeth bmjs 3872 = true := sorry
theorem bkH_L_sure : bHead (bm_15 32) ∈ bw_G := sorry
theorem bkM_L_type : bchkM bmeth bmjs 3873 = true := sorry
theorem bkH_L_type : bHead (bm_15 33) ∈ bw_G := sorry
theorem bkM_L_undo : bchkM bmeth bmjs 3874 = true := sorry
theorem bkH_L_undo : bHead (bm_15 34) ∈ bw_G := sorry
theorem bkM_L_value : bchkM bmeth bmjs 3875 = true := sorry
theorem bkH_L_value : bHead (bm_15 35) ∈ bw_G := sorry
theorem bkM_L_width : bchkM bmeth bmjs 3876 = true := sorry
theorem bkH_L_width : bHead (bm_15 36) ∈ bw_G := sorry
theorem bkM_L_zeros : bchkM bmeth bmjs 3877 = true := sorry
theorem bkH_L_zeros : bHead (bm_15 37) ∈ bw_G := sorry
theorem bkMA_15 : ∀ k, k < 38 → (bmjs (3840 + k)).1 ≠ 0 → bchkM bmeth bmjs (3840 + k) = true ∧ bHead (bm_15 k) ∈ bw_G := sorry
noncomputable def bm_16 (k : Nat) : bM := bmc_16.getD k bnoM
theorem bkD_J13_compare_74951 : bchk3 (bm_16 0) bk_J13_compare_74951 = true := sorry
theorem bkA_16 : bAllOk (fun y l => bchk3 y l = true) bkc_16 bmc_16 := sorry
theorem bkM_J13_compare_74951 : bchkM bmeth bmjs 4096 = true := sorry
theorem bkH_J13_compare_74951 : bHead (bm_16 0) ∈ bw_G := sorry
theorem bkMA_16 : ∀ k, k < 1 → (bmjs (4096 + k)).1 ≠ 0 → bchkM bmeth bmjs (4096 + k) = true ∧ bHead (bm_16 k) ∈ bw_G := sorry
noncomputable def bm_17 (k : Nat) : bM := bmc_17.getD k bnoM
theorem bkD_J9_abs_0f7a4 : bchk3 (bm_17 0) bk_J9_abs_0f7a4 = true := sorry
theorem bkD_J9_floorDiv_f86c9 : bchk3 (bm_17 1) bk_J9_floorDiv_f86c9 = true := sorry
theorem bkD_J9_floorMod_f86c9 : bchk3 (bm_17 2) bk_J9_floorMod_f86c9 = true := sorry
theorem bkA_17 : bAllOk (fun y l => bchk3 y l = true) bkc_17 bmc_17 := sorry
theorem bkM_J9_abs_0f7a4 : bchkM bmeth bmjs 4352 = true := sorry
theorem bkH_J9_abs_0f7a4 : bHead (bm_17 0) ∈ bw_G := sorry
theorem bkM_J9_floorDiv_f86c9 : bchkM bmeth bmjs 4353 = true := sorry
theorem bkH_J9_floorDiv_f86c9 : bHead (bm_17 1) ∈ bw_G := sorry
theorem bkM_J9_floorMod_f86c9 : bchkM bmeth bmjs 4354 = true := sorry
theorem bkH_J9_floorMod_f86c9 : bHead (bm_17 2) ∈ bw_G := sorry
theorem bkMA_17 : ∀ k, k < 3 → (bmjs (4352 + k)).1 ≠ 0 → bchkM bmeth bmjs (4352 + k) = true ∧ bHead (bm_17 k) ∈ bw_G := sorry
