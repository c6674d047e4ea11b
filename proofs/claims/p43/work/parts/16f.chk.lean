/-! The checks, go on. -/
theorem bkD_X6_init : bchk3 (bm_8 0) bk_X6_init = true := bchk3_app bkD_X6_init_0 (bkD_X6_init_1)
theorem bkD_X6_actOf : bchk3 (bm_8 1) bk_X6_actOf = true := by decide +kernel
theorem bkD_X6_aim : bchk3 (bm_8 2) bk_X6_aim = true := by decide +kernel
theorem bkD_X6_at : bchk3 (bm_8 3) bk_X6_at = true := by decide +kernel
theorem bkD_X6_byOf : bchk3 (bm_8 4) bk_X6_byOf = true := by decide +kernel
theorem bkD_X6_clear : bchk3 (bm_8 5) bk_X6_clear = true := by decide +kernel
theorem bkD_X6_enter : bchk3 (bm_8 6) bk_X6_enter = true := by decide +kernel
theorem bkD_X6_make_0 : bchk3 (bm_8 7) bk_X6_make_0 = true := by decide +kernel
theorem bkD_X6_make_1 : bchk3 (bm_8 7) bk_X6_make_1 = true := by decide +kernel
theorem bkD_X6_make_2 : bchk3 (bm_8 7) bk_X6_make_2 = true := by decide +kernel
theorem bkD_X6_make : bchk3 (bm_8 7) bk_X6_make = true := bchk3_app bkD_X6_make_0 (bchk3_app bkD_X6_make_1 (bkD_X6_make_2))
theorem bkD_X6_makeFrom : bchk3 (bm_8 8) bk_X6_makeFrom = true := by decide +kernel
theorem bkD_X6_makeSlope_0 : bchk3 (bm_8 9) bk_X6_makeSlope_0 = true := by decide +kernel
theorem bkD_X6_makeSlope_1 : bchk3 (bm_8 9) bk_X6_makeSlope_1 = true := by decide +kernel
theorem bkD_X6_makeSlope_2 : bchk3 (bm_8 9) bk_X6_makeSlope_2 = true := by decide +kernel
theorem bkD_X6_makeSlope : bchk3 (bm_8 9) bk_X6_makeSlope = true := bchk3_app bkD_X6_makeSlope_0 (bchk3_app bkD_X6_makeSlope_1 (bkD_X6_makeSlope_2))
theorem bkD_X6_makeValue : bchk3 (bm_8 10) bk_X6_makeValue = true := by decide +kernel
theorem bkD_X6_nextSign : bchk3 (bm_8 11) bk_X6_nextSign = true := by decide +kernel
theorem bkD_X6_numberOf : bchk3 (bm_8 12) bk_X6_numberOf = true := by decide +kernel
theorem bkD_X6_push : bchk3 (bm_8 13) bk_X6_push = true := by decide +kernel
theorem bkD_X6_recipeOf : bchk3 (bm_8 14) bk_X6_recipeOf = true := by decide +kernel
theorem bkD_X6_result : bchk3 (bm_8 15) bk_X6_result = true := by decide +kernel
theorem bkD_X6_unit : bchk3 (bm_8 16) bk_X6_unit = true := by decide +kernel
theorem bkD_X6_useDigits : bchk3 (bm_8 17) bk_X6_useDigits = true := by decide +kernel
theorem bkA_8 : bAllOk (fun y l => bchk3 y l = true) bkc_8 bmc_8 := ⟨bkD_X6_init, bkD_X6_actOf, bkD_X6_aim, bkD_X6_at, bkD_X6_byOf, bkD_X6_clear, bkD_X6_enter, bkD_X6_make, bkD_X6_makeFrom, bkD_X6_makeSlope, bkD_X6_makeValue, bkD_X6_nextSign, bkD_X6_numberOf, bkD_X6_push, bkD_X6_recipeOf, bkD_X6_result, bkD_X6_unit, bkD_X6_useDigits, trivial⟩
theorem bkM_X6_init : bchkM bmeth bmjs 2048 = true := by decide +kernel
theorem bkH_X6_init : bHead (bm_8 0) ∈ bw_G := bw_in (bprog_in 1 _ (List.mem_of_getElem? (i := 130) rfl)) rfl
theorem bkM_X6_actOf : bchkM bmeth bmjs 2049 = true := by decide +kernel
theorem bkH_X6_actOf : bHead (bm_8 1) ∈ bw_G := bw_in (bprog_in 7 _ (List.mem_of_getElem? (i := 115) rfl)) rfl
theorem bkM_X6_aim : bchkM bmeth bmjs 2050 = true := by decide +kernel
theorem bkH_X6_aim : bHead (bm_8 2) ∈ bw_G := bw_in (bprog_in 4 _ (List.mem_of_getElem? (i := 169) rfl)) rfl
theorem bkM_X6_at : bchkM bmeth bmjs 2051 = true := by decide +kernel
theorem bkH_X6_at : bHead (bm_8 3) ∈ bw_G := bw_in (bprog_in 3 _ (List.mem_of_getElem? (i := 27) rfl)) rfl
theorem bkM_X6_byOf : bchkM bmeth bmjs 2052 = true := by decide +kernel
theorem bkH_X6_byOf : bHead (bm_8 4) ∈ bw_G := bw_in (bprog_in 7 _ (List.mem_of_getElem? (i := 121) rfl)) rfl
theorem bkM_X6_clear : bchkM bmeth bmjs 2053 = true := by decide +kernel
theorem bkH_X6_clear : bHead (bm_8 5) ∈ bw_G := bw_in (bprog_in 3 _ (List.mem_of_getElem? (i := 19) rfl)) rfl
theorem bkM_X6_enter : bchkM bmeth bmjs 2054 = true := by decide +kernel
theorem bkH_X6_enter : bHead (bm_8 6) ∈ bw_G := bw_in (bprog_in 7 _ (List.mem_of_getElem? (i := 38) rfl)) rfl
theorem bkM_X6_make : bchkM bmeth bmjs 2055 = true := by decide +kernel
theorem bkH_X6_make : bHead (bm_8 7) ∈ bw_G := bw_in (bprog_in 3 _ (List.mem_of_getElem? (i := 23) rfl)) rfl
theorem bkM_X6_makeFrom : bchkM bmeth bmjs 2056 = true := by decide +kernel
theorem bkH_X6_makeFrom : bHead (bm_8 8) ∈ bw_G := bw_in (bprog_in 5 _ (List.mem_of_getElem? (i := 189) rfl)) rfl
theorem bkM_X6_makeSlope : bchkM bmeth bmjs 2057 = true := by decide +kernel
theorem bkH_X6_makeSlope : bHead (bm_8 9) ∈ bw_G := bw_in (bprog_in 7 _ (List.mem_of_getElem? (i := 34) rfl)) rfl
theorem bkM_X6_makeValue : bchkM bmeth bmjs 2058 = true := by decide +kernel
theorem bkH_X6_makeValue : bHead (bm_8 10) ∈ bw_G := bw_in (bprog_in 4 _ (List.mem_of_getElem? (i := 173) rfl)) rfl
theorem bkM_X6_nextSign : bchkM bmeth bmjs 2059 = true := by decide +kernel
theorem bkH_X6_nextSign : bHead (bm_8 11) ∈ bw_G := bw_in (bprog_in 7 _ (List.mem_of_getElem? (i := 58) rfl)) rfl
theorem bkM_X6_numberOf : bchkM bmeth bmjs 2060 = true := by decide +kernel
theorem bkH_X6_numberOf : bHead (bm_8 12) ∈ bw_G := bw_in (bprog_in 7 _ (List.mem_of_getElem? (i := 118) rfl)) rfl
theorem bkM_X6_push : bchkM bmeth bmjs 2061 = true := by decide +kernel
theorem bkH_X6_push : bHead (bm_8 13) ∈ bw_G := bw_in (bprog_in 6 _ (List.mem_of_getElem? (i := 99) rfl)) rfl
theorem bkM_X6_recipeOf : bchkM bmeth bmjs 2062 = true := by decide +kernel
theorem bkH_X6_recipeOf : bHead (bm_8 14) ∈ bw_G := bw_in (bprog_in 7 _ (List.mem_of_getElem? (i := 42) rfl)) rfl
theorem bkM_X6_result : bchkM bmeth bmjs 2063 = true := by decide +kernel
theorem bkH_X6_result : bHead (bm_8 15) ∈ bw_G := bw_in (bprog_in 4 _ (List.mem_of_getElem? (i := 156) rfl)) rfl
theorem bkM_X6_unit : bchkM bmeth bmjs 2064 = true := by decide +kernel
theorem bkH_X6_unit : bHead (bm_8 16) ∈ bw_G := bw_in (bprog_in 4 _ (List.mem_of_getElem? (i := 195) rfl)) rfl
theorem bkM_X6_useDigits : bchkM bmeth bmjs 2065 = true := by decide +kernel
theorem bkH_X6_useDigits : bHead (bm_8 17) ∈ bw_G := bw_in (bprog_in 2 _ (List.mem_of_getElem? (i := 60) rfl)) rfl
theorem bkMA_8 : ∀ k, k < 18 → (bmjs (2048 + k)).1 ≠ 0 → bchkM bmeth bmjs (2048 + k) = true ∧ bHead (bm_8 k) ∈ bw_G := by
  intro k hk h0
  match k, hk with
  | 0, _ => exact ⟨bkM_X6_init, bkH_X6_init⟩
  | 1, _ => exact ⟨bkM_X6_actOf, bkH_X6_actOf⟩
  | 2, _ => exact ⟨bkM_X6_aim, bkH_X6_aim⟩
  | 3, _ => exact ⟨bkM_X6_at, bkH_X6_at⟩
  | 4, _ => exact ⟨bkM_X6_byOf, bkH_X6_byOf⟩
  | 5, _ => exact ⟨bkM_X6_clear, bkH_X6_clear⟩
  | 6, _ => exact ⟨bkM_X6_enter, bkH_X6_enter⟩
  | 7, _ => exact ⟨bkM_X6_make, bkH_X6_make⟩
  | 8, _ => exact ⟨bkM_X6_makeFrom, bkH_X6_makeFrom⟩
  | 9, _ => exact ⟨bkM_X6_makeSlope, bkH_X6_makeSlope⟩
  | 10, _ => exact ⟨bkM_X6_makeValue, bkH_X6_makeValue⟩
  | 11, _ => exact ⟨bkM_X6_nextSign, bkH_X6_nextSign⟩
  | 12, _ => exact ⟨bkM_X6_numberOf, bkH_X6_numberOf⟩
  | 13, _ => exact ⟨bkM_X6_push, bkH_X6_push⟩
  | 14, _ => exact ⟨bkM_X6_recipeOf, bkH_X6_recipeOf⟩
  | 15, _ => exact ⟨bkM_X6_result, bkH_X6_result⟩
  | 16, _ => exact ⟨bkM_X6_unit, bkH_X6_unit⟩
  | 17, _ => exact ⟨bkM_X6_useDigits, bkH_X6_useDigits⟩
  | k + 18, h => omega
noncomputable def bm_9 (k : Nat) : bM := bmc_9.getD k bnoM
theorem bkD_X7_init : bchk3 (bm_9 0) bk_X7_init = true := by decide +kernel
theorem bkD_X7_append : bchk3 (bm_9 1) bk_X7_append = true := by decide +kernel
