/-! The checks, go on. -/
theorem bkD_X5_closeAtom : bchk3 (bm_7 3) bk_X5_closeAtom = true := by decide +kernel
theorem bkD_X5_findStarts : bchk3 (bm_7 4) bk_X5_findStarts = true := by decide +kernel
theorem bkD_X5_hold : bchk3 (bm_7 5) bk_X5_hold = true := by decide +kernel
theorem bkD_X5_isAhead : bchk3 (bm_7 6) bk_X5_isAhead = true := by decide +kernel
theorem bkD_X5_isPair : bchk3 (bm_7 7) bk_X5_isPair = true := by decide +kernel
theorem bkD_X5_lastHeld : bchk3 (bm_7 8) bk_X5_lastHeld = true := by decide +kernel
theorem bkD_X5_leftOf : bchk3 (bm_7 9) bk_X5_leftOf = true := by decide +kernel
theorem bkD_X5_numberAt : bchk3 (bm_7 10) bk_X5_numberAt = true := by decide +kernel
theorem bkD_X5_parse_0 : bchk3 (bm_7 11) bk_X5_parse_0 = true := by decide +kernel
theorem bkD_X5_parse_1 : bchk3 (bm_7 11) bk_X5_parse_1 = true := by decide +kernel
theorem bkD_X5_parse : bchk3 (bm_7 11) bk_X5_parse = true := bchk3_app bkD_X5_parse_0 (bkD_X5_parse_1)
theorem bkD_X5_release : bchk3 (bm_7 12) bk_X5_release = true := by decide +kernel
theorem bkD_X5_releaseProducts : bchk3 (bm_7 13) bk_X5_releaseProducts = true := by decide +kernel
theorem bkD_X5_releaseSums : bchk3 (bm_7 14) bk_X5_releaseSums = true := by decide +kernel
theorem bkD_X5_scaleAt : bchk3 (bm_7 15) bk_X5_scaleAt = true := by decide +kernel
theorem bkD_X5_startOf : bchk3 (bm_7 16) bk_X5_startOf = true := by decide +kernel
theorem bkD_X5_takesAct : bchk3 (bm_7 17) bk_X5_takesAct = true := by decide +kernel
theorem bkD_X5_takesAtom : bchk3 (bm_7 18) bk_X5_takesAtom = true := by decide +kernel
theorem bkD_X5_takesClosing : bchk3 (bm_7 19) bk_X5_takesClosing = true := by decide +kernel
theorem bkD_X5_takesExponent : bchk3 (bm_7 20) bk_X5_takesExponent = true := by decide +kernel
theorem bkD_X5_takesNumber : bchk3 (bm_7 21) bk_X5_takesNumber = true := by decide +kernel
theorem bkD_X5_within : bchk3 (bm_7 22) bk_X5_within = true := by decide +kernel
theorem bkA_7 : bAllOk (fun y l => bchk3 y l = true) bkc_7 bmc_7 := ⟨bkD_X5_init, bkD_X5_actAt, bkD_X5_append, bkD_X5_closeAtom, bkD_X5_findStarts, bkD_X5_hold, bkD_X5_isAhead, bkD_X5_isPair, bkD_X5_lastHeld, bkD_X5_leftOf, bkD_X5_numberAt, bkD_X5_parse, bkD_X5_release, bkD_X5_releaseProducts, bkD_X5_releaseSums, bkD_X5_scaleAt, bkD_X5_startOf, bkD_X5_takesAct, bkD_X5_takesAtom, bkD_X5_takesClosing, bkD_X5_takesExponent, bkD_X5_takesNumber, bkD_X5_within, trivial⟩
theorem bkM_X5_init : bchkM bmeth bmjs 1792 = true := by decide +kernel
theorem bkH_X5_init : bHead (bm_7 0) ∈ bw_G := bw_in (bprog_in 2 _ (List.mem_of_getElem? (i := 75) rfl)) rfl
theorem bkM_X5_isPair : bchkM bmeth bmjs 1799 = true := by decide +kernel
theorem bkH_X5_isPair : bHead (bm_7 7) ∈ bw_G := bw_in (bprog_in 3 _ (List.mem_of_getElem? (i := 30) rfl)) rfl
theorem bkM_X5_parse : bchkM bmeth bmjs 1803 = true := by decide +kernel
theorem bkH_X5_parse : bHead (bm_7 11) ∈ bw_G := bw_in (bprog_in 6 _ (List.mem_of_getElem? (i := 177) rfl)) rfl
theorem bkMA_7 : ∀ k, k < 23 → (bmjs (1792 + k)).1 ≠ 0 → bchkM bmeth bmjs (1792 + k) = true ∧ bHead (bm_7 k) ∈ bw_G := by
  intro k hk h0
  match k, hk with
  | 0, _ => exact ⟨bkM_X5_init, bkH_X5_init⟩
  | 1, _ => exact absurd (by decide +kernel) h0
  | 2, _ => exact absurd (by decide +kernel) h0
  | 3, _ => exact absurd (by decide +kernel) h0
  | 4, _ => exact absurd (by decide +kernel) h0
  | 5, _ => exact absurd (by decide +kernel) h0
  | 6, _ => exact absurd (by decide +kernel) h0
  | 7, _ => exact ⟨bkM_X5_isPair, bkH_X5_isPair⟩
  | 8, _ => exact absurd (by decide +kernel) h0
  | 9, _ => exact absurd (by decide +kernel) h0
  | 10, _ => exact absurd (by decide +kernel) h0
  | 11, _ => exact ⟨bkM_X5_parse, bkH_X5_parse⟩
  | 12, _ => exact absurd (by decide +kernel) h0
  | 13, _ => exact absurd (by decide +kernel) h0
  | 14, _ => exact absurd (by decide +kernel) h0
  | 15, _ => exact absurd (by decide +kernel) h0
  | 16, _ => exact absurd (by decide +kernel) h0
  | 17, _ => exact absurd (by decide +kernel) h0
  | 18, _ => exact absurd (by decide +kernel) h0
  | 19, _ => exact absurd (by decide +kernel) h0
  | 20, _ => exact absurd (by decide +kernel) h0
  | 21, _ => exact absurd (by decide +kernel) h0
  | 22, _ => exact absurd (by decide +kernel) h0
  | k + 23, h => omega
noncomputable def bm_8 (k : Nat) : bM := bmc_8.getD k bnoM
theorem bkD_X6_init_0 : bchk3 (bm_8 0) bk_X6_init_0 = true := by decide +kernel
theorem bkD_X6_init_1 : bchk3 (bm_8 0) bk_X6_init_1 = true := by decide +kernel
theorem bkD_X6_init : bchk3 (bm_8 0) bk_X6_init = true := bchk3_app bkD_X6_init_0 (bkD_X6_init_1)
theorem bkD_X6_actOf : bchk3 (bm_8 1) bk_X6_actOf = true := by decide +kernel
theorem bkD_X6_aim : bchk3 (bm_8 2) bk_X6_aim = true := by decide +kernel
theorem bkD_X6_at : bchk3 (bm_8 3) bk_X6_at = true := by decide +kernel
theorem bkD_X6_byOf : bchk3 (bm_8 4) bk_X6_byOf = true := by decide +kernel
theorem bkD_X6_clear : bchk3 (bm_8 5) bk_X6_clear = true := by decide +kernel
theorem bkD_X6_enter : bchk3 (bm_8 6) bk_X6_enter = true := by decide +kernel
theorem bkD_X6_make_0 : bchk3 (bm_8 7) bk_X6_make_0 = true := by decide +kernel
theorem bkD_X6_make_1 : bchk3 (bm_8 7) bk_X6_make_1 = true := by decide +kernel
theorem bkD_X6_make_2 : bchk3 (bm_8 7) bk_X6_make_2 = true := by decide +kernel
theorem bkD_X6_make : bchk3 (bm_8 7) bk_X6_make = true := bchk3_app bkD_X6_make_0 (bchk3_app bkD_X6_make_1 (bkD_X6_make_2))
theorem bkD_X6_makeFrom : bchk3 (bm_8 8) bk_X6_makeFrom = true := by decide +kernel
theorem bkD_X6_makeSlope : bchk3 (bm_8 9) bk_X6_makeSlope = true := by decide +kernel
theorem bkD_X6_makeValue : bchk3 (bm_8 10) bk_X6_makeValue = true := by decide +kernel
theorem bkD_X6_nextSign : bchk3 (bm_8 11) bk_X6_nextSign = true := by decide +kernel
theorem bkD_X6_numberOf : bchk3 (bm_8 12) bk_X6_numberOf = true := by decide +kernel
theorem bkD_X6_push : bchk3 (bm_8 13) bk_X6_push = true := by decide +kernel
theorem bkD_X6_recipeOf : bchk3 (bm_8 14) bk_X6_recipeOf = true := by decide +kernel
theorem bkD_X6_result : bchk3 (bm_8 15) bk_X6_result = true := by decide +kernel
theorem bkD_X6_unit : bchk3 (bm_8 16) bk_X6_unit = true := by decide +kernel
theorem bkD_X6_useDigits : bchk3 (bm_8 17) bk_X6_useDigits = true := by decide +kernel
theorem bkA_8 : bAllOk (fun y l => bchk3 y l = true) bkc_8 bmc_8 := ⟨bkD_X6_init, bkD_X6_actOf, bkD_X6_aim, bkD_X6_at, bkD_X6_byOf, bkD_X6_clear, bkD_X6_enter, bkD_X6_make, bkD_X6_makeFrom, bkD_X6_makeSlope, bkD_X6_makeValue, bkD_X6_nextSign, bkD_X6_numberOf, bkD_X6_push, bkD_X6_recipeOf, bkD_X6_result, bkD_X6_unit, bkD_X6_useDigits, trivial⟩
theorem bkM_X6_init : bchkM bmeth bmjs 2048 = true := by decide +kernel
