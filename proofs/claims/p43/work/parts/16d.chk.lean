/-! The checks, go on. -/
theorem bkM_X3_sumPowers : bchkM bmeth bmjs 1289 = true := by decide +kernel
theorem bkH_X3_sumPowers : bHead (bm_5 9) ∈ bw_G := bw_in (bprog_in 4 _ (List.mem_of_getElem? (i := 54) rfl)) rfl
theorem bkM_X3_tell : bchkM bmeth bmjs 1290 = true := by decide +kernel
theorem bkH_X3_tell : bHead (bm_5 10) ∈ bw_G := bw_in (bprog_in 4 _ (List.mem_of_getElem? (i := 86) rfl)) rfl
theorem bkMA_5 : ∀ k, k < 11 → (bmjs (1280 + k)).1 ≠ 0 → bchkM bmeth bmjs (1280 + k) = true ∧ bHead (bm_5 k) ∈ bw_G := by
  intro k hk h0
  match k, hk with
  | 0, _ => exact ⟨bkM_X3_init, bkH_X3_init⟩
  | 1, _ => exact ⟨bkM_X3_arc, bkH_X3_arc⟩
  | 2, _ => exact ⟨bkM_X3_begin, bkH_X3_begin⟩
  | 3, _ => exact ⟨bkM_X3_exponential, bkH_X3_exponential⟩
  | 4, _ => exact ⟨bkM_X3_logarithm, bkH_X3_logarithm⟩
  | 5, _ => exact ⟨bkM_X3_nearestEighth, bkH_X3_nearestEighth⟩
  | 6, _ => exact ⟨bkM_X3_settle, bkH_X3_settle⟩
  | 7, _ => exact ⟨bkM_X3_shiftToEighth, bkH_X3_shiftToEighth⟩
  | 8, _ => exact ⟨bkM_X3_sumOddPowers, bkH_X3_sumOddPowers⟩
  | 9, _ => exact ⟨bkM_X3_sumPowers, bkH_X3_sumPowers⟩
  | 10, _ => exact ⟨bkM_X3_tell, bkH_X3_tell⟩
  | k + 11, h => omega
noncomputable def bm_6 (k : Nat) : bM := bmc_6.getD k bnoM
theorem bkD_X4_init : bchk3 (bm_6 0) bk_X4_init = true := by decide +kernel
theorem bkD_X4_clear : bchk3 (bm_6 1) bk_X4_clear = true := by decide +kernel
theorem bkD_X4_copy : bchk3 (bm_6 2) bk_X4_copy = true := by decide +kernel
theorem bkD_X4_isBelow : bchk3 (bm_6 3) bk_X4_isBelow = true := by decide +kernel
theorem bkD_X4_isZero : bchk3 (bm_6 4) bk_X4_isZero = true := by decide +kernel
theorem bkD_X4_limbAt : bchk3 (bm_6 5) bk_X4_limbAt = true := by decide +kernel
theorem bkD_X4_load_0 : bchk3 (bm_6 6) bk_X4_load_0 = true := by decide +kernel
theorem bkD_X4_load_1 : bchk3 (bm_6 6) bk_X4_load_1 = true := by decide +kernel
theorem bkD_X4_load : bchk3 (bm_6 6) bk_X4_load = true := bchk3_app bkD_X4_load_0 (bkD_X4_load_1)
theorem bkD_X4_minus : bchk3 (bm_6 7) bk_X4_minus = true := by decide +kernel
theorem bkD_X4_over : bchk3 (bm_6 8) bk_X4_over = true := by decide +kernel
theorem bkD_X4_plus : bchk3 (bm_6 9) bk_X4_plus = true := by decide +kernel
theorem bkD_X4_setLimb : bchk3 (bm_6 10) bk_X4_setLimb = true := by decide +kernel
theorem bkD_X4_toProduct_0 : bchk3 (bm_6 11) bk_X4_toProduct_0 = true := by decide +kernel
theorem bkD_X4_toProduct_1 : bchk3 (bm_6 11) bk_X4_toProduct_1 = true := by decide +kernel
theorem bkD_X4_toProduct : bchk3 (bm_6 11) bk_X4_toProduct = true := bchk3_app bkD_X4_toProduct_0 (bkD_X4_toProduct_1)
theorem bkA_6 : bAllOk (fun y l => bchk3 y l = true) bkc_6 bmc_6 := ⟨bkD_X4_init, bkD_X4_clear, bkD_X4_copy, bkD_X4_isBelow, bkD_X4_isZero, bkD_X4_limbAt, bkD_X4_load, bkD_X4_minus, bkD_X4_over, bkD_X4_plus, bkD_X4_setLimb, bkD_X4_toProduct, trivial⟩
theorem bkM_X4_init : bchkM bmeth bmjs 1536 = true := by decide +kernel
theorem bkH_X4_init : bHead (bm_6 0) ∈ bw_G := bw_in (bprog_in 1 _ (List.mem_of_getElem? (i := 197) rfl)) rfl
theorem bkM_X4_clear : bchkM bmeth bmjs 1537 = true := by decide +kernel
theorem bkH_X4_clear : bHead (bm_6 1) ∈ bw_G := bw_in (bprog_in 4 _ (List.mem_of_getElem? (i := 43) rfl)) rfl
theorem bkM_X4_copy : bchkM bmeth bmjs 1538 = true := by decide +kernel
theorem bkH_X4_copy : bHead (bm_6 2) ∈ bw_G := bw_in (bprog_in 4 _ (List.mem_of_getElem? (i := 61) rfl)) rfl
theorem bkM_X4_isBelow : bchkM bmeth bmjs 1539 = true := by decide +kernel
theorem bkH_X4_isBelow : bHead (bm_6 3) ∈ bw_G := bw_in (bprog_in 4 _ (List.mem_of_getElem? (i := 130) rfl)) rfl
theorem bkM_X4_isZero : bchkM bmeth bmjs 1540 = true := by decide +kernel
theorem bkH_X4_isZero : bHead (bm_6 4) ∈ bw_G := bw_in (bprog_in 4 _ (List.mem_of_getElem? (i := 74) rfl)) rfl
theorem bkM_X4_limbAt : bchkM bmeth bmjs 1541 = true := by decide +kernel
theorem bkH_X4_limbAt : bHead (bm_6 5) ∈ bw_G := bw_in (bprog_in 4 _ (List.mem_of_getElem? (i := 90) rfl)) rfl
theorem bkM_X4_load : bchkM bmeth bmjs 1542 = true := by decide +kernel
theorem bkH_X4_load : bHead (bm_6 6) ∈ bw_G := bw_in (bprog_in 4 _ (List.mem_of_getElem? (i := 118) rfl)) rfl
theorem bkM_X4_minus : bchkM bmeth bmjs 1543 = true := by decide +kernel
theorem bkH_X4_minus : bHead (bm_6 7) ∈ bw_G := bw_in (bprog_in 4 _ (List.mem_of_getElem? (i := 78) rfl)) rfl
theorem bkM_X4_over : bchkM bmeth bmjs 1544 = true := by decide +kernel
theorem bkH_X4_over : bHead (bm_6 8) ∈ bw_G := bw_in (bprog_in 4 _ (List.mem_of_getElem? (i := 70) rfl)) rfl
theorem bkM_X4_plus : bchkM bmeth bmjs 1545 = true := by decide +kernel
theorem bkH_X4_plus : bHead (bm_6 9) ∈ bw_G := bw_in (bprog_in 4 _ (List.mem_of_getElem? (i := 82) rfl)) rfl
theorem bkM_X4_setLimb : bchkM bmeth bmjs 1546 = true := by decide +kernel
theorem bkH_X4_setLimb : bHead (bm_6 10) ∈ bw_G := bw_in (bprog_in 4 _ (List.mem_of_getElem? (i := 47) rfl)) rfl
theorem bkM_X4_toProduct : bchkM bmeth bmjs 1547 = true := by decide +kernel
theorem bkH_X4_toProduct : bHead (bm_6 11) ∈ bw_G := bw_in (bprog_in 4 _ (List.mem_of_getElem? (i := 65) rfl)) rfl
theorem bkMA_6 : ∀ k, k < 12 → (bmjs (1536 + k)).1 ≠ 0 → bchkM bmeth bmjs (1536 + k) = true ∧ bHead (bm_6 k) ∈ bw_G := by
  intro k hk h0
  match k, hk with
  | 0, _ => exact ⟨bkM_X4_init, bkH_X4_init⟩
  | 1, _ => exact ⟨bkM_X4_clear, bkH_X4_clear⟩
  | 2, _ => exact ⟨bkM_X4_copy, bkH_X4_copy⟩
  | 3, _ => exact ⟨bkM_X4_isBelow, bkH_X4_isBelow⟩
  | 4, _ => exact ⟨bkM_X4_isZero, bkH_X4_isZero⟩
  | 5, _ => exact ⟨bkM_X4_limbAt, bkH_X4_limbAt⟩
  | 6, _ => exact ⟨bkM_X4_load, bkH_X4_load⟩
  | 7, _ => exact ⟨bkM_X4_minus, bkH_X4_minus⟩
  | 8, _ => exact ⟨bkM_X4_over, bkH_X4_over⟩
  | 9, _ => exact ⟨bkM_X4_plus, bkH_X4_plus⟩
  | 10, _ => exact ⟨bkM_X4_setLimb, bkH_X4_setLimb⟩
  | 11, _ => exact ⟨bkM_X4_toProduct, bkH_X4_toProduct⟩
  | k + 12, h => omega
noncomputable def bm_7 (k : Nat) : bM := bmc_7.getD k bnoM
theorem bkD_X5_init : bchk3 (bm_7 0) bk_X5_init = true := by decide +kernel
theorem bkD_X5_actAt : bchk3 (bm_7 1) bk_X5_actAt = true := by decide +kernel
theorem bkD_X5_append : bchk3 (bm_7 2) bk_X5_append = true := by decide +kernel
theorem bkD_X5_closeAtom : bchk3 (bm_7 3) bk_X5_closeAtom = true := by decide +kernel
theorem bkD_X5_findStarts_0 : bchk3 (bm_7 4) bk_X5_findStarts_0 = true := by decide +kernel
theorem bkD_X5_findStarts_1 : bchk3 (bm_7 4) bk_X5_findStarts_1 = true := by decide +kernel
theorem bkD_X5_findStarts : bchk3 (bm_7 4) bk_X5_findStarts = true := bchk3_app bkD_X5_findStarts_0 (bkD_X5_findStarts_1)
theorem bkD_X5_hold : bchk3 (bm_7 5) bk_X5_hold = true := by decide +kernel
theorem bkD_X5_isAhead : bchk3 (bm_7 6) bk_X5_isAhead = true := by decide +kernel
theorem bkD_X5_isPair : bchk3 (bm_7 7) bk_X5_isPair = true := by decide +kernel
theorem bkD_X5_lastHeld : bchk3 (bm_7 8) bk_X5_lastHeld = true := by decide +kernel
theorem bkD_X5_leftOf : bchk3 (bm_7 9) bk_X5_leftOf = true := by decide +kernel
theorem bkD_X5_numberAt : bchk3 (bm_7 10) bk_X5_numberAt = true := by decide +kernel
theorem bkD_X5_parse_0 : bchk3 (bm_7 11) bk_X5_parse_0 = true := by decide +kernel
