/-! The checks, go on. -/
theorem bkD_X2_copy : bchk3 (bm_4 2) bk_X2_copy = true := by decide +kernel
theorem bkD_X2_cutDownTo : bchk3 (bm_4 3) bk_X2_cutDownTo = true := by decide +kernel
theorem bkD_X2_dropSigns : bchk3 (bm_4 4) bk_X2_dropSigns = true := by decide +kernel
theorem bkD_X2_embrace : bchk3 (bm_4 5) bk_X2_embrace = true := by decide +kernel
theorem bkD_X2_holdsZero : bchk3 (bm_4 6) bk_X2_holdsZero = true := by decide +kernel
theorem bkD_X2_isSingle : bchk3 (bm_4 7) bk_X2_isSingle = true := by decide +kernel
theorem bkD_X2_isTooGreat : bchk3 (bm_4 8) bk_X2_isTooGreat = true := by decide +kernel
theorem bkD_X2_liesIn : bchk3 (bm_4 9) bk_X2_liesIn = true := by decide +kernel
theorem bkD_X2_roundOut : bchk3 (bm_4 10) bk_X2_roundOut = true := by decide +kernel
theorem bkD_X2_toMiddle : bchk3 (bm_4 11) bk_X2_toMiddle = true := by decide +kernel
theorem bkD_X2_turn : bchk3 (bm_4 12) bk_X2_turn = true := by decide +kernel
theorem bkA_4 : bAllOk (fun y l => bchk3 y l = true) bkc_4 bmc_4 := ⟨bkD_X2_init, bkD_X2_between, bkD_X2_copy, bkD_X2_cutDownTo, bkD_X2_dropSigns, bkD_X2_embrace, bkD_X2_holdsZero, bkD_X2_isSingle, bkD_X2_isTooGreat, bkD_X2_liesIn, bkD_X2_roundOut, bkD_X2_toMiddle, bkD_X2_turn, trivial⟩
theorem bkM_X2_init : bchkM bmeth bmjs 1024 = true := by decide +kernel
theorem bkH_X2_init : bHead (bm_4 0) ∈ bw_G := bw_in (bprog_in 1 _ (List.mem_of_getElem? (i := 66) rfl)) rfl
theorem bkM_X2_copy : bchkM bmeth bmjs 1026 = true := by decide +kernel
theorem bkH_X2_copy : bHead (bm_4 2) ∈ bw_G := bw_in (bprog_in 3 _ (List.mem_of_getElem? (i := 97) rfl)) rfl
theorem bkM_X2_isSingle : bchkM bmeth bmjs 1031 = true := by decide +kernel
theorem bkH_X2_isSingle : bHead (bm_4 7) ∈ bw_G := bw_in (bprog_in 3 _ (List.mem_of_getElem? (i := 131) rfl)) rfl
theorem bkM_X2_isTooGreat : bchkM bmeth bmjs 1032 = true := by decide +kernel
theorem bkH_X2_isTooGreat : bHead (bm_4 8) ∈ bw_G := bw_in (bprog_in 3 _ (List.mem_of_getElem? (i := 78) rfl)) rfl
theorem bkM_X2_liesIn : bchkM bmeth bmjs 1033 = true := by decide +kernel
theorem bkH_X2_liesIn : bHead (bm_4 9) ∈ bw_G := bw_in (bprog_in 4 _ (List.mem_of_getElem? (i := 161) rfl)) rfl
theorem bkMA_4 : ∀ k, k < 13 → (bmjs (1024 + k)).1 ≠ 0 → bchkM bmeth bmjs (1024 + k) = true ∧ bHead (bm_4 k) ∈ bw_G := by
  intro k hk h0
  match k, hk with
  | 0, _ => exact ⟨bkM_X2_init, bkH_X2_init⟩
  | 1, _ => exact absurd (by decide +kernel) h0
  | 2, _ => exact ⟨bkM_X2_copy, bkH_X2_copy⟩
  | 3, _ => exact absurd (by decide +kernel) h0
  | 4, _ => exact absurd (by decide +kernel) h0
  | 5, _ => exact absurd (by decide +kernel) h0
  | 6, _ => exact absurd (by decide +kernel) h0
  | 7, _ => exact ⟨bkM_X2_isSingle, bkH_X2_isSingle⟩
  | 8, _ => exact ⟨bkM_X2_isTooGreat, bkH_X2_isTooGreat⟩
  | 9, _ => exact ⟨bkM_X2_liesIn, bkH_X2_liesIn⟩
  | 10, _ => exact absurd (by decide +kernel) h0
  | 11, _ => exact absurd (by decide +kernel) h0
  | 12, _ => exact absurd (by decide +kernel) h0
  | k + 13, h => omega
noncomputable def bm_5 (k : Nat) : bM := bmc_5.getD k bnoM
theorem bkD_X3_init_0 : bchk3 (bm_5 0) bk_X3_init_0 = true := by decide +kernel
theorem bkD_X3_init_1 : bchk3 (bm_5 0) bk_X3_init_1 = true := by decide +kernel
theorem bkD_X3_init : bchk3 (bm_5 0) bk_X3_init = true := bchk3_app bkD_X3_init_0 (bkD_X3_init_1)
theorem bkD_X3_arc : bchk3 (bm_5 1) bk_X3_arc = true := by decide +kernel
theorem bkD_X3_begin : bchk3 (bm_5 2) bk_X3_begin = true := by decide +kernel
theorem bkD_X3_exponential : bchk3 (bm_5 3) bk_X3_exponential = true := by decide +kernel
theorem bkD_X3_logarithm : bchk3 (bm_5 4) bk_X3_logarithm = true := by decide +kernel
theorem bkD_X3_nearestEighth : bchk3 (bm_5 5) bk_X3_nearestEighth = true := by decide +kernel
theorem bkD_X3_settle : bchk3 (bm_5 6) bk_X3_settle = true := by decide +kernel
theorem bkD_X3_shiftToEighth : bchk3 (bm_5 7) bk_X3_shiftToEighth = true := by decide +kernel
theorem bkD_X3_sumOddPowers : bchk3 (bm_5 8) bk_X3_sumOddPowers = true := by decide +kernel
theorem bkD_X3_sumPowers : bchk3 (bm_5 9) bk_X3_sumPowers = true := by decide +kernel
theorem bkD_X3_tell : bchk3 (bm_5 10) bk_X3_tell = true := by decide +kernel
theorem bkA_5 : bAllOk (fun y l => bchk3 y l = true) bkc_5 bmc_5 := ⟨bkD_X3_init, bkD_X3_arc, bkD_X3_begin, bkD_X3_exponential, bkD_X3_logarithm, bkD_X3_nearestEighth, bkD_X3_settle, bkD_X3_shiftToEighth, bkD_X3_sumOddPowers, bkD_X3_sumPowers, bkD_X3_tell, trivial⟩
theorem bkM_X3_init : bchkM bmeth bmjs 1280 = true := by decide +kernel
theorem bkH_X3_init : bHead (bm_5 0) ∈ bw_G := bw_in (bprog_in 1 _ (List.mem_of_getElem? (i := 191) rfl)) rfl
theorem bkMA_5 : ∀ k, k < 11 → (bmjs (1280 + k)).1 ≠ 0 → bchkM bmeth bmjs (1280 + k) = true ∧ bHead (bm_5 k) ∈ bw_G := by
  intro k hk h0
  match k, hk with
  | 0, _ => exact ⟨bkM_X3_init, bkH_X3_init⟩
  | 1, _ => exact absurd (by decide +kernel) h0
  | 2, _ => exact absurd (by decide +kernel) h0
  | 3, _ => exact absurd (by decide +kernel) h0
  | 4, _ => exact absurd (by decide +kernel) h0
  | 5, _ => exact absurd (by decide +kernel) h0
  | 6, _ => exact absurd (by decide +kernel) h0
  | 7, _ => exact absurd (by decide +kernel) h0
  | 8, _ => exact absurd (by decide +kernel) h0
  | 9, _ => exact absurd (by decide +kernel) h0
  | 10, _ => exact absurd (by decide +kernel) h0
  | k + 11, h => omega
noncomputable def bm_6 (k : Nat) : bM := bmc_6.getD k bnoM
theorem bkD_X4_init : bchk3 (bm_6 0) bk_X4_init = true := by decide +kernel
theorem bkD_X4_clear : bchk3 (bm_6 1) bk_X4_clear = true := by decide +kernel
theorem bkD_X4_copy : bchk3 (bm_6 2) bk_X4_copy = true := by decide +kernel
theorem bkD_X4_isBelow : bchk3 (bm_6 3) bk_X4_isBelow = true := by decide +kernel
theorem bkD_X4_isZero : bchk3 (bm_6 4) bk_X4_isZero = true := by decide +kernel
theorem bkD_X4_limbAt : bchk3 (bm_6 5) bk_X4_limbAt = true := by decide +kernel
theorem bkD_X4_load : bchk3 (bm_6 6) bk_X4_load = true := by decide +kernel
theorem bkD_X4_minus : bchk3 (bm_6 7) bk_X4_minus = true := by decide +kernel
theorem bkD_X4_over : bchk3 (bm_6 8) bk_X4_over = true := by decide +kernel
theorem bkD_X4_plus : bchk3 (bm_6 9) bk_X4_plus = true := by decide +kernel
theorem bkD_X4_setLimb : bchk3 (bm_6 10) bk_X4_setLimb = true := by decide +kernel
theorem bkD_X4_toProduct : bchk3 (bm_6 11) bk_X4_toProduct = true := by decide +kernel
theorem bkA_6 : bAllOk (fun y l => bchk3 y l = true) bkc_6 bmc_6 := ⟨bkD_X4_init, bkD_X4_clear, bkD_X4_copy, bkD_X4_isBelow, bkD_X4_isZero, bkD_X4_limbAt, bkD_X4_load, bkD_X4_minus, bkD_X4_over, bkD_X4_plus, bkD_X4_setLimb, bkD_X4_toProduct, trivial⟩
theorem bkM_X4_init : bchkM bmeth bmjs 1536 = true := by decide +kernel
theorem bkH_X4_init : bHead (bm_6 0) ∈ bw_G := bw_in (bprog_in 1 _ (List.mem_of_getElem? (i := 197) rfl)) rfl
theorem bkMA_6 : ∀ k, k < 12 → (bmjs (1536 + k)).1 ≠ 0 → bchkM bmeth bmjs (1536 + k) = true ∧ bHead (bm_6 k) ∈ bw_G := by
  intro k hk h0
  match k, hk with
  | 0, _ => exact ⟨bkM_X4_init, bkH_X4_init⟩
  | 1, _ => exact absurd (by decide +kernel) h0
  | 2, _ => exact absurd (by decide +kernel) h0
  | 3, _ => exact absurd (by decide +kernel) h0
  | 4, _ => exact absurd (by decide +kernel) h0
  | 5, _ => exact absurd (by decide +kernel) h0
  | 6, _ => exact absurd (by decide +kernel) h0
  | 7, _ => exact absurd (by decide +kernel) h0
  | 8, _ => exact absurd (by decide +kernel) h0
  | 9, _ => exact absurd (by decide +kernel) h0
  | 10, _ => exact absurd (by decide +kernel) h0
  | 11, _ => exact absurd (by decide +kernel) h0
  | k + 12, h => omega
noncomputable def bm_7 (k : Nat) : bM := bmc_7.getD k bnoM
theorem bkD_X5_init : bchk3 (bm_7 0) bk_X5_init = true := by decide +kernel
theorem bkD_X5_actAt : bchk3 (bm_7 1) bk_X5_actAt = true := by decide +kernel
theorem bkD_X5_append : bchk3 (bm_7 2) bk_X5_append = true := by decide +kernel
