/-! The checks, go on. -/
theorem bkM_X2_embrace : bchkM bmeth bmjs 1029 = true := by decide +kernel
theorem bkH_X2_embrace : bHead (bm_4 5) ∈ bw_G := bw_in (bprog_in 6 _ (List.mem_of_getElem? (i := 8) rfl)) rfl
theorem bkM_X2_holdsZero : bchkM bmeth bmjs 1030 = true := by decide +kernel
theorem bkH_X2_holdsZero : bHead (bm_4 6) ∈ bw_G := bw_in (bprog_in 3 _ (List.mem_of_getElem? (i := 196) rfl)) rfl
theorem bkM_X2_isSingle : bchkM bmeth bmjs 1031 = true := by decide +kernel
theorem bkH_X2_isSingle : bHead (bm_4 7) ∈ bw_G := bw_in (bprog_in 3 _ (List.mem_of_getElem? (i := 131) rfl)) rfl
theorem bkM_X2_isTooGreat : bchkM bmeth bmjs 1032 = true := by decide +kernel
theorem bkH_X2_isTooGreat : bHead (bm_4 8) ∈ bw_G := bw_in (bprog_in 3 _ (List.mem_of_getElem? (i := 78) rfl)) rfl
theorem bkM_X2_liesIn : bchkM bmeth bmjs 1033 = true := by decide +kernel
theorem bkH_X2_liesIn : bHead (bm_4 9) ∈ bw_G := bw_in (bprog_in 4 _ (List.mem_of_getElem? (i := 161) rfl)) rfl
theorem bkM_X2_roundOut : bchkM bmeth bmjs 1034 = true := by decide +kernel
theorem bkH_X2_roundOut : bHead (bm_4 10) ∈ bw_G := bw_in (bprog_in 3 _ (List.mem_of_getElem? (i := 110) rfl)) rfl
theorem bkM_X2_toMiddle : bchkM bmeth bmjs 1035 = true := by decide +kernel
theorem bkH_X2_toMiddle : bHead (bm_4 11) ∈ bw_G := bw_in (bprog_in 4 _ (List.mem_of_getElem? (i := 199) rfl)) rfl
theorem bkM_X2_turn : bchkM bmeth bmjs 1036 = true := by decide +kernel
theorem bkH_X2_turn : bHead (bm_4 12) ∈ bw_G := bw_in (bprog_in 3 _ (List.mem_of_getElem? (i := 206) rfl)) rfl
theorem bkMA_4 : ∀ k, k < 13 → (bmjs (1024 + k)).1 ≠ 0 → bchkM bmeth bmjs (1024 + k) = true ∧ bHead (bm_4 k) ∈ bw_G := by
  intro k hk h0
  match k, hk with
  | 0, _ => exact ⟨bkM_X2_init, bkH_X2_init⟩
  | 1, _ => exact ⟨bkM_X2_between, bkH_X2_between⟩
  | 2, _ => exact ⟨bkM_X2_copy, bkH_X2_copy⟩
  | 3, _ => exact ⟨bkM_X2_cutDownTo, bkH_X2_cutDownTo⟩
  | 4, _ => exact ⟨bkM_X2_dropSigns, bkH_X2_dropSigns⟩
  | 5, _ => exact ⟨bkM_X2_embrace, bkH_X2_embrace⟩
  | 6, _ => exact ⟨bkM_X2_holdsZero, bkH_X2_holdsZero⟩
  | 7, _ => exact ⟨bkM_X2_isSingle, bkH_X2_isSingle⟩
  | 8, _ => exact ⟨bkM_X2_isTooGreat, bkH_X2_isTooGreat⟩
  | 9, _ => exact ⟨bkM_X2_liesIn, bkH_X2_liesIn⟩
  | 10, _ => exact ⟨bkM_X2_roundOut, bkH_X2_roundOut⟩
  | 11, _ => exact ⟨bkM_X2_toMiddle, bkH_X2_toMiddle⟩
  | 12, _ => exact ⟨bkM_X2_turn, bkH_X2_turn⟩
  | k + 13, h => omega
noncomputable def bm_5 (k : Nat) : bM := bmc_5.getD k bnoM
theorem bkD_X3_init_0 : bchk3 (bm_5 0) bk_X3_init_0 = true := by decide +kernel
theorem bkD_X3_init_1 : bchk3 (bm_5 0) bk_X3_init_1 = true := by decide +kernel
theorem bkD_X3_init : bchk3 (bm_5 0) bk_X3_init = true := bchk3_app bkD_X3_init_0 (bkD_X3_init_1)
theorem bkD_X3_arc_0 : bchk3 (bm_5 1) bk_X3_arc_0 = true := by decide +kernel
theorem bkD_X3_arc_1 : bchk3 (bm_5 1) bk_X3_arc_1 = true := by decide +kernel
theorem bkD_X3_arc_2 : bchk3 (bm_5 1) bk_X3_arc_2 = true := by decide +kernel
theorem bkD_X3_arc : bchk3 (bm_5 1) bk_X3_arc = true := bchk3_app bkD_X3_arc_0 (bchk3_app bkD_X3_arc_1 (bkD_X3_arc_2))
theorem bkD_X3_begin : bchk3 (bm_5 2) bk_X3_begin = true := by decide +kernel
theorem bkD_X3_exponential_0 : bchk3 (bm_5 3) bk_X3_exponential_0 = true := by decide +kernel
theorem bkD_X3_exponential_1 : bchk3 (bm_5 3) bk_X3_exponential_1 = true := by decide +kernel
theorem bkD_X3_exponential : bchk3 (bm_5 3) bk_X3_exponential = true := bchk3_app bkD_X3_exponential_0 (bkD_X3_exponential_1)
theorem bkD_X3_logarithm_0 : bchk3 (bm_5 4) bk_X3_logarithm_0 = true := by decide +kernel
theorem bkD_X3_logarithm_1 : bchk3 (bm_5 4) bk_X3_logarithm_1 = true := by decide +kernel
theorem bkD_X3_logarithm_2 : bchk3 (bm_5 4) bk_X3_logarithm_2 = true := by decide +kernel
theorem bkD_X3_logarithm : bchk3 (bm_5 4) bk_X3_logarithm = true := bchk3_app bkD_X3_logarithm_0 (bchk3_app bkD_X3_logarithm_1 (bkD_X3_logarithm_2))
theorem bkD_X3_nearestEighth : bchk3 (bm_5 5) bk_X3_nearestEighth = true := by decide +kernel
theorem bkD_X3_settle : bchk3 (bm_5 6) bk_X3_settle = true := by decide +kernel
theorem bkD_X3_shiftToEighth_0 : bchk3 (bm_5 7) bk_X3_shiftToEighth_0 = true := by decide +kernel
theorem bkD_X3_shiftToEighth_1 : bchk3 (bm_5 7) bk_X3_shiftToEighth_1 = true := by decide +kernel
theorem bkD_X3_shiftToEighth : bchk3 (bm_5 7) bk_X3_shiftToEighth = true := bchk3_app bkD_X3_shiftToEighth_0 (bkD_X3_shiftToEighth_1)
theorem bkD_X3_sumOddPowers_0 : bchk3 (bm_5 8) bk_X3_sumOddPowers_0 = true := by decide +kernel
theorem bkD_X3_sumOddPowers_1 : bchk3 (bm_5 8) bk_X3_sumOddPowers_1 = true := by decide +kernel
theorem bkD_X3_sumOddPowers : bchk3 (bm_5 8) bk_X3_sumOddPowers = true := bchk3_app bkD_X3_sumOddPowers_0 (bkD_X3_sumOddPowers_1)
theorem bkD_X3_sumPowers_0 : bchk3 (bm_5 9) bk_X3_sumPowers_0 = true := by decide +kernel
theorem bkD_X3_sumPowers_1 : bchk3 (bm_5 9) bk_X3_sumPowers_1 = true := by decide +kernel
theorem bkD_X3_sumPowers : bchk3 (bm_5 9) bk_X3_sumPowers = true := bchk3_app bkD_X3_sumPowers_0 (bkD_X3_sumPowers_1)
theorem bkD_X3_tell : bchk3 (bm_5 10) bk_X3_tell = true := by decide +kernel
theorem bkA_5 : bAllOk (fun y l => bchk3 y l = true) bkc_5 bmc_5 := ⟨bkD_X3_init, bkD_X3_arc, bkD_X3_begin, bkD_X3_exponential, bkD_X3_logarithm, bkD_X3_nearestEighth, bkD_X3_settle, bkD_X3_shiftToEighth, bkD_X3_sumOddPowers, bkD_X3_sumPowers, bkD_X3_tell, trivial⟩
theorem bkM_X3_init : bchkM bmeth bmjs 1280 = true := by decide +kernel
theorem bkH_X3_init : bHead (bm_5 0) ∈ bw_G := bw_in (bprog_in 1 _ (List.mem_of_getElem? (i := 191) rfl)) rfl
theorem bkM_X3_arc : bchkM bmeth bmjs 1281 = true := by decide +kernel
theorem bkH_X3_arc : bHead (bm_5 1) ∈ bw_G := bw_in (bprog_in 4 _ (List.mem_of_getElem? (i := 134) rfl)) rfl
theorem bkM_X3_begin : bchkM bmeth bmjs 1282 = true := by decide +kernel
theorem bkH_X3_begin : bHead (bm_5 2) ∈ bw_G := bw_in (bprog_in 4 _ (List.mem_of_getElem? (i := 39) rfl)) rfl
theorem bkM_X3_exponential : bchkM bmeth bmjs 1283 = true := by decide +kernel
theorem bkH_X3_exponential : bHead (bm_5 3) ∈ bw_G := bw_in (bprog_in 4 _ (List.mem_of_getElem? (i := 31) rfl)) rfl
theorem bkM_X3_logarithm : bchkM bmeth bmjs 1284 = true := by decide +kernel
theorem bkH_X3_logarithm : bHead (bm_5 4) ∈ bw_G := bw_in (bprog_in 4 _ (List.mem_of_getElem? (i := 98) rfl)) rfl
theorem bkM_X3_nearestEighth : bchkM bmeth bmjs 1285 = true := by decide +kernel
theorem bkH_X3_nearestEighth : bHead (bm_5 5) ∈ bw_G := bw_in (bprog_in 4 _ (List.mem_of_getElem? (i := 140) rfl)) rfl
theorem bkM_X3_settle : bchkM bmeth bmjs 1286 = true := by decide +kernel
theorem bkH_X3_settle : bHead (bm_5 6) ∈ bw_G := bw_in (bprog_in 4 _ (List.mem_of_getElem? (i := 126) rfl)) rfl
theorem bkM_X3_shiftToEighth : bchkM bmeth bmjs 1287 = true := by decide +kernel
theorem bkH_X3_shiftToEighth : bHead (bm_5 7) ∈ bw_G := bw_in (bprog_in 4 _ (List.mem_of_getElem? (i := 149) rfl)) rfl
theorem bkM_X3_sumOddPowers : bchkM bmeth bmjs 1288 = true := by decide +kernel
theorem bkH_X3_sumOddPowers : bHead (bm_5 8) ∈ bw_G := bw_in (bprog_in 4 _ (List.mem_of_getElem? (i := 110) rfl)) rfl
