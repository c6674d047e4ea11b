/-! The checks, go on. -/
theorem bkD_X5_parse_1 : bchk3 (bm_7 11) bk_X5_parse_1 = true := by decide +kernel
theorem bkD_X5_parse : bchk3 (bm_7 11) bk_X5_parse = true := bchk3_app bkD_X5_parse_0 (bkD_X5_parse_1)
theorem bkD_X5_release : bchk3 (bm_7 12) bk_X5_release = true := by decide +kernel
theorem bkD_X5_releaseProducts : bchk3 (bm_7 13) bk_X5_releaseProducts = true := by decide +kernel
theorem bkD_X5_releaseSums : bchk3 (bm_7 14) bk_X5_releaseSums = true := by decide +kernel
theorem bkD_X5_scaleAt : bchk3 (bm_7 15) bk_X5_scaleAt = true := by decide +kernel
theorem bkD_X5_startOf : bchk3 (bm_7 16) bk_X5_startOf = true := by decide +kernel
theorem bkD_X5_takesAct : bchk3 (bm_7 17) bk_X5_takesAct = true := by decide +kernel
theorem bkD_X5_takesAtom_0 : bchk3 (bm_7 18) bk_X5_takesAtom_0 = true := by decide +kernel
theorem bkD_X5_takesAtom_1 : bchk3 (bm_7 18) bk_X5_takesAtom_1 = true := by decide +kernel
theorem bkD_X5_takesAtom : bchk3 (bm_7 18) bk_X5_takesAtom = true := bchk3_app bkD_X5_takesAtom_0 (bkD_X5_takesAtom_1)
theorem bkD_X5_takesClosing : bchk3 (bm_7 19) bk_X5_takesClosing = true := by decide +kernel
theorem bkD_X5_takesExponent : bchk3 (bm_7 20) bk_X5_takesExponent = true := by decide +kernel
theorem bkD_X5_takesNumber_0 : bchk3 (bm_7 21) bk_X5_takesNumber_0 = true := by decide +kernel
theorem bkD_X5_takesNumber_1 : bchk3 (bm_7 21) bk_X5_takesNumber_1 = true := by decide +kernel
theorem bkD_X5_takesNumber : bchk3 (bm_7 21) bk_X5_takesNumber = true := bchk3_app bkD_X5_takesNumber_0 (bkD_X5_takesNumber_1)
theorem bkD_X5_within : bchk3 (bm_7 22) bk_X5_within = true := by decide +kernel
theorem bkA_7 : bAllOk (fun y l => bchk3 y l = true) bkc_7 bmc_7 := ⟨bkD_X5_init, bkD_X5_actAt, bkD_X5_append, bkD_X5_closeAtom, bkD_X5_findStarts, bkD_X5_hold, bkD_X5_isAhead, bkD_X5_isPair, bkD_X5_lastHeld, bkD_X5_leftOf, bkD_X5_numberAt, bkD_X5_parse, bkD_X5_release, bkD_X5_releaseProducts, bkD_X5_releaseSums, bkD_X5_scaleAt, bkD_X5_startOf, bkD_X5_takesAct, bkD_X5_takesAtom, bkD_X5_takesClosing, bkD_X5_takesExponent, bkD_X5_takesNumber, bkD_X5_within, trivial⟩
theorem bkM_X5_init : bchkM bmeth bmjs 1792 = true := by decide +kernel
theorem bkH_X5_init : bHead (bm_7 0) ∈ bw_G := bw_in (bprog_in 2 _ (List.mem_of_getElem? (i := 75) rfl)) rfl
theorem bkM_X5_actAt : bchkM bmeth bmjs 1793 = true := by decide +kernel
theorem bkH_X5_actAt : bHead (bm_7 1) ∈ bw_G := bw_in (bprog_in 4 _ (List.mem_of_getElem? (i := 178) rfl)) rfl
theorem bkM_X5_append : bchkM bmeth bmjs 1794 = true := by decide +kernel
theorem bkH_X5_append : bHead (bm_7 2) ∈ bw_G := bw_in (bprog_in 6 _ (List.mem_of_getElem? (i := 192) rfl)) rfl
theorem bkM_X5_closeAtom : bchkM bmeth bmjs 1795 = true := by decide +kernel
theorem bkH_X5_closeAtom : bHead (bm_7 3) ∈ bw_G := bw_in (bprog_in 6 _ (List.mem_of_getElem? (i := 196) rfl)) rfl
theorem bkM_X5_findStarts : bchkM bmeth bmjs 1796 = true := by decide +kernel
theorem bkH_X5_findStarts : bHead (bm_7 4) ∈ bw_G := bw_in (bprog_in 6 _ (List.mem_of_getElem? (i := 236) rfl)) rfl
theorem bkM_X5_hold : bchkM bmeth bmjs 1797 = true := by decide +kernel
theorem bkH_X5_hold : bHead (bm_7 5) ∈ bw_G := bw_in (bprog_in 6 _ (List.mem_of_getElem? (i := 211) rfl)) rfl
theorem bkM_X5_isAhead : bchkM bmeth bmjs 1798 = true := by decide +kernel
theorem bkH_X5_isAhead : bHead (bm_7 6) ∈ bw_G := bw_in (bprog_in 6 _ (List.mem_of_getElem? (i := 203) rfl)) rfl
theorem bkM_X5_isPair : bchkM bmeth bmjs 1799 = true := by decide +kernel
theorem bkH_X5_isPair : bHead (bm_7 7) ∈ bw_G := bw_in (bprog_in 3 _ (List.mem_of_getElem? (i := 30) rfl)) rfl
theorem bkM_X5_lastHeld : bchkM bmeth bmjs 1800 = true := by decide +kernel
theorem bkH_X5_lastHeld : bHead (bm_7 8) ∈ bw_G := bw_in (bprog_in 6 _ (List.mem_of_getElem? (i := 200) rfl)) rfl
theorem bkM_X5_leftOf : bchkM bmeth bmjs 1801 = true := by decide +kernel
theorem bkH_X5_leftOf : bHead (bm_7 9) ∈ bw_G := bw_in (bprog_in 7 _ (List.mem_of_getElem? (i := 110) rfl)) rfl
theorem bkM_X5_numberAt : bchkM bmeth bmjs 1802 = true := by decide +kernel
theorem bkH_X5_numberAt : bHead (bm_7 10) ∈ bw_G := bw_in (bprog_in 4 _ (List.mem_of_getElem? (i := 186) rfl)) rfl
theorem bkM_X5_parse : bchkM bmeth bmjs 1803 = true := by decide +kernel
theorem bkH_X5_parse : bHead (bm_7 11) ∈ bw_G := bw_in (bprog_in 6 _ (List.mem_of_getElem? (i := 177) rfl)) rfl
theorem bkM_X5_release : bchkM bmeth bmjs 1804 = true := by decide +kernel
theorem bkH_X5_release : bHead (bm_7 12) ∈ bw_G := bw_in (bprog_in 6 _ (List.mem_of_getElem? (i := 207) rfl)) rfl
theorem bkM_X5_releaseProducts : bchkM bmeth bmjs 1805 = true := by decide +kernel
theorem bkH_X5_releaseProducts : bHead (bm_7 13) ∈ bw_G := bw_in (bprog_in 6 _ (List.mem_of_getElem? (i := 227) rfl)) rfl
theorem bkM_X5_releaseSums : bchkM bmeth bmjs 1806 = true := by decide +kernel
theorem bkH_X5_releaseSums : bHead (bm_7 14) ∈ bw_G := bw_in (bprog_in 6 _ (List.mem_of_getElem? (i := 231) rfl)) rfl
theorem bkM_X5_scaleAt : bchkM bmeth bmjs 1807 = true := by decide +kernel
theorem bkH_X5_scaleAt : bHead (bm_7 15) ∈ bw_G := bw_in (bprog_in 4 _ (List.mem_of_getElem? (i := 190) rfl)) rfl
theorem bkM_X5_startOf : bchkM bmeth bmjs 1808 = true := by decide +kernel
theorem bkH_X5_startOf : bHead (bm_7 16) ∈ bw_G := bw_in (bprog_in 7 _ (List.mem_of_getElem? (i := 0) rfl)) rfl
theorem bkM_X5_takesAct : bchkM bmeth bmjs 1809 = true := by decide +kernel
theorem bkH_X5_takesAct : bHead (bm_7 17) ∈ bw_G := bw_in (bprog_in 6 _ (List.mem_of_getElem? (i := 215) rfl)) rfl
theorem bkM_X5_takesAtom : bchkM bmeth bmjs 1810 = true := by decide +kernel
theorem bkH_X5_takesAtom : bHead (bm_7 18) ∈ bw_G := bw_in (bprog_in 6 _ (List.mem_of_getElem? (i := 181) rfl)) rfl
theorem bkM_X5_takesClosing : bchkM bmeth bmjs 1811 = true := by decide +kernel
theorem bkH_X5_takesClosing : bHead (bm_7 19) ∈ bw_G := bw_in (bprog_in 6 _ (List.mem_of_getElem? (i := 223) rfl)) rfl
theorem bkM_X5_takesExponent : bchkM bmeth bmjs 1812 = true := by decide +kernel
theorem bkH_X5_takesExponent : bHead (bm_7 20) ∈ bw_G := bw_in (bprog_in 6 _ (List.mem_of_getElem? (i := 219) rfl)) rfl
theorem bkM_X5_takesNumber : bchkM bmeth bmjs 1813 = true := by decide +kernel
theorem bkH_X5_takesNumber : bHead (bm_7 21) ∈ bw_G := bw_in (bprog_in 6 _ (List.mem_of_getElem? (i := 186) rfl)) rfl
theorem bkM_X5_within : bchkM bmeth bmjs 1814 = true := by decide +kernel
theorem bkH_X5_within : bHead (bm_7 22) ∈ bw_G := bw_in (bprog_in 4 _ (List.mem_of_getElem? (i := 182) rfl)) rfl
theorem bkMA_7 : ∀ k, k < 23 → (bmjs (1792 + k)).1 ≠ 0 → bchkM bmeth bmjs (1792 + k) = true ∧ bHead (bm_7 k) ∈ bw_G := by
  intro k hk h0
  match k, hk with
  | 0, _ => exact ⟨bkM_X5_init, bkH_X5_init⟩
  | 1, _ => exact ⟨bkM_X5_actAt, bkH_X5_actAt⟩
  | 2, _ => exact ⟨bkM_X5_append, bkH_X5_append⟩
  | 3, _ => exact ⟨bkM_X5_closeAtom, bkH_X5_closeAtom⟩
  | 4, _ => exact ⟨bkM_X5_findStarts, bkH_X5_findStarts⟩
  | 5, _ => exact ⟨bkM_X5_hold, bkH_X5_hold⟩
  | 6, _ => exact ⟨bkM_X5_isAhead, bkH_X5_isAhead⟩
  | 7, _ => exact ⟨bkM_X5_isPair, bkH_X5_isPair⟩
  | 8, _ => exact ⟨bkM_X5_lastHeld, bkH_X5_lastHeld⟩
  | 9, _ => exact ⟨bkM_X5_leftOf, bkH_X5_leftOf⟩
  | 10, _ => exact ⟨bkM_X5_numberAt, bkH_X5_numberAt⟩
  | 11, _ => exact ⟨bkM_X5_parse, bkH_X5_parse⟩
  | 12, _ => exact ⟨bkM_X5_release, bkH_X5_release⟩
  | 13, _ => exact ⟨bkM_X5_releaseProducts, bkH_X5_releaseProducts⟩
  | 14, _ => exact ⟨bkM_X5_releaseSums, bkH_X5_releaseSums⟩
  | 15, _ => exact ⟨bkM_X5_scaleAt, bkH_X5_scaleAt⟩
  | 16, _ => exact ⟨bkM_X5_startOf, bkH_X5_startOf⟩
  | 17, _ => exact ⟨bkM_X5_takesAct, bkH_X5_takesAct⟩
  | 18, _ => exact ⟨bkM_X5_takesAtom, bkH_X5_takesAtom⟩
  | 19, _ => exact ⟨bkM_X5_takesClosing, bkH_X5_takesClosing⟩
  | 20, _ => exact ⟨bkM_X5_takesExponent, bkH_X5_takesExponent⟩
  | 21, _ => exact ⟨bkM_X5_takesNumber, bkH_X5_takesNumber⟩
  | 22, _ => exact ⟨bkM_X5_within, bkH_X5_within⟩
  | k + 23, h => omega
noncomputable def bm_8 (k : Nat) : bM := bmc_8.getD k bnoM
theorem bkD_X6_init_0 : bchk3 (bm_8 0) bk_X6_init_0 = true := by decide +kernel
theorem bkD_X6_init_1 : bchk3 (bm_8 0) bk_X6_init_1 = true := by decide +kernel
