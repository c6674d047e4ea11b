/-! The checks, go on. -/
theorem bkD_X9_holds : bchk3 (bm_11 3) bk_X9_holds = true := by decide +kernel
theorem bkD_X9_isShelf : bchk3 (bm_11 4) bk_X9_isShelf = true := by decide +kernel
theorem bkD_X9_takeBack : bchk3 (bm_11 5) bk_X9_takeBack = true := by decide +kernel
theorem bkA_11 : bAllOk (fun y l => bchk3 y l = true) bkc_11 bmc_11 := ⟨bkD_X9_init, bkD_X9_box, bkD_X9_fill, bkD_X9_holds, bkD_X9_isShelf, bkD_X9_takeBack, trivial⟩
theorem bkM_X9_init : bchkM bmeth bmjs 2816 = true := by decide +kernel
theorem bkH_X9_init : bHead (bm_11 0) ∈ bw_G := bw_in (bprog_in 1 _ (List.mem_of_getElem? (i := 59) rfl)) rfl
theorem bkM_X9_box : bchkM bmeth bmjs 2817 = true := by decide +kernel
theorem bkH_X9_box : bHead (bm_11 1) ∈ bw_G := bw_in (bprog_in 2 _ (List.mem_of_getElem? (i := 228) rfl)) rfl
theorem bkM_X9_fill : bchkM bmeth bmjs 2818 = true := by decide +kernel
theorem bkH_X9_fill : bHead (bm_11 2) ∈ bw_G := bw_in (bprog_in 5 _ (List.mem_of_getElem? (i := 166) rfl)) rfl
theorem bkM_X9_holds : bchkM bmeth bmjs 2819 = true := by decide +kernel
theorem bkH_X9_holds : bHead (bm_11 3) ∈ bw_G := bw_in (bprog_in 2 _ (List.mem_of_getElem? (i := 215) rfl)) rfl
theorem bkM_X9_isShelf : bchkM bmeth bmjs 2820 = true := by decide +kernel
theorem bkH_X9_isShelf : bHead (bm_11 4) ∈ bw_G := bw_in (bprog_in 2 _ (List.mem_of_getElem? (i := 219) rfl)) rfl
theorem bkM_X9_takeBack : bchkM bmeth bmjs 2821 = true := by decide +kernel
theorem bkH_X9_takeBack : bHead (bm_11 5) ∈ bw_G := bw_in (bprog_in 6 _ (List.mem_of_getElem? (i := 83) rfl)) rfl
theorem bkMA_11 : ∀ k, k < 6 → (bmjs (2816 + k)).1 ≠ 0 → bchkM bmeth bmjs (2816 + k) = true ∧ bHead (bm_11 k) ∈ bw_G := by
  intro k hk h0
  match k, hk with
  | 0, _ => exact ⟨bkM_X9_init, bkH_X9_init⟩
  | 1, _ => exact ⟨bkM_X9_box, bkH_X9_box⟩
  | 2, _ => exact ⟨bkM_X9_fill, bkH_X9_fill⟩
  | 3, _ => exact ⟨bkM_X9_holds, bkH_X9_holds⟩
  | 4, _ => exact ⟨bkM_X9_isShelf, bkH_X9_isShelf⟩
  | 5, _ => exact ⟨bkM_X9_takeBack, bkH_X9_takeBack⟩
  | k + 6, h => omega
noncomputable def bm_12 (k : Nat) : bM := bmc_12.getD k bnoM
theorem bkD_X10_init : bchk3 (bm_12 0) bk_X10_init = true := by decide +kernel
theorem bkD_X10_addedTo : bchk3 (bm_12 1) bk_X10_addedTo = true := by decide +kernel
theorem bkD_X10_append : bchk3 (bm_12 2) bk_X10_append = true := by decide +kernel
theorem bkD_X10_at : bchk3 (bm_12 3) bk_X10_at = true := by decide +kernel
theorem bkD_X10_clear : bchk3 (bm_12 4) bk_X10_clear = true := by decide +kernel
theorem bkD_X10_isDigitAt : bchk3 (bm_12 5) bk_X10_isDigitAt = true := by decide +kernel
theorem bkD_X10_isNumber_0 : bchk3 (bm_12 6) bk_X10_isNumber_0 = true := by decide +kernel
theorem bkD_X10_isNumber_1 : bchk3 (bm_12 6) bk_X10_isNumber_1 = true := by decide +kernel
theorem bkD_X10_isNumber : bchk3 (bm_12 6) bk_X10_isNumber = true := bchk3_app bkD_X10_isNumber_0 (bkD_X10_isNumber_1)
theorem bkD_X10_write_0 : bchk3 (bm_12 7) bk_X10_write_0 = true := by decide +kernel
theorem bkD_X10_write_1 : bchk3 (bm_12 7) bk_X10_write_1 = true := by decide +kernel
theorem bkD_X10_write_2 : bchk3 (bm_12 7) bk_X10_write_2 = true := by decide +kernel
theorem bkD_X10_write : bchk3 (bm_12 7) bk_X10_write = true := bchk3_app bkD_X10_write_0 (bchk3_app bkD_X10_write_1 (bkD_X10_write_2))
theorem bkA_12 : bAllOk (fun y l => bchk3 y l = true) bkc_12 bmc_12 := ⟨bkD_X10_init, bkD_X10_addedTo, bkD_X10_append, bkD_X10_at, bkD_X10_clear, bkD_X10_isDigitAt, bkD_X10_isNumber, bkD_X10_write, trivial⟩
theorem bkM_X10_init : bchkM bmeth bmjs 3072 = true := by decide +kernel
theorem bkH_X10_init : bHead (bm_12 0) ∈ bw_G := bw_in (bprog_in 1 _ (List.mem_of_getElem? (i := 42) rfl)) rfl
theorem bkM_X10_addedTo : bchkM bmeth bmjs 3073 = true := by decide +kernel
theorem bkH_X10_addedTo : bHead (bm_12 1) ∈ bw_G := bw_in (bprog_in 3 _ (List.mem_of_getElem? (i := 6) rfl)) rfl
theorem bkM_X10_append : bchkM bmeth bmjs 3074 = true := by decide +kernel
theorem bkH_X10_append : bHead (bm_12 2) ∈ bw_G := bw_in (bprog_in 2 _ (List.mem_of_getElem? (i := 237) rfl)) rfl
theorem bkM_X10_at : bchkM bmeth bmjs 3075 = true := by decide +kernel
theorem bkH_X10_at : bHead (bm_12 3) ∈ bw_G := bw_in (bprog_in 5 _ (List.mem_of_getElem? (i := 84) rfl)) rfl
theorem bkM_X10_clear : bchkM bmeth bmjs 3076 = true := by decide +kernel
theorem bkH_X10_clear : bHead (bm_12 4) ∈ bw_G := bw_in (bprog_in 2 _ (List.mem_of_getElem? (i := 207) rfl)) rfl
theorem bkM_X10_isDigitAt : bchkM bmeth bmjs 3077 = true := by decide +kernel
theorem bkH_X10_isDigitAt : bHead (bm_12 5) ∈ bw_G := bw_in (bprog_in 5 _ (List.mem_of_getElem? (i := 184) rfl)) rfl
theorem bkM_X10_isNumber : bchkM bmeth bmjs 3078 = true := by decide +kernel
theorem bkH_X10_isNumber : bHead (bm_12 6) ∈ bw_G := bw_in (bprog_in 5 _ (List.mem_of_getElem? (i := 179) rfl)) rfl
theorem bkM_X10_write : bchkM bmeth bmjs 3079 = true := by decide +kernel
theorem bkH_X10_write : bHead (bm_12 7) ∈ bw_G := bw_in (bprog_in 2 _ (List.mem_of_getElem? (i := 232) rfl)) rfl
theorem bkMA_12 : ∀ k, k < 8 → (bmjs (3072 + k)).1 ≠ 0 → bchkM bmeth bmjs (3072 + k) = true ∧ bHead (bm_12 k) ∈ bw_G := by
  intro k hk h0
  match k, hk with
  | 0, _ => exact ⟨bkM_X10_init, bkH_X10_init⟩
  | 1, _ => exact ⟨bkM_X10_addedTo, bkH_X10_addedTo⟩
  | 2, _ => exact ⟨bkM_X10_append, bkH_X10_append⟩
  | 3, _ => exact ⟨bkM_X10_at, bkH_X10_at⟩
  | 4, _ => exact ⟨bkM_X10_clear, bkH_X10_clear⟩
  | 5, _ => exact ⟨bkM_X10_isDigitAt, bkH_X10_isDigitAt⟩
  | 6, _ => exact ⟨bkM_X10_isNumber, bkH_X10_isNumber⟩
  | 7, _ => exact ⟨bkM_X10_write, bkH_X10_write⟩
  | k + 8, h => omega
noncomputable def bm_13 (k : Nat) : bM := bmc_13.getD k bnoM
theorem bkD_X11_init_0 : bchk3 (bm_13 0) bk_X11_init_0 = true := by decide +kernel
theorem bkD_X11_init_1 : bchk3 (bm_13 0) bk_X11_init_1 = true := by decide +kernel
theorem bkD_X11_init_2 : bchk3 (bm_13 0) bk_X11_init_2 = true := by decide +kernel
theorem bkD_X11_init : bchk3 (bm_13 0) bk_X11_init = true := bchk3_app bkD_X11_init_0 (bchk3_app bkD_X11_init_1 (bkD_X11_init_2))
theorem bkD_X11_add : bchk3 (bm_13 1) bk_X11_add = true := by decide +kernel
theorem bkD_X11_apply : bchk3 (bm_13 2) bk_X11_apply = true := by decide +kernel
theorem bkD_X11_area : bchk3 (bm_13 3) bk_X11_area = true := by decide +kernel
theorem bkD_X11_become : bchk3 (bm_13 4) bk_X11_become = true := by decide +kernel
theorem bkD_X11_canBeZero : bchk3 (bm_13 5) bk_X11_canBeZero = true := by decide +kernel
theorem bkD_X11_change : bchk3 (bm_13 6) bk_X11_change = true := by decide +kernel
theorem bkD_X11_checkBoundsCall : bchk3 (bm_13 7) bk_X11_checkBoundsCall = true := by decide +kernel
theorem bkD_X11_checkCuts : bchk3 (bm_13 8) bk_X11_checkCuts = true := by decide +kernel
theorem bkD_X11_checkDefined : bchk3 (bm_13 9) bk_X11_checkDefined = true := by decide +kernel
theorem bkD_X11_checkFormula : bchk3 (bm_13 10) bk_X11_checkFormula = true := by decide +kernel
