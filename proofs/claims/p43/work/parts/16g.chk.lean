/-! The checks, go on. -/
theorem bkD_X7_box : bchk3 (bm_9 2) bk_X7_box = true := by decide +kernel
theorem bkD_X7_clear : bchk3 (bm_9 3) bk_X7_clear = true := by decide +kernel
theorem bkD_X7_cut : bchk3 (bm_9 4) bk_X7_cut = true := by decide +kernel
theorem bkD_X7_markAt : bchk3 (bm_9 5) bk_X7_markAt = true := by decide +kernel
theorem bkD_X7_split_0 : bchk3 (bm_9 6) bk_X7_split_0 = true := by decide +kernel
theorem bkD_X7_split_1 : bchk3 (bm_9 6) bk_X7_split_1 = true := by decide +kernel
theorem bkD_X7_split : bchk3 (bm_9 6) bk_X7_split = true := bchk3_app bkD_X7_split_0 (bkD_X7_split_1)
theorem bkD_X7_takeLast : bchk3 (bm_9 7) bk_X7_takeLast = true := by decide +kernel
theorem bkD_X7_within : bchk3 (bm_9 8) bk_X7_within = true := by decide +kernel
theorem bkA_9 : bAllOk (fun y l => bchk3 y l = true) bkc_9 bmc_9 := ⟨bkD_X7_init, bkD_X7_append, bkD_X7_box, bkD_X7_clear, bkD_X7_cut, bkD_X7_markAt, bkD_X7_split, bkD_X7_takeLast, bkD_X7_within, trivial⟩
theorem bkM_X7_init : bchkM bmeth bmjs 2304 = true := by decide +kernel
theorem bkH_X7_init : bHead (bm_9 0) ∈ bw_G := bw_in (bprog_in 2 _ (List.mem_of_getElem? (i := 122) rfl)) rfl
theorem bkM_X7_append : bchkM bmeth bmjs 2305 = true := by decide +kernel
theorem bkH_X7_append : bHead (bm_9 1) ∈ bw_G := bw_in (bprog_in 7 _ (List.mem_of_getElem? (i := 173) rfl)) rfl
theorem bkM_X7_box : bchkM bmeth bmjs 2306 = true := by decide +kernel
theorem bkH_X7_box : bHead (bm_9 2) ∈ bw_G := bw_in (bprog_in 7 _ (List.mem_of_getElem? (i := 220) rfl)) rfl
theorem bkM_X7_clear : bchkM bmeth bmjs 2307 = true := by decide +kernel
theorem bkH_X7_clear : bHead (bm_9 3) ∈ bw_G := bw_in (bprog_in 7 _ (List.mem_of_getElem? (i := 169) rfl)) rfl
theorem bkM_X7_cut : bchkM bmeth bmjs 2308 = true := by decide +kernel
theorem bkH_X7_cut : bHead (bm_9 4) ∈ bw_G := bw_in (bprog_in 8 _ (List.mem_of_getElem? (i := 3) rfl)) rfl
theorem bkM_X7_markAt : bchkM bmeth bmjs 2309 = true := by decide +kernel
theorem bkH_X7_markAt : bHead (bm_9 5) ∈ bw_G := bw_in (bprog_in 7 _ (List.mem_of_getElem? (i := 205) rfl)) rfl
theorem bkM_X7_split : bchkM bmeth bmjs 2310 = true := by decide +kernel
theorem bkH_X7_split : bHead (bm_9 6) ∈ bw_G := bw_in (bprog_in 8 _ (List.mem_of_getElem? (i := 10) rfl)) rfl
theorem bkM_X7_takeLast : bchkM bmeth bmjs 2311 = true := by decide +kernel
theorem bkH_X7_takeLast : bHead (bm_9 7) ∈ bw_G := bw_in (bprog_in 7 _ (List.mem_of_getElem? (i := 178) rfl)) rfl
theorem bkM_X7_within : bchkM bmeth bmjs 2312 = true := by decide +kernel
theorem bkH_X7_within : bHead (bm_9 8) ∈ bw_G := bw_in (bprog_in 7 _ (List.mem_of_getElem? (i := 209) rfl)) rfl
theorem bkMA_9 : ∀ k, k < 9 → (bmjs (2304 + k)).1 ≠ 0 → bchkM bmeth bmjs (2304 + k) = true ∧ bHead (bm_9 k) ∈ bw_G := by
  intro k hk h0
  match k, hk with
  | 0, _ => exact ⟨bkM_X7_init, bkH_X7_init⟩
  | 1, _ => exact ⟨bkM_X7_append, bkH_X7_append⟩
  | 2, _ => exact ⟨bkM_X7_box, bkH_X7_box⟩
  | 3, _ => exact ⟨bkM_X7_clear, bkH_X7_clear⟩
  | 4, _ => exact ⟨bkM_X7_cut, bkH_X7_cut⟩
  | 5, _ => exact ⟨bkM_X7_markAt, bkH_X7_markAt⟩
  | 6, _ => exact ⟨bkM_X7_split, bkH_X7_split⟩
  | 7, _ => exact ⟨bkM_X7_takeLast, bkH_X7_takeLast⟩
  | 8, _ => exact ⟨bkM_X7_within, bkH_X7_within⟩
  | k + 9, h => omega
noncomputable def bm_10 (k : Nat) : bM := bmc_10.getD k bnoM
theorem bkD_X8_init_0 : bchk3 (bm_10 0) bk_X8_init_0 = true := by decide +kernel
theorem bkD_X8_init_1 : bchk3 (bm_10 0) bk_X8_init_1 = true := by decide +kernel
theorem bkD_X8_init : bchk3 (bm_10 0) bk_X8_init = true := bchk3_app bkD_X8_init_0 (bkD_X8_init_1)
theorem bkD_X8_align_0 : bchk3 (bm_10 1) bk_X8_align_0 = true := by decide +kernel
theorem bkD_X8_align_1 : bchk3 (bm_10 1) bk_X8_align_1 = true := by decide +kernel
theorem bkD_X8_align : bchk3 (bm_10 1) bk_X8_align = true := bchk3_app bkD_X8_align_0 (bkD_X8_align_1)
theorem bkD_X8_assign : bchk3 (bm_10 2) bk_X8_assign = true := by decide +kernel
theorem bkD_X8_dropSign : bchk3 (bm_10 3) bk_X8_dropSign = true := by decide +kernel
theorem bkD_X8_guessRoot : bchk3 (bm_10 4) bk_X8_guessRoot = true := by decide +kernel
theorem bkD_X8_nextDigits_0 : bchk3 (bm_10 5) bk_X8_nextDigits_0 = true := by decide +kernel
theorem bkD_X8_nextDigits_1 : bchk3 (bm_10 5) bk_X8_nextDigits_1 = true := by decide +kernel
theorem bkD_X8_nextDigits : bchk3 (bm_10 5) bk_X8_nextDigits = true := bchk3_app bkD_X8_nextDigits_0 (bkD_X8_nextDigits_1)
theorem bkD_X8_powerOf : bchk3 (bm_10 6) bk_X8_powerOf = true := by decide +kernel
theorem bkD_X8_product : bchk3 (bm_10 7) bk_X8_product = true := by decide +kernel
theorem bkD_X8_quotient_0 : bchk3 (bm_10 8) bk_X8_quotient_0 = true := by decide +kernel
theorem bkD_X8_quotient_1 : bchk3 (bm_10 8) bk_X8_quotient_1 = true := by decide +kernel
theorem bkD_X8_quotient : bchk3 (bm_10 8) bk_X8_quotient = true := bchk3_app bkD_X8_quotient_0 (bkD_X8_quotient_1)
theorem bkD_X8_raise : bchk3 (bm_10 9) bk_X8_raise = true := by decide +kernel
theorem bkD_X8_settle_0 : bchk3 (bm_10 10) bk_X8_settle_0 = true := by decide +kernel
theorem bkD_X8_settle_1 : bchk3 (bm_10 10) bk_X8_settle_1 = true := by decide +kernel
theorem bkD_X8_settle : bchk3 (bm_10 10) bk_X8_settle = true := bchk3_app bkD_X8_settle_0 (bkD_X8_settle_1)
theorem bkD_X8_spread : bchk3 (bm_10 11) bk_X8_spread = true := by decide +kernel
theorem bkD_X8_take_0 : bchk3 (bm_10 12) bk_X8_take_0 = true := by decide +kernel
theorem bkD_X8_take_1 : bchk3 (bm_10 12) bk_X8_take_1 = true := by decide +kernel
theorem bkD_X8_take : bchk3 (bm_10 12) bk_X8_take = true := bchk3_app bkD_X8_take_0 (bkD_X8_take_1)
theorem bkD_X8_takeDigit : bchk3 (bm_10 13) bk_X8_takeDigit = true := by decide +kernel
theorem bkD_X8_takeText_0 : bchk3 (bm_10 14) bk_X8_takeText_0 = true := by decide +kernel
theorem bkD_X8_takeText_1 : bchk3 (bm_10 14) bk_X8_takeText_1 = true := by decide +kernel
theorem bkD_X8_takeText : bchk3 (bm_10 14) bk_X8_takeText = true := bchk3_app bkD_X8_takeText_0 (bkD_X8_takeText_1)
