/-! The checks, go on. -/
theorem bkH_X6_init : bHead (bm_8 0) ∈ bw_G := bw_in (bprog_in 1 _ (List.mem_of_getElem? (i := 130) rfl)) rfl
theorem bkM_X6_at : bchkM bmeth bmjs 2051 = true := by decide +kernel
theorem bkH_X6_at : bHead (bm_8 3) ∈ bw_G := bw_in (bprog_in 3 _ (List.mem_of_getElem? (i := 27) rfl)) rfl
theorem bkM_X6_clear : bchkM bmeth bmjs 2053 = true := by decide +kernel
theorem bkH_X6_clear : bHead (bm_8 5) ∈ bw_G := bw_in (bprog_in 3 _ (List.mem_of_getElem? (i := 19) rfl)) rfl
theorem bkM_X6_make : bchkM bmeth bmjs 2055 = true := by decide +kernel
theorem bkH_X6_make : bHead (bm_8 7) ∈ bw_G := bw_in (bprog_in 3 _ (List.mem_of_getElem? (i := 23) rfl)) rfl
theorem bkM_X6_result : bchkM bmeth bmjs 2063 = true := by decide +kernel
theorem bkH_X6_result : bHead (bm_8 15) ∈ bw_G := bw_in (bprog_in 4 _ (List.mem_of_getElem? (i := 156) rfl)) rfl
theorem bkM_X6_useDigits : bchkM bmeth bmjs 2065 = true := by decide +kernel
theorem bkH_X6_useDigits : bHead (bm_8 17) ∈ bw_G := bw_in (bprog_in 2 _ (List.mem_of_getElem? (i := 60) rfl)) rfl
theorem bkMA_8 : ∀ k, k < 18 → (bmjs (2048 + k)).1 ≠ 0 → bchkM bmeth bmjs (2048 + k) = true ∧ bHead (bm_8 k) ∈ bw_G := by
  intro k hk h0
  match k, hk with
  | 0, _ => exact ⟨bkM_X6_init, bkH_X6_init⟩
  | 1, _ => exact absurd (by decide +kernel) h0
  | 2, _ => exact absurd (by decide +kernel) h0
  | 3, _ => exact ⟨bkM_X6_at, bkH_X6_at⟩
  | 4, _ => exact absurd (by decide +kernel) h0
  | 5, _ => exact ⟨bkM_X6_clear, bkH_X6_clear⟩
  | 6, _ => exact absurd (by decide +kernel) h0
  | 7, _ => exact ⟨bkM_X6_make, bkH_X6_make⟩
  | 8, _ => exact absurd (by decide +kernel) h0
  | 9, _ => exact absurd (by decide +kernel) h0
  | 10, _ => exact absurd (by decide +kernel) h0
  | 11, _ => exact absurd (by decide +kernel) h0
  | 12, _ => exact absurd (by decide +kernel) h0
  | 13, _ => exact absurd (by decide +kernel) h0
  | 14, _ => exact absurd (by decide +kernel) h0
  | 15, _ => exact ⟨bkM_X6_result, bkH_X6_result⟩
  | 16, _ => exact absurd (by decide +kernel) h0
  | 17, _ => exact ⟨bkM_X6_useDigits, bkH_X6_useDigits⟩
  | k + 18, h => omega
noncomputable def bm_9 (k : Nat) : bM := bmc_9.getD k bnoM
theorem bkD_X7_init : bchk3 (bm_9 0) bk_X7_init = true := by decide +kernel
theorem bkD_X7_append : bchk3 (bm_9 1) bk_X7_append = true := by decide +kernel
theorem bkD_X7_box : bchk3 (bm_9 2) bk_X7_box = true := by decide +kernel
theorem bkD_X7_clear : bchk3 (bm_9 3) bk_X7_clear = true := by decide +kernel
theorem bkD_X7_cut : bchk3 (bm_9 4) bk_X7_cut = true := by decide +kernel
theorem bkD_X7_markAt : bchk3 (bm_9 5) bk_X7_markAt = true := by decide +kernel
theorem bkD_X7_split : bchk3 (bm_9 6) bk_X7_split = true := by decide +kernel
theorem bkD_X7_takeLast : bchk3 (bm_9 7) bk_X7_takeLast = true := by decide +kernel
theorem bkD_X7_within : bchk3 (bm_9 8) bk_X7_within = true := by decide +kernel
theorem bkA_9 : bAllOk (fun y l => bchk3 y l = true) bkc_9 bmc_9 := ⟨bkD_X7_init, bkD_X7_append, bkD_X7_box, bkD_X7_clear, bkD_X7_cut, bkD_X7_markAt, bkD_X7_split, bkD_X7_takeLast, bkD_X7_within, trivial⟩
theorem bkM_X7_init : bchkM bmeth bmjs 2304 = true := by decide +kernel
theorem bkH_X7_init : bHead (bm_9 0) ∈ bw_G := bw_in (bprog_in 2 _ (List.mem_of_getElem? (i := 122) rfl)) rfl
theorem bkMA_9 : ∀ k, k < 9 → (bmjs (2304 + k)).1 ≠ 0 → bchkM bmeth bmjs (2304 + k) = true ∧ bHead (bm_9 k) ∈ bw_G := by
  intro k hk h0
  match k, hk with
  | 0, _ => exact ⟨bkM_X7_init, bkH_X7_init⟩
  | 1, _ => exact absurd (by decide +kernel) h0
  | 2, _ => exact absurd (by decide +kernel) h0
  | 3, _ => exact absurd (by decide +kernel) h0
  | 4, _ => exact absurd (by decide +kernel) h0
  | 5, _ => exact absurd (by decide +kernel) h0
  | 6, _ => exact absurd (by decide +kernel) h0
  | 7, _ => exact absurd (by decide +kernel) h0
  | 8, _ => exact absurd (by decide +kernel) h0
  | k + 9, h => omega
noncomputable def bm_10 (k : Nat) : bM := bmc_10.getD k bnoM
theorem bkD_X8_init_0 : bchk3 (bm_10 0) bk_X8_init_0 = true := by decide +kernel
theorem bkD_X8_init_1 : bchk3 (bm_10 0) bk_X8_init_1 = true := by decide +kernel
theorem bkD_X8_init : bchk3 (bm_10 0) bk_X8_init = true := bchk3_app bkD_X8_init_0 (bkD_X8_init_1)
theorem bkD_X8_align : bchk3 (bm_10 1) bk_X8_align = true := by decide +kernel
theorem bkD_X8_assign : bchk3 (bm_10 2) bk_X8_assign = true := by decide +kernel
theorem bkD_X8_dropSign : bchk3 (bm_10 3) bk_X8_dropSign = true := by decide +kernel
theorem bkD_X8_guessRoot : bchk3 (bm_10 4) bk_X8_guessRoot = true := by decide +kernel
theorem bkD_X8_nextDigits : bchk3 (bm_10 5) bk_X8_nextDigits = true := by decide +kernel
theorem bkD_X8_powerOf : bchk3 (bm_10 6) bk_X8_powerOf = true := by decide +kernel
theorem bkD_X8_product : bchk3 (bm_10 7) bk_X8_product = true := by decide +kernel
theorem bkD_X8_quotient : bchk3 (bm_10 8) bk_X8_quotient = true := by decide +kernel
theorem bkD_X8_raise : bchk3 (bm_10 9) bk_X8_raise = true := by decide +kernel
theorem bkD_X8_settle : bchk3 (bm_10 10) bk_X8_settle = true := by decide +kernel
theorem bkD_X8_spread : bchk3 (bm_10 11) bk_X8_spread = true := by decide +kernel
theorem bkD_X8_take_0 : bchk3 (bm_10 12) bk_X8_take_0 = true := by decide +kernel
theorem bkD_X8_take_1 : bchk3 (bm_10 12) bk_X8_take_1 = true := by decide +kernel
theorem bkD_X8_take : bchk3 (bm_10 12) bk_X8_take = true := bchk3_app bkD_X8_take_0 (bkD_X8_take_1)
theorem bkD_X8_takeDigit : bchk3 (bm_10 13) bk_X8_takeDigit = true := by decide +kernel
theorem bkD_X8_takeText : bchk3 (bm_10 14) bk_X8_takeText = true := by decide +kernel
theorem bkD_X8_tellDown : bchk3 (bm_10 15) bk_X8_tellDown = true := by decide +kernel
theorem bkD_X8_tellUp : bchk3 (bm_10 16) bk_X8_tellUp = true := by decide +kernel
theorem bkD_X8_toPower : bchk3 (bm_10 17) bk_X8_toPower = true := by decide +kernel
theorem bkD_X8_toRoot : bchk3 (bm_10 18) bk_X8_toRoot = true := by decide +kernel
theorem bkD_X8_turn : bchk3 (bm_10 19) bk_X8_turn = true := by decide +kernel
theorem bkD_X8_wholeOfRow : bchk3 (bm_10 20) bk_X8_wholeOfRow = true := by decide +kernel
theorem bkD_X8_widen : bchk3 (bm_10 21) bk_X8_widen = true := by decide +kernel
theorem bkA_10 : bAllOk (fun y l => bchk3 y l = true) bkc_10 bmc_10 := ⟨bkD_X8_init, bkD_X8_align, bkD_X8_assign, bkD_X8_dropSign, bkD_X8_guessRoot, bkD_X8_nextDigits, bkD_X8_powerOf, bkD_X8_product, bkD_X8_quotient, bkD_X8_raise, bkD_X8_settle, bkD_X8_spread, bkD_X8_take, bkD_X8_takeDigit, bkD_X8_takeText, bkD_X8_tellDown, bkD_X8_tellUp, bkD_X8_toPower, bkD_X8_toRoot, bkD_X8_turn, bkD_X8_wholeOfRow, bkD_X8_widen, trivial⟩
theorem bkM_X8_init : bchkM bmeth bmjs 2560 = true := by decide +kernel
theorem bkH_X8_init : bHead (bm_10 0) ∈ bw_G := bw_in (bprog_in 1 _ (List.mem_of_getElem? (i := 142) rfl)) rfl
theorem bkM_X8_assign : bchkM bmeth bmjs 2562 = true := by decide +kernel
theorem bkH_X8_assign : bHead (bm_10 2) ∈ bw_G := bw_in (bprog_in 3 _ (List.mem_of_getElem? (i := 49) rfl)) rfl
theorem bkM_X8_take : bchkM bmeth bmjs 2572 = true := by decide +kernel
theorem bkH_X8_take : bHead (bm_10 12) ∈ bw_G := bw_in (bprog_in 3 _ (List.mem_of_getElem? (i := 38) rfl)) rfl
theorem bkM_X8_tellDown : bchkM bmeth bmjs 2575 = true := by decide +kernel
theorem bkH_X8_tellDown : bHead (bm_10 15) ∈ bw_G := bw_in (bprog_in 3 _ (List.mem_of_getElem? (i := 57) rfl)) rfl
