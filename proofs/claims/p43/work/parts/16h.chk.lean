/-! The checks, go on. -/
theorem bkD_X8_tellDown : bchk3 (bm_10 15) bk_X8_tellDown = true := by decide +kernel
theorem bkD_X8_tellUp : bchk3 (bm_10 16) bk_X8_tellUp = true := by decide +kernel
theorem bkD_X8_toPower : bchk3 (bm_10 17) bk_X8_toPower = true := by decide +kernel
theorem bkD_X8_toRoot_0 : bchk3 (bm_10 18) bk_X8_toRoot_0 = true := by decide +kernel
theorem bkD_X8_toRoot_1 : bchk3 (bm_10 18) bk_X8_toRoot_1 = true := by decide +kernel
theorem bkD_X8_toRoot_2 : bchk3 (bm_10 18) bk_X8_toRoot_2 = true := by decide +kernel
theorem bkD_X8_toRoot : bchk3 (bm_10 18) bk_X8_toRoot = true := bchk3_app bkD_X8_toRoot_0 (bchk3_app bkD_X8_toRoot_1 (bkD_X8_toRoot_2))
theorem bkD_X8_turn : bchk3 (bm_10 19) bk_X8_turn = true := by decide +kernel
theorem bkD_X8_wholeOfRow : bchk3 (bm_10 20) bk_X8_wholeOfRow = true := by decide +kernel
theorem bkD_X8_widen_0 : bchk3 (bm_10 21) bk_X8_widen_0 = true := by decide +kernel
theorem bkD_X8_widen_1 : bchk3 (bm_10 21) bk_X8_widen_1 = true := by decide +kernel
theorem bkD_X8_widen_2 : bchk3 (bm_10 21) bk_X8_widen_2 = true := by decide +kernel
theorem bkD_X8_widen : bchk3 (bm_10 21) bk_X8_widen = true := bchk3_app bkD_X8_widen_0 (bchk3_app bkD_X8_widen_1 (bkD_X8_widen_2))
theorem bkA_10 : bAllOk (fun y l => bchk3 y l = true) bkc_10 bmc_10 := ⟨bkD_X8_init, bkD_X8_align, bkD_X8_assign, bkD_X8_dropSign, bkD_X8_guessRoot, bkD_X8_nextDigits, bkD_X8_powerOf, bkD_X8_product, bkD_X8_quotient, bkD_X8_raise, bkD_X8_settle, bkD_X8_spread, bkD_X8_take, bkD_X8_takeDigit, bkD_X8_takeText, bkD_X8_tellDown, bkD_X8_tellUp, bkD_X8_toPower, bkD_X8_toRoot, bkD_X8_turn, bkD_X8_wholeOfRow, bkD_X8_widen, trivial⟩
theorem bkM_X8_init : bchkM bmeth bmjs 2560 = true := by decide +kernel
theorem bkH_X8_init : bHead (bm_10 0) ∈ bw_G := bw_in (bprog_in 1 _ (List.mem_of_getElem? (i := 142) rfl)) rfl
theorem bkM_X8_align : bchkM bmeth bmjs 2561 = true := by decide +kernel
theorem bkH_X8_align : bHead (bm_10 1) ∈ bw_G := bw_in (bprog_in 3 _ (List.mem_of_getElem? (i := 219) rfl)) rfl
theorem bkM_X8_assign : bchkM bmeth bmjs 2562 = true := by decide +kernel
theorem bkH_X8_assign : bHead (bm_10 2) ∈ bw_G := bw_in (bprog_in 3 _ (List.mem_of_getElem? (i := 49) rfl)) rfl
theorem bkM_X8_dropSign : bchkM bmeth bmjs 2563 = true := by decide +kernel
theorem bkH_X8_dropSign : bHead (bm_10 3) ∈ bw_G := bw_in (bprog_in 3 _ (List.mem_of_getElem? (i := 145) rfl)) rfl
theorem bkM_X8_guessRoot : bchkM bmeth bmjs 2564 = true := by decide +kernel
theorem bkH_X8_guessRoot : bHead (bm_10 4) ∈ bw_G := bw_in (bprog_in 4 _ (List.mem_of_getElem? (i := 21) rfl)) rfl
theorem bkM_X8_nextDigits : bchkM bmeth bmjs 2565 = true := by decide +kernel
theorem bkH_X8_nextDigits : bHead (bm_10 5) ∈ bw_G := bw_in (bprog_in 3 _ (List.mem_of_getElem? (i := 225) rfl)) rfl
theorem bkM_X8_powerOf : bchkM bmeth bmjs 2566 = true := by decide +kernel
theorem bkH_X8_powerOf : bHead (bm_10 6) ∈ bw_G := bw_in (bprog_in 4 _ (List.mem_of_getElem? (i := 25) rfl)) rfl
theorem bkM_X8_product : bchkM bmeth bmjs 2567 = true := by decide +kernel
theorem bkH_X8_product : bHead (bm_10 7) ∈ bw_G := bw_in (bprog_in 3 _ (List.mem_of_getElem? (i := 142) rfl)) rfl
theorem bkM_X8_quotient : bchkM bmeth bmjs 2568 = true := by decide +kernel
theorem bkH_X8_quotient : bHead (bm_10 8) ∈ bw_G := bw_in (bprog_in 3 _ (List.mem_of_getElem? (i := 215) rfl)) rfl
theorem bkM_X8_raise : bchkM bmeth bmjs 2569 = true := by decide +kernel
theorem bkH_X8_raise : bHead (bm_10 9) ∈ bw_G := bw_in (bprog_in 4 _ (List.mem_of_getElem? (i := 12) rfl)) rfl
theorem bkM_X8_settle : bchkM bmeth bmjs 2570 = true := by decide +kernel
theorem bkH_X8_settle : bHead (bm_10 10) ∈ bw_G := bw_in (bprog_in 3 _ (List.mem_of_getElem? (i := 165) rfl)) rfl
theorem bkM_X8_spread : bchkM bmeth bmjs 2571 = true := by decide +kernel
theorem bkH_X8_spread : bHead (bm_10 11) ∈ bw_G := bw_in (bprog_in 3 _ (List.mem_of_getElem? (i := 156) rfl)) rfl
theorem bkM_X8_take : bchkM bmeth bmjs 2572 = true := by decide +kernel
theorem bkH_X8_take : bHead (bm_10 12) ∈ bw_G := bw_in (bprog_in 3 _ (List.mem_of_getElem? (i := 38) rfl)) rfl
theorem bkM_X8_takeDigit : bchkM bmeth bmjs 2573 = true := by decide +kernel
theorem bkH_X8_takeDigit : bHead (bm_10 13) ∈ bw_G := bw_in (bprog_in 5 _ (List.mem_of_getElem? (i := 204) rfl)) rfl
theorem bkM_X8_takeText : bchkM bmeth bmjs 2574 = true := by decide +kernel
theorem bkH_X8_takeText : bHead (bm_10 14) ∈ bw_G := bw_in (bprog_in 5 _ (List.mem_of_getElem? (i := 198) rfl)) rfl
theorem bkM_X8_tellDown : bchkM bmeth bmjs 2575 = true := by decide +kernel
theorem bkH_X8_tellDown : bHead (bm_10 15) ∈ bw_G := bw_in (bprog_in 3 _ (List.mem_of_getElem? (i := 57) rfl)) rfl
theorem bkM_X8_tellUp : bchkM bmeth bmjs 2576 = true := by decide +kernel
theorem bkH_X8_tellUp : bHead (bm_10 16) ∈ bw_G := bw_in (bprog_in 3 _ (List.mem_of_getElem? (i := 69) rfl)) rfl
theorem bkM_X8_toPower : bchkM bmeth bmjs 2577 = true := by decide +kernel
theorem bkH_X8_toPower : bHead (bm_10 17) ∈ bw_G := bw_in (bprog_in 4 _ (List.mem_of_getElem? (i := 8) rfl)) rfl
theorem bkM_X8_toRoot : bchkM bmeth bmjs 2578 = true := by decide +kernel
theorem bkH_X8_toRoot : bHead (bm_10 18) ∈ bw_G := bw_in (bprog_in 4 _ (List.mem_of_getElem? (i := 18) rfl)) rfl
theorem bkM_X8_turn : bchkM bmeth bmjs 2579 = true := by decide +kernel
theorem bkH_X8_turn : bHead (bm_10 19) ∈ bw_G := bw_in (bprog_in 3 _ (List.mem_of_getElem? (i := 174) rfl)) rfl
theorem bkM_X8_wholeOfRow : bchkM bmeth bmjs 2580 = true := by decide +kernel
theorem bkH_X8_wholeOfRow : bHead (bm_10 20) ∈ bw_G := bw_in (bprog_in 3 _ (List.mem_of_getElem? (i := 169) rfl)) rfl
theorem bkM_X8_widen : bchkM bmeth bmjs 2581 = true := by decide +kernel
theorem bkH_X8_widen : bHead (bm_10 21) ∈ bw_G := bw_in (bprog_in 3 _ (List.mem_of_getElem? (i := 161) rfl)) rfl
theorem bkMA_10 : ∀ k, k < 22 → (bmjs (2560 + k)).1 ≠ 0 → bchkM bmeth bmjs (2560 + k) = true ∧ bHead (bm_10 k) ∈ bw_G := by
  intro k hk h0
  match k, hk with
  | 0, _ => exact ⟨bkM_X8_init, bkH_X8_init⟩
  | 1, _ => exact ⟨bkM_X8_align, bkH_X8_align⟩
  | 2, _ => exact ⟨bkM_X8_assign, bkH_X8_assign⟩
  | 3, _ => exact ⟨bkM_X8_dropSign, bkH_X8_dropSign⟩
  | 4, _ => exact ⟨bkM_X8_guessRoot, bkH_X8_guessRoot⟩
  | 5, _ => exact ⟨bkM_X8_nextDigits, bkH_X8_nextDigits⟩
  | 6, _ => exact ⟨bkM_X8_powerOf, bkH_X8_powerOf⟩
  | 7, _ => exact ⟨bkM_X8_product, bkH_X8_product⟩
  | 8, _ => exact ⟨bkM_X8_quotient, bkH_X8_quotient⟩
  | 9, _ => exact ⟨bkM_X8_raise, bkH_X8_raise⟩
  | 10, _ => exact ⟨bkM_X8_settle, bkH_X8_settle⟩
  | 11, _ => exact ⟨bkM_X8_spread, bkH_X8_spread⟩
  | 12, _ => exact ⟨bkM_X8_take, bkH_X8_take⟩
  | 13, _ => exact ⟨bkM_X8_takeDigit, bkH_X8_takeDigit⟩
  | 14, _ => exact ⟨bkM_X8_takeText, bkH_X8_takeText⟩
  | 15, _ => exact ⟨bkM_X8_tellDown, bkH_X8_tellDown⟩
  | 16, _ => exact ⟨bkM_X8_tellUp, bkH_X8_tellUp⟩
  | 17, _ => exact ⟨bkM_X8_toPower, bkH_X8_toPower⟩
  | 18, _ => exact ⟨bkM_X8_toRoot, bkH_X8_toRoot⟩
  | 19, _ => exact ⟨bkM_X8_turn, bkH_X8_turn⟩
  | 20, _ => exact ⟨bkM_X8_wholeOfRow, bkH_X8_wholeOfRow⟩
  | 21, _ => exact ⟨bkM_X8_widen, bkH_X8_widen⟩
  | k + 22, h => omega
noncomputable def bm_11 (k : Nat) : bM := bmc_11.getD k bnoM
theorem bkD_X9_init_0 : bchk3 (bm_11 0) bk_X9_init_0 = true := by decide +kernel
theorem bkD_X9_init_1 : bchk3 (bm_11 0) bk_X9_init_1 = true := by decide +kernel
theorem bkD_X9_init : bchk3 (bm_11 0) bk_X9_init = true := bchk3_app bkD_X9_init_0 (bkD_X9_init_1)
theorem bkD_X9_box : bchk3 (bm_11 1) bk_X9_box = true := by decide +kernel
theorem bkD_X9_fill_0 : bchk3 (bm_11 2) bk_X9_fill_0 = true := by decide +kernel
theorem bkD_X9_fill_1 : bchk3 (bm_11 2) bk_X9_fill_1 = true := by decide +kernel
theorem bkD_X9_fill : bchk3 (bm_11 2) bk_X9_fill = true := bchk3_app bkD_X9_fill_0 (bkD_X9_fill_1)
