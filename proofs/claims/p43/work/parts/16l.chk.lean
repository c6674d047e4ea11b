/-! The checks, go on. -/
theorem bkH_X11_add : bHead (bm_13 1) ∈ bw_G := bw_in (bprog_in 6 _ (List.mem_of_getElem? (i := 91) rfl)) rfl
theorem bkM_X11_apply : bchkM bmeth bmjs 3330 = true := by decide +kernel
theorem bkH_X11_apply : bHead (bm_13 2) ∈ bw_G := bw_in (bprog_in 6 _ (List.mem_of_getElem? (i := 148) rfl)) rfl
theorem bkM_X11_area : bchkM bmeth bmjs 3331 = true := by decide +kernel
theorem bkH_X11_area : bHead (bm_13 3) ∈ bw_G := bw_in (bprog_in 8 _ (List.mem_of_getElem? (i := 48) rfl)) rfl
theorem bkM_X11_become : bchkM bmeth bmjs 3332 = true := by decide +kernel
theorem bkH_X11_become : bHead (bm_13 4) ∈ bw_G := bw_in (bprog_in 5 _ (List.mem_of_getElem? (i := 137) rfl)) rfl
theorem bkM_X11_canBeZero : bchkM bmeth bmjs 3333 = true := by decide +kernel
theorem bkH_X11_canBeZero : bHead (bm_13 5) ∈ bw_G := bw_in (bprog_in 8 _ (List.mem_of_getElem? (i := 15) rfl)) rfl
theorem bkM_X11_change : bchkM bmeth bmjs 3334 = true := by decide +kernel
theorem bkH_X11_change : bHead (bm_13 6) ∈ bw_G := bw_in (bprog_in 6 _ (List.mem_of_getElem? (i := 133) rfl)) rfl
theorem bkM_X11_checkBoundsCall : bchkM bmeth bmjs 3335 = true := by decide +kernel
theorem bkH_X11_checkBoundsCall : bHead (bm_13 7) ∈ bw_G := bw_in (bprog_in 8 _ (List.mem_of_getElem? (i := 26) rfl)) rfl
theorem bkM_X11_checkCuts : bchkM bmeth bmjs 3336 = true := by decide +kernel
theorem bkH_X11_checkCuts : bHead (bm_13 8) ∈ bw_G := bw_in (bprog_in 7 _ (List.mem_of_getElem? (i := 144) rfl)) rfl
theorem bkM_X11_checkDefined : bchkM bmeth bmjs 3337 = true := by decide +kernel
theorem bkH_X11_checkDefined : bHead (bm_13 9) ∈ bw_G := bw_in (bprog_in 7 _ (List.mem_of_getElem? (i := 11) rfl)) rfl
theorem bkM_X11_checkFormula : bchkM bmeth bmjs 3338 = true := by decide +kernel
theorem bkH_X11_checkFormula : bHead (bm_13 10) ∈ bw_G := bw_in (bprog_in 6 _ (List.mem_of_getElem? (i := 172) rfl)) rfl
theorem bkM_X11_checkFormulaCall : bchkM bmeth bmjs 3339 = true := by decide +kernel
theorem bkH_X11_checkFormulaCall : bHead (bm_13 11) ∈ bw_G := bw_in (bprog_in 7 _ (List.mem_of_getElem? (i := 23) rfl)) rfl
theorem bkM_X11_checkHeld : bchkM bmeth bmjs 3340 = true := by decide +kernel
theorem bkH_X11_checkHeld : bHead (bm_13 12) ∈ bw_G := bw_in (bprog_in 5 _ (List.mem_of_getElem? (i := 228) rfl)) rfl
theorem bkM_X11_checkNoY : bchkM bmeth bmjs 3341 = true := by decide +kernel
theorem bkH_X11_checkNoY : bHead (bm_13 13) ∈ bw_G := bw_in (bprog_in 7 _ (List.mem_of_getElem? (i := 149) rfl)) rfl
theorem bkM_X11_checkPair : bchkM bmeth bmjs 3342 = true := by decide +kernel
theorem bkH_X11_checkPair : bHead (bm_13 14) ∈ bw_G := bw_in (bprog_in 6 _ (List.mem_of_getElem? (i := 53) rfl)) rfl
theorem bkM_X11_checkPiece : bchkM bmeth bmjs 3343 = true := by decide +kernel
theorem bkH_X11_checkPiece : bHead (bm_13 15) ∈ bw_G := bw_in (bprog_in 7 _ (List.mem_of_getElem? (i := 200) rfl)) rfl
theorem bkM_X11_checkShelf : bchkM bmeth bmjs 3344 = true := by decide +kernel
theorem bkH_X11_checkShelf : bHead (bm_13 16) ∈ bw_G := bw_in (bprog_in 5 _ (List.mem_of_getElem? (i := 119) rfl)) rfl
theorem bkM_X11_checkShelves : bchkM bmeth bmjs 3345 = true := by decide +kernel
theorem bkH_X11_checkShelves : bHead (bm_13 17) ∈ bw_G := bw_in (bprog_in 5 _ (List.mem_of_getElem? (i := 224) rfl)) rfl
theorem bkM_X11_checkStatus : bchkM bmeth bmjs 3346 = true := by decide +kernel
theorem bkH_X11_checkStatus : bHead (bm_13 18) ∈ bw_G := bw_in (bprog_in 5 _ (List.mem_of_getElem? (i := 141) rfl)) rfl
theorem bkM_X11_checksum : bchkM bmeth bmjs 3347 = true := by decide +kernel
theorem bkH_X11_checksum : bHead (bm_13 19) ∈ bw_G := bw_in (bprog_in 2 _ (List.mem_of_getElem? (i := 223) rfl)) rfl
theorem bkM_X11_combine : bchkM bmeth bmjs 3348 = true := by decide +kernel
theorem bkH_X11_combine : bHead (bm_13 20) ∈ bw_G := bw_in (bprog_in 6 _ (List.mem_of_getElem? (i := 95) rfl)) rfl
theorem bkM_X11_compare : bchkM bmeth bmjs 3349 = true := by decide +kernel
theorem bkH_X11_compare : bHead (bm_13 21) ∈ bw_G := bw_in (bprog_in 6 _ (List.mem_of_getElem? (i := 60) rfl)) rfl
theorem bkM_X11_constant : bchkM bmeth bmjs 3350 = true := by decide +kernel
theorem bkH_X11_constant : bHead (bm_13 22) ∈ bw_G := bw_in (bprog_in 5 _ (List.mem_of_getElem? (i := 211) rfl)) rfl
theorem bkM_X11_crossed : bchkM bmeth bmjs 3351 = true := by decide +kernel
theorem bkH_X11_crossed : bHead (bm_13 23) ∈ bw_G := bw_in (bprog_in 6 _ (List.mem_of_getElem? (i := 161) rfl)) rfl
theorem bkM_X11_decide : bchkM bmeth bmjs 3352 = true := by decide +kernel
theorem bkH_X11_decide : bHead (bm_13 24) ∈ bw_G := bw_in (bprog_in 7 _ (List.mem_of_getElem? (i := 128) rfl)) rfl
theorem bkM_X11_define : bchkM bmeth bmjs 3353 = true := by decide +kernel
theorem bkH_X11_define : bHead (bm_13 25) ∈ bw_G := bw_in (bprog_in 6 _ (List.mem_of_getElem? (i := 168) rfl)) rfl
theorem bkM_X11_digits : bchkM bmeth bmjs 3354 = true := by decide +kernel
theorem bkH_X11_digits : bHead (bm_13 26) ∈ bw_G := bw_in (bprog_in 2 _ (List.mem_of_getElem? (i := 199) rfl)) rfl
theorem bkM_X11_divide : bchkM bmeth bmjs 3355 = true := by decide +kernel
theorem bkH_X11_divide : bHead (bm_13 27) ∈ bw_G := bw_in (bprog_in 6 _ (List.mem_of_getElem? (i := 121) rfl)) rfl
theorem bkM_X11_erase : bchkM bmeth bmjs 3356 = true := by decide +kernel
theorem bkH_X11_erase : bHead (bm_13 28) ∈ bw_G := bw_in (bprog_in 2 _ (List.mem_of_getElem? (i := 203) rfl)) rfl
theorem bkM_X11_fill : bchkM bmeth bmjs 3357 = true := by decide +kernel
theorem bkH_X11_fill : bHead (bm_13 29) ∈ bw_G := bw_in (bprog_in 5 _ (List.mem_of_getElem? (i := 162) rfl)) rfl
theorem bkM_X11_greatest : bchkM bmeth bmjs 3358 = true := by decide +kernel
theorem bkH_X11_greatest : bHead (bm_13 30) ∈ bw_G := bw_in (bprog_in 8 _ (List.mem_of_getElem? (i := 41) rfl)) rfl
theorem bkM_X11_hasY : bchkM bmeth bmjs 3359 = true := by decide +kernel
theorem bkH_X11_hasY : bHead (bm_13 31) ∈ bw_G := bw_in (bprog_in 7 _ (List.mem_of_getElem? (i := 7) rfl)) rfl
theorem bkM_X11_held : bchkM bmeth bmjs 3360 = true := by decide +kernel
theorem bkH_X11_held : bHead (bm_13 32) ∈ bw_G := bw_in (bprog_in 2 _ (List.mem_of_getElem? (i := 211) rfl)) rfl
theorem bkM_X11_high : bchkM bmeth bmjs 3361 = true := by decide +kernel
theorem bkH_X11_high : bHead (bm_13 33) ∈ bw_G := bw_in (bprog_in 6 _ (List.mem_of_getElem? (i := 34) rfl)) rfl
theorem bkM_X11_isConstantSound : bchkM bmeth bmjs 3362 = true := by decide +kernel
theorem bkH_X11_isConstantSound : bHead (bm_13 34) ∈ bw_G := bw_in (bprog_in 3 _ (List.mem_of_getElem? (i := 15) rfl)) rfl
theorem bkM_X11_isSound : bchkM bmeth bmjs 3363 = true := by decide +kernel
theorem bkH_X11_isSound : bHead (bm_13 35) ∈ bw_G := bw_in (bprog_in 3 _ (List.mem_of_getElem? (i := 11) rfl)) rfl
theorem bkM_X11_isValueSound : bchkM bmeth bmjs 3364 = true := by decide +kernel
theorem bkH_X11_isValueSound : bHead (bm_13 36) ∈ bw_G := bw_in (bprog_in 4 _ (List.mem_of_getElem? (i := 165) rfl)) rfl
theorem bkM_X11_isWithin : bchkM bmeth bmjs 3365 = true := by decide +kernel
theorem bkH_X11_isWithin : bHead (bm_13 37) ∈ bw_G := bw_in (bprog_in 6 _ (List.mem_of_getElem? (i := 49) rfl)) rfl
theorem bkM_X11_join : bchkM bmeth bmjs 3366 = true := by decide +kernel
theorem bkH_X11_join : bHead (bm_13 38) ∈ bw_G := bw_in (bprog_in 5 _ (List.mem_of_getElem? (i := 220) rfl)) rfl
theorem bkM_X11_judge : bchkM bmeth bmjs 3367 = true := by decide +kernel
