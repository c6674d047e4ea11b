/-! The checks, go on. -/
theorem bkH_X11_add : bHead (bm_13 1) ∈ bw_G := sorry
theorem bkM_X11_apply : bchkM bmeth bmjs 3330 = true := sorry
theorem bkH_X11_apply : bHead (bm_13 2) ∈ bw_G := sorry
theorem bkM_X11_area : bchkM bmeth bmjs 3331 = true := sorry
theorem bkH_X11_area : bHead (bm_13 3) ∈ bw_G := sorry
theorem bkM_X11_become : bchkM bmeth bmjs 3332 = true := sorry
theorem bkH_X11_become : bHead (bm_13 4) ∈ bw_G := sorry
theorem bkM_X11_canBeZero : bchkM bmeth bmjs 3333 = true := sorry
theorem bkH_X11_canBeZero : bHead (bm_13 5) ∈ bw_G := sorry
theorem bkM_X11_change : bchkM bmeth bmjs 3334 = true := sorry
theorem bkH_X11_change : bHead (bm_13 6) ∈ bw_G := sorry
theorem bkM_X11_checkBoundsCall : bchkM bmeth bmjs 3335 = true := sorry
theorem bkH_X11_checkBoundsCall : bHead (bm_13 7) ∈ bw_G := sorry
theorem bkM_X11_checkCuts : bchkM bmeth bmjs 3336 = true := sorry
theorem bkH_X11_checkCuts : bHead (bm_13 8) ∈ bw_G := sorry
theorem bkM_X11_checkDefined : bchkM bmeth bmjs 3337 = true := sorry
theorem bkH_X11_checkDefined : bHead (bm_13 9) ∈ bw_G := sorry
theorem bkM_X11_checkFormula : bchkM bmeth bmjs 3338 = true := sorry
theorem bkH_X11_checkFormula : bHead (bm_13 10) ∈ bw_G := sorry
theorem bkM_X11_checkFormulaCall : bchkM bmeth bmjs 3339 = true := sorry
theorem bkH_X11_checkFormulaCall : bHead (bm_13 11) ∈ bw_G := sorry
theorem bkM_X11_checkHeld : bchkM bmeth bmjs 3340 = true := sorry
theorem bkH_X11_checkHeld : bHead (bm_13 12) ∈ bw_G := sorry
theorem bkM_X11_checkNoY : bchkM bmeth bmjs 3341 = true := sorry
theorem bkH_X11_checkNoY : bHead (bm_13 13) ∈ bw_G := sorry
theorem bkM_X11_checkPair : bchkM bmeth bmjs 3342 = true := sorry
theorem bkH_X11_checkPair : bHead (bm_13 14) ∈ bw_G := sorry
theorem bkM_X11_checkPiece : bchkM bmeth bmjs 3343 = true := sorry
theorem bkH_X11_checkPiece : bHead (bm_13 15) ∈ bw_G := sorry
theorem bkM_X11_checkShelf : bchkM bmeth bmjs 3344 = true := sorry
theorem bkH_X11_checkShelf : bHead (bm_13 16) ∈ bw_G := sorry
theorem bkM_X11_checkShelves : bchkM bmeth bmjs 3345 = true := sorry
theorem bkH_X11_checkShelves : bHead (bm_13 17) ∈ bw_G := sorry
theorem bkM_X11_checkStatus : bchkM bmeth bmjs 3346 = true := sorry
theorem bkH_X11_checkStatus : bHead (bm_13 18) ∈ bw_G := sorry
theorem bkM_X11_checksum : bchkM bmeth bmjs 3347 = true := sorry
theorem bkH_X11_checksum : bHead (bm_13 19) ∈ bw_G := sorry
theorem bkM_X11_combine : bchkM bmeth bmjs 3348 = true := sorry
theorem bkH_X11_combine : bHead (bm_13 20) ∈ bw_G := sorry
theorem bkM_X11_compare : bchkM bmeth bmjs 3349 = true := sorry
theorem bkH_X11_compare : bHead (bm_13 21) ∈ bw_G := sorry
theorem bkM_X11_constant : bchkM bmeth bmjs 3350 = true := sorry
theorem bkH_X11_constant : bHead (bm_13 22) ∈ bw_G := sorry
theorem bkM_X11_crossed : bchkM bmeth bmjs 3351 = true := sorry
theorem bkH_X11_crossed : bHead (bm_13 23) ∈ bw_G := sorry
theorem bkM_X11_decide : bchkM bmeth bmjs 3352 = true := sorry
theorem bkH_X11_decide : bHead (bm_13 24) ∈ bw_G := sorry
theorem bkM_X11_define : bchkM bmeth bmjs 3353 = true := sorry
theorem bkH_X11_define : bHead (bm_13 25) ∈ bw_G := sorry
theorem bkM_X11_digits : bchkM bmeth bmjs 3354 = true := sorry
theorem bkH_X11_digits : bHead (bm_13 26) ∈ bw_G := sorry
theorem bkM_X11_divide : bchkM bmeth bmjs 3355 = true := sorry
theorem bkH_X11_divide : bHead (bm_13 27) ∈ bw_G := sorry
theorem bkM_X11_erase : bchkM bmeth bmjs 3356 = true := sorry
theorem bkH_X11_erase : bHead (bm_13 28) ∈ bw_G := sorry
theorem bkM_X11_fill : bchkM bmeth bmjs 3357 = true := sorry
theorem bkH_X11_fill : bHead (bm_13 29) ∈ bw_G := sorry
theorem bkM_X11_greatest : bchkM bmeth bmjs 3358 = true := sorry
theorem bkH_X11_greatest : bHead (bm_13 30) ∈ bw_G := sorry
theorem bkM_X11_hasY : bchkM bmeth bmjs 3359 = true := sorry
theorem bkH_X11_hasY : bHead (bm_13 31) ∈ bw_G := sorry
theorem bkM_X11_held : bchkM bmeth bmjs 3360 = true := sorry
theorem bkH_X11_held : bHead (bm_13 32) ∈ bw_G := sorry
theorem bkM_X11_high : bchkM bmeth bmjs 3361 = true := sorry
theorem bkH_X11_high : bHead (bm_13 33) ∈ bw_G := sorry
theorem bkM_X11_isConstantSound : bchkM bmeth bmjs 3362 = true := sorry
theorem bkH_X11_isConstantSound : bHead (bm_13 34) ∈ bw_G := sorry
theorem bkM_X11_isSound : bchkM bmeth bmjs 3363 = true := sorry
theorem bkH_X11_isSound : bHead (bm_13 35) ∈ bw_G := sorry
theorem bkM_X11_isValueSound : bchkM bmeth bmjs 3364 = true := sorry
theorem bkH_X11_isValueSound : bHead (bm_13 36) ∈ bw_G := sorry
theorem bkM_X11_isWithin : bchkM bmeth bmjs 3365 = true := sorry
theorem bkH_X11_isWithin : bHead (bm_13 37) ∈ bw_G := sorry
theorem bkM_X11_join : bchkM bmeth bmjs 3366 = true := sorry
theorem bkH_X11_join : bHead (bm_13 38) ∈ bw_G := sorry
theorem bkM_X11_judge : bchkM bmeth bmjs 3367 = true := sorry
