/-! The checks, go on. -/
theorem bkH_X11_checkStatus : bHead (bm_13 18) ∈ bw_G := bw_in (bprog_in 5 _ (List.mem_of_getElem? (i := 141) rfl)) rfl
theorem bkM_X11_checksum : bchkM bmeth bmjs 3347 = true := by decide +kernel
theorem bkH_X11_checksum : bHead (bm_13 19) ∈ bw_G := bw_in (bprog_in 2 _ (List.mem_of_getElem? (i := 223) rfl)) rfl
theorem bkM_X11_combine : bchkM bmeth bmjs 3348 = true := by decide +kernel
theorem bkH_X11_combine : bHead (bm_13 20) ∈ bw_G := bw_in (bprog_in 6 _ (List.mem_of_getElem? (i := 95) rfl)) rfl
theorem bkM_X11_compare : bchkM bmeth bmjs 3349 = true := by decide +kernel
theorem bkH_X11_compare : bHead (bm_13 21) ∈ bw_G := bw_in (bprog_in 6 _ (List.mem_of_getElem? (i := 60) rfl)) rfl
theorem bkM_X11_constant : bchkM bmeth bmjs 3350 = true := by decide +kernel
theorem bkH_X11_constant : bHead (bm_13 22) ∈ bw_G := bw_in (bprog_in 5 _ (List.mem_of_getElem? (i := 211) rfl)) rfl
theorem bkM_X11_decide : bchkM bmeth bmjs 3352 = true := by decide +kernel
theorem bkH_X11_decide : bHead (bm_13 24) ∈ bw_G := bw_in (bprog_in 7 _ (List.mem_of_getElem? (i := 128) rfl)) rfl
theorem bkM_X11_define : bchkM bmeth bmjs 3353 = true := by decide +kernel
theorem bkH_X11_define : bHead (bm_13 25) ∈ bw_G := bw_in (bprog_in 6 _ (List.mem_of_getElem? (i := 168) rfl)) rfl
theorem bkM_X11_digits : bchkM bmeth bmjs 3354 = true := by decide +kernel
theorem bkH_X11_digits : bHead (bm_13 26) ∈ bw_G := bw_in (bprog_in 2 _ (List.mem_of_getElem? (i := 199) rfl)) rfl
theorem bkM_X11_divide : bchkM bmeth bmjs 3355 = true := by decide +kernel
theorem bkH_X11_divide : bHead (bm_13 27) ∈ bw_G := bw_in (bprog_in 6 _ (List.mem_of_getElem? (i := 121) rfl)) rfl
theorem bkM_X11_erase : bchkM bmeth bmjs 3356 = true := by decide +kernel
theorem bkH_X11_erase : bHead (bm_13 28) ∈ bw_G := bw_in (bprog_in 2 _ (List.mem_of_getElem? (i := 203) rfl)) rfl
theorem bkM_X11_fill : bchkM bmeth bmjs 3357 = true := by decide +kernel
theorem bkH_X11_fill : bHead (bm_13 29) ∈ bw_G := bw_in (bprog_in 5 _ (List.mem_of_getElem? (i := 162) rfl)) rfl
theorem bkM_X11_greatest : bchkM bmeth bmjs 3358 = true := by decide +kernel
theorem bkH_X11_greatest : bHead (bm_13 30) ∈ bw_G := bw_in (bprog_in 8 _ (List.mem_of_getElem? (i := 41) rfl)) rfl
theorem bkM_X11_hasY : bchkM bmeth bmjs 3359 = true := by decide +kernel
theorem bkH_X11_hasY : bHead (bm_13 31) ∈ bw_G := bw_in (bprog_in 7 _ (List.mem_of_getElem? (i := 7) rfl)) rfl
theorem bkM_X11_held : bchkM bmeth bmjs 3360 = true := by decide +kernel
theorem bkH_X11_held : bHead (bm_13 32) ∈ bw_G := bw_in (bprog_in 2 _ (List.mem_of_getElem? (i := 211) rfl)) rfl
theorem bkM_X11_high : bchkM bmeth bmjs 3361 = true := by decide +kernel
theorem bkH_X11_high : bHead (bm_13 33) ∈ bw_G := bw_in (bprog_in 6 _ (List.mem_of_getElem? (i := 34) rfl)) rfl
theorem bkM_X11_isConstantSound : bchkM bmeth bmjs 3362 = true := by decide +kernel
theorem bkH_X11_isConstantSound : bHead (bm_13 34) ∈ bw_G := bw_in (bprog_in 3 _ (List.mem_of_getElem? (i := 15) rfl)) rfl
theorem bkM_X11_isSound : bchkM bmeth bmjs 3363 = true := by decide +kernel
theorem bkH_X11_isSound : bHead (bm_13 35) ∈ bw_G := bw_in (bprog_in 3 _ (List.mem_of_getElem? (i := 11) rfl)) rfl
theorem bkM_X11_isWithin : bchkM bmeth bmjs 3365 = true := by decide +kernel
theorem bkH_X11_isWithin : bHead (bm_13 37) ∈ bw_G := bw_in (bprog_in 6 _ (List.mem_of_getElem? (i := 49) rfl)) rfl
theorem bkM_X11_join : bchkM bmeth bmjs 3366 = true := by decide +kernel
theorem bkH_X11_join : bHead (bm_13 38) ∈ bw_G := bw_in (bprog_in 5 _ (List.mem_of_getElem? (i := 220) rfl)) rfl
theorem bkM_X11_least : bchkM bmeth bmjs 3369 = true := by decide +kernel
theorem bkH_X11_least : bHead (bm_13 41) ∈ bw_G := bw_in (bprog_in 8 _ (List.mem_of_getElem? (i := 22) rfl)) rfl
theorem bkM_X11_low : bchkM bmeth bmjs 3370 = true := by decide +kernel
theorem bkH_X11_low : bHead (bm_13 42) ∈ bw_G := bw_in (bprog_in 6 _ (List.mem_of_getElem? (i := 27) rfl)) rfl
theorem bkM_X11_meet : bchkM bmeth bmjs 3374 = true := by decide +kernel
theorem bkH_X11_meet : bHead (bm_13 46) ∈ bw_G := bw_in (bprog_in 6 _ (List.mem_of_getElem? (i := 15) rfl)) rfl
theorem bkM_X11_move : bchkM bmeth bmjs 3375 = true := by decide +kernel
theorem bkH_X11_move : bHead (bm_13 47) ∈ bw_G := bw_in (bprog_in 8 _ (List.mem_of_getElem? (i := 59) rfl)) rfl
theorem bkM_X11_multiply : bchkM bmeth bmjs 3376 = true := by decide +kernel
theorem bkH_X11_multiply : bHead (bm_13 48) ∈ bw_G := bw_in (bprog_in 6 _ (List.mem_of_getElem? (i := 113) rfl)) rfl
theorem bkM_X11_narrow : bchkM bmeth bmjs 3377 = true := by decide +kernel
theorem bkH_X11_narrow : bHead (bm_13 49) ∈ bw_G := bw_in (bprog_in 7 _ (List.mem_of_getElem? (i := 227) rfl)) rfl
theorem bkM_X11_pairs : bchkM bmeth bmjs 3378 = true := by decide +kernel
theorem bkH_X11_pairs : bHead (bm_13 50) ∈ bw_G := bw_in (bprog_in 7 _ (List.mem_of_getElem? (i := 239) rfl)) rfl
theorem bkM_X11_piece : bchkM bmeth bmjs 3379 = true := by decide +kernel
theorem bkH_X11_piece : bHead (bm_13 51) ∈ bw_G := bw_in (bprog_in 7 _ (List.mem_of_getElem? (i := 216) rfl)) rfl
theorem bkM_X11_pieceKind : bchkM bmeth bmjs 3380 = true := by decide +kernel
theorem bkH_X11_pieceKind : bHead (bm_13 52) ∈ bw_G := bw_in (bprog_in 7 _ (List.mem_of_getElem? (i := 196) rfl)) rfl
theorem bkM_X11_power : bchkM bmeth bmjs 3381 = true := by decide +kernel
theorem bkH_X11_power : bHead (bm_13 53) ∈ bw_G := bw_in (bprog_in 6 _ (List.mem_of_getElem? (i := 128) rfl)) rfl
theorem bkM_X11_put : bchkM bmeth bmjs 3382 = true := by decide +kernel
theorem bkH_X11_put : bHead (bm_13 54) ∈ bw_G := bw_in (bprog_in 5 _ (List.mem_of_getElem? (i := 115) rfl)) rfl
theorem bkM_X11_read : bchkM bmeth bmjs 3383 = true := by decide +kernel
theorem bkH_X11_read : bHead (bm_13 55) ∈ bw_G := bw_in (bprog_in 5 _ (List.mem_of_getElem? (i := 175) rfl)) rfl
theorem bkM_X11_root : bchkM bmeth bmjs 3384 = true := by decide +kernel
theorem bkH_X11_root : bHead (bm_13 56) ∈ bw_G := bw_in (bprog_in 6 _ (List.mem_of_getElem? (i := 140) rfl)) rfl
theorem bkM_X11_setDigits : bchkM bmeth bmjs 3386 = true := by decide +kernel
theorem bkH_X11_setDigits : bHead (bm_13 58) ∈ bw_G := bw_in (bprog_in 4 _ (List.mem_of_getElem? (i := 214) rfl)) rfl
theorem bkM_X11_signAt : bchkM bmeth bmjs 3388 = true := by decide +kernel
theorem bkH_X11_signAt : bHead (bm_13 60) ∈ bw_G := bw_in (bprog_in 5 _ (List.mem_of_getElem? (i := 79) rfl)) rfl
theorem bkM_X11_slope : bchkM bmeth bmjs 3389 = true := by decide +kernel
theorem bkH_X11_slope : bHead (bm_13 61) ∈ bw_G := bw_in (bprog_in 7 _ (List.mem_of_getElem? (i := 30) rfl)) rfl
theorem bkM_X11_solve : bchkM bmeth bmjs 3390 = true := by decide +kernel
theorem bkH_X11_solve : bHead (bm_13 62) ∈ bw_G := bw_in (bprog_in 6 _ (List.mem_of_getElem? (i := 156) rfl)) rfl
theorem bkM_X11_subtract : bchkM bmeth bmjs 3391 = true := by decide +kernel
theorem bkH_X11_subtract : bHead (bm_13 63) ∈ bw_G := bw_in (bprog_in 6 _ (List.mem_of_getElem? (i := 106) rfl)) rfl
theorem bkM_X11_sure : bchkM bmeth bmjs 3393 = true := by decide +kernel
theorem bkH_X11_sure : bHead (bm_13 65) ∈ bw_G := bw_in (bprog_in 6 _ (List.mem_of_getElem? (i := 68) rfl)) rfl
theorem bkM_X11_type : bchkM bmeth bmjs 3395 = true := by decide +kernel
