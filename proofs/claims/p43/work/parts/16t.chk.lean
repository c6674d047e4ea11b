/-! The checks, go on. -/
theorem bkM_X12_area : bchkM bmeth bmjs 3591 = true := by decide +kernel
theorem bkH_X12_area : bHead (bm_14 7) ∈ bw_G := bw_in (bprog_in 11 _ (List.mem_of_getElem? (i := 77) rfl)) rfl
theorem bkM_X12_areas : bchkM bmeth bmjs 3592 = true := by decide +kernel
theorem bkH_X12_areas : bHead (bm_14 8) ∈ bw_G := bw_in (bprog_in 11 _ (List.mem_of_getElem? (i := 81) rfl)) rfl
theorem bkM_X12_becomes : bchkM bmeth bmjs 3593 = true := by decide +kernel
theorem bkH_X12_becomes : bHead (bm_14 9) ∈ bw_G := bw_in (bprog_in 9 _ (List.mem_of_getElem? (i := 79) rfl)) rfl
theorem bkM_X12_bounds : bchkM bmeth bmjs 3594 = true := by decide +kernel
theorem bkH_X12_bounds : bHead (bm_14 10) ∈ bw_G := bw_in (bprog_in 11 _ (List.mem_of_getElem? (i := 61) rfl)) rfl
theorem bkM_X12_canBe0 : bchkM bmeth bmjs 3595 = true := by decide +kernel
theorem bkH_X12_canBe0 : bHead (bm_14 11) ∈ bw_G := bw_in (bprog_in 11 _ (List.mem_of_getElem? (i := 53) rfl)) rfl
theorem bkM_X12_canCut : bchkM bmeth bmjs 3596 = true := by decide +kernel
theorem bkH_X12_canCut : bHead (bm_14 12) ∈ bw_G := bw_in (bprog_in 11 _ (List.mem_of_getElem? (i := 21) rfl)) rfl
theorem bkM_X12_checksum : bchkM bmeth bmjs 3597 = true := by decide +kernel
theorem bkH_X12_checksum : bHead (bm_14 13) ∈ bw_G := bw_in (bprog_in 11 _ (List.mem_of_getElem? (i := 103) rfl)) rfl
theorem bkM_X12_compare : bchkM bmeth bmjs 3598 = true := by decide +kernel
theorem bkH_X12_compare : bHead (bm_14 14) ∈ bw_G := bw_in (bprog_in 9 _ (List.mem_of_getElem? (i := 208) rfl)) rfl
theorem bkM_X12_compares : bchkM bmeth bmjs 3599 = true := by decide +kernel
theorem bkH_X12_compares : bHead (bm_14 15) ∈ bw_G := bw_in (bprog_in 10 _ (List.mem_of_getElem? (i := 36) rfl)) rfl
theorem bkM_X12_constant : bchkM bmeth bmjs 3600 = true := by decide +kernel
theorem bkH_X12_constant : bHead (bm_14 16) ∈ bw_G := bw_in (bprog_in 9 _ (List.mem_of_getElem? (i := 102) rfl)) rfl
theorem bkM_X12_copies : bchkM bmeth bmjs 3601 = true := by decide +kernel
theorem bkH_X12_copies : bHead (bm_14 17) ∈ bw_G := bw_in (bprog_in 9 _ (List.mem_of_getElem? (i := 38) rfl)) rfl
theorem bkM_X12_crossed : bchkM bmeth bmjs 3602 = true := by decide +kernel
theorem bkH_X12_crossed : bHead (bm_14 18) ∈ bw_G := bw_in (bprog_in 10 _ (List.mem_of_getElem? (i := 155) rfl)) rfl
theorem bkM_X12_cutsInto : bchkM bmeth bmjs 3603 = true := by decide +kernel
theorem bkH_X12_cutsInto : bHead (bm_14 19) ∈ bw_G := bw_in (bprog_in 11 _ (List.mem_of_getElem? (i := 49) rfl)) rfl
theorem bkM_X12_decide : bchkM bmeth bmjs 3604 = true := by decide +kernel
theorem bkH_X12_decide : bHead (bm_14 20) ∈ bw_G := bw_in (bprog_in 10 _ (List.mem_of_getElem? (i := 234) rfl)) rfl
theorem bkM_X12_deep : bchkM bmeth bmjs 3605 = true := by decide +kernel
theorem bkH_X12_deep : bHead (bm_14 21) ∈ bw_G := bw_in (bprog_in 9 _ (List.mem_of_getElem? (i := 148) rfl)) rfl
theorem bkM_X12_define : bchkM bmeth bmjs 3606 = true := by decide +kernel
theorem bkH_X12_define : bHead (bm_14 22) ∈ bw_G := bw_in (bprog_in 10 _ (List.mem_of_getElem? (i := 159) rfl)) rfl
theorem bkM_X12_difference : bchkM bmeth bmjs 3607 = true := by decide +kernel
theorem bkH_X12_difference : bHead (bm_14 23) ∈ bw_G := bw_in (bprog_in 10 _ (List.mem_of_getElem? (i := 7) rfl)) rfl
theorem bkM_X12_digits : bchkM bmeth bmjs 3608 = true := by decide +kernel
theorem bkH_X12_digits : bHead (bm_14 24) ∈ bw_G := bw_in (bprog_in 8 _ (List.mem_of_getElem? (i := 224) rfl)) rfl
theorem bkM_X12_divide : bchkM bmeth bmjs 3609 = true := by decide +kernel
theorem bkH_X12_divide : bHead (bm_14 25) ∈ bw_G := bw_in (bprog_in 10 _ (List.mem_of_getElem? (i := 64) rfl)) rfl
theorem bkM_X12_divides : bchkM bmeth bmjs 3610 = true := by decide +kernel
theorem bkH_X12_divides : bHead (bm_14 26) ∈ bw_G := bw_in (bprog_in 10 _ (List.mem_of_getElem? (i := 31) rfl)) rfl
theorem bkM_X12_ends : bchkM bmeth bmjs 3611 = true := by decide +kernel
theorem bkH_X12_ends : bHead (bm_14 27) ∈ bw_G := bw_in (bprog_in 11 _ (List.mem_of_getElem? (i := 14) rfl)) rfl
theorem bkM_X12_erase : bchkM bmeth bmjs 3612 = true := by decide +kernel
theorem bkH_X12_erase : bHead (bm_14 28) ∈ bw_G := bw_in (bprog_in 8 _ (List.mem_of_getElem? (i := 232) rfl)) rfl
theorem bkM_X12_extreme : bchkM bmeth bmjs 3613 = true := by decide +kernel
theorem bkH_X12_extreme : bHead (bm_14 29) ∈ bw_G := bw_in (bprog_in 11 _ (List.mem_of_getElem? (i := 69) rfl)) rfl
theorem bkM_X12_fails : bchkM bmeth bmjs 3614 = true := by decide +kernel
theorem bkH_X12_fails : bHead (bm_14 30) ∈ bw_G := bw_in (bprog_in 8 _ (List.mem_of_getElem? (i := 220) rfl)) rfl
theorem bkM_X12_faults : bchkM bmeth bmjs 3615 = true := by decide +kernel
theorem bkH_X12_faults : bHead (bm_14 31) ∈ bw_G := bw_in (bprog_in 10 _ (List.mem_of_getElem? (i := 190) rfl)) rfl
theorem bkM_X12_four : bchkM bmeth bmjs 3616 = true := by decide +kernel
theorem bkH_X12_four : bHead (bm_14 32) ∈ bw_G := bw_in (bprog_in 10 _ (List.mem_of_getElem? (i := 19) rfl)) rfl
theorem bkM_X12_greatest : bchkM bmeth bmjs 3617 = true := by decide +kernel
theorem bkH_X12_greatest : bHead (bm_14 33) ∈ bw_G := bw_in (bprog_in 11 _ (List.mem_of_getElem? (i := 73) rfl)) rfl
theorem bkM_X12_half : bchkM bmeth bmjs 3618 = true := by decide +kernel
theorem bkH_X12_half : bHead (bm_14 34) ∈ bw_G := bw_in (bprog_in 11 _ (List.mem_of_getElem? (i := 29) rfl)) rfl
theorem bkM_X12_hasY : bchkM bmeth bmjs 3619 = true := by decide +kernel
theorem bkH_X12_hasY : bHead (bm_14 35) ∈ bw_G := bw_in (bprog_in 10 _ (List.mem_of_getElem? (i := 198) rfl)) rfl
theorem bkM_X12_hasYOf : bchkM bmeth bmjs 3620 = true := by decide +kernel
theorem bkH_X12_hasYOf : bHead (bm_14 36) ∈ bw_G := bw_in (bprog_in 10 _ (List.mem_of_getElem? (i := 202) rfl)) rfl
theorem bkM_X12_held : bchkM bmeth bmjs 3621 = true := by decide +kernel
theorem bkH_X12_held : bHead (bm_14 37) ∈ bw_G := bw_in (bprog_in 11 _ (List.mem_of_getElem? (i := 99) rfl)) rfl
theorem bkM_X12_high_ : bchkM bmeth bmjs 3622 = true := by decide +kernel
theorem bkH_X12_high_ : bHead (bm_14 38) ∈ bw_G := bw_in (bprog_in 9 _ (List.mem_of_getElem? (i := 188) rfl)) rfl
theorem bkM_X12_high : bchkM bmeth bmjs 3623 = true := by decide +kernel
theorem bkH_X12_high : bHead (bm_14 39) ∈ bw_G := bw_in (bprog_in 9 _ (List.mem_of_getElem? (i := 8) rfl)) rfl
theorem bkM_X12_holds0 : bchkM bmeth bmjs 3624 = true := by decide +kernel
theorem bkH_X12_holds0 : bHead (bm_14 40) ∈ bw_G := bw_in (bprog_in 10 _ (List.mem_of_getElem? (i := 44) rfl)) rfl
theorem bkM_X12_holdsNothing : bchkM bmeth bmjs 3625 = true := by decide +kernel
theorem bkH_X12_holdsNothing : bHead (bm_14 41) ∈ bw_G := bw_in (bprog_in 10 _ (List.mem_of_getElem? (i := 48) rfl)) rfl
theorem bkM_X12_in : bchkM bmeth bmjs 3626 = true := by decide +kernel
theorem bkH_X12_in : bHead (bm_14 42) ∈ bw_G := bw_in (bprog_in 8 _ (List.mem_of_getElem? (i := 216) rfl)) rfl
theorem bkM_X12_isAbove0 : bchkM bmeth bmjs 3627 = true := by decide +kernel
theorem bkH_X12_isAbove0 : bHead (bm_14 43) ∈ bw_G := bw_in (bprog_in 10 _ (List.mem_of_getElem? (i := 125) rfl)) rfl
theorem bkM_X12_isBelow : bchkM bmeth bmjs 3628 = true := by decide +kernel
theorem bkH_X12_isBelow : bHead (bm_14 44) ∈ bw_G := bw_in (bprog_in 10 _ (List.mem_of_getElem? (i := 84) rfl)) rfl
