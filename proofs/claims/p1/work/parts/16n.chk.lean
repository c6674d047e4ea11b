/-! The checks, go on. -/
theorem bkM_X12_high : bchkM bmeth bmjs 3623 = true := by decide +kernel
theorem bkH_X12_high : bHead (bm_14 39) ∈ bw_G := bw_in (bprog_in 9 _ (List.mem_of_getElem? (i := 12) rfl)) rfl
theorem bkM_X12_in : bchkM bmeth bmjs 3626 = true := by decide +kernel
theorem bkH_X12_in : bHead (bm_14 42) ∈ bw_G := bw_in (bprog_in 8 _ (List.mem_of_getElem? (i := 220) rfl)) rfl
theorem bkM_X12_isDigit : bchkM bmeth bmjs 3630 = true := by decide +kernel
theorem bkH_X12_isDigit : bHead (bm_14 46) ∈ bw_G := bw_in (bprog_in 9 _ (List.mem_of_getElem? (i := 102) rfl)) rfl
theorem bkM_X12_isFormula : bchkM bmeth bmjs 3631 = true := by decide +kernel
theorem bkH_X12_isFormula : bHead (bm_14 47) ∈ bw_G := bw_in (bprog_in 10 _ (List.mem_of_getElem? (i := 166) rfl)) rfl
theorem bkM_X12_isShelf : bchkM bmeth bmjs 3633 = true := by decide +kernel
theorem bkH_X12_isShelf : bHead (bm_14 49) ∈ bw_G := bw_in (bprog_in 9 _ (List.mem_of_getElem? (i := 19) rfl)) rfl
theorem bkM_X12_isSingle : bchkM bmeth bmjs 3634 = true := by decide +kernel
theorem bkH_X12_isSingle : bHead (bm_14 50) ∈ bw_G := bw_in (bprog_in 9 _ (List.mem_of_getElem? (i := 91) rfl)) rfl
theorem bkM_X12_isSound : bchkM bmeth bmjs 3635 = true := by decide +kernel
theorem bkH_X12_isSound : bHead (bm_14 51) ∈ bw_G := bw_in (bprog_in 11 _ (List.mem_of_getElem? (i := 117) rfl)) rfl
theorem bkM_X12_isTooGreat : bchkM bmeth bmjs 3636 = true := by decide +kernel
theorem bkH_X12_isTooGreat : bHead (bm_14 52) ∈ bw_G := bw_in (bprog_in 9 _ (List.mem_of_getElem? (i := 78) rfl)) rfl
theorem bkM_X12_isWithin : bchkM bmeth bmjs 3637 = true := by decide +kernel
theorem bkH_X12_isWithin : bHead (bm_14 53) ∈ bw_G := bw_in (bprog_in 9 _ (List.mem_of_getElem? (i := 204) rfl)) rfl
theorem bkM_X12_join : bchkM bmeth bmjs 3639 = true := by decide +kernel
theorem bkH_X12_join : bHead (bm_14 55) ∈ bw_G := bw_in (bprog_in 9 _ (List.mem_of_getElem? (i := 156) rfl)) rfl
theorem bkM_X12_known : bchkM bmeth bmjs 3641 = true := by decide +kernel
theorem bkH_X12_known : bHead (bm_14 57) ∈ bw_G := bw_in (bprog_in 9 _ (List.mem_of_getElem? (i := 110) rfl)) rfl
theorem bkM_X12_least : bchkM bmeth bmjs 3642 = true := by decide +kernel
theorem bkH_X12_least : bHead (bm_14 58) ∈ bw_G := bw_in (bprog_in 11 _ (List.mem_of_getElem? (i := 61) rfl)) rfl
theorem bkM_X12_less : bchkM bmeth bmjs 3643 = true := by decide +kernel
theorem bkH_X12_less : bHead (bm_14 59) ∈ bw_G := bw_in (bprog_in 9 _ (List.mem_of_getElem? (i := 133) rfl)) rfl
theorem bkM_X12_lets : bchkM bmeth bmjs 3644 = true := by decide +kernel
theorem bkH_X12_lets : bHead (bm_14 60) ∈ bw_G := bw_in (bprog_in 9 _ (List.mem_of_getElem? (i := 30) rfl)) rfl
theorem bkM_X12_limb : bchkM bmeth bmjs 3646 = true := by decide +kernel
theorem bkH_X12_limb : bHead (bm_14 62) ∈ bw_G := bw_in (bprog_in 9 _ (List.mem_of_getElem? (i := 46) rfl)) rfl
theorem bkM_X12_low_ : bchkM bmeth bmjs 3649 = true := by decide +kernel
theorem bkH_X12_low_ : bHead (bm_14 65) ∈ bw_G := bw_in (bprog_in 9 _ (List.mem_of_getElem? (i := 175) rfl)) rfl
theorem bkM_X12_low : bchkM bmeth bmjs 3650 = true := by decide +kernel
theorem bkH_X12_low : bHead (bm_14 66) ∈ bw_G := bw_in (bprog_in 9 _ (List.mem_of_getElem? (i := 8) rfl)) rfl
theorem bkM_X12_makes_ : bchkM bmeth bmjs 3653 = true := by decide +kernel
theorem bkH_X12_makes_ : bHead (bm_14 69) ∈ bw_G := bw_in (bprog_in 10 _ (List.mem_of_getElem? (i := 214) rfl)) rfl
theorem bkM_X12_meet : bchkM bmeth bmjs 3654 = true := by decide +kernel
theorem bkH_X12_meet : bHead (bm_14 70) ∈ bw_G := bw_in (bprog_in 9 _ (List.mem_of_getElem? (i := 171) rfl)) rfl
theorem bkM_X12_move : bchkM bmeth bmjs 3657 = true := by decide +kernel
theorem bkH_X12_move : bHead (bm_14 73) ∈ bw_G := bw_in (bprog_in 11 _ (List.mem_of_getElem? (i := 89) rfl)) rfl
theorem bkM_X12_multiply : bchkM bmeth bmjs 3659 = true := by decide +kernel
theorem bkH_X12_multiply : bHead (bm_14 75) ∈ bw_G := bw_in (bprog_in 10 _ (List.mem_of_getElem? (i := 64) rfl)) rfl
theorem bkM_X12_narrow : bchkM bmeth bmjs 3660 = true := by decide +kernel
theorem bkH_X12_narrow : bHead (bm_14 76) ∈ bw_G := bw_in (bprog_in 11 _ (List.mem_of_getElem? (i := 45) rfl)) rfl
theorem bkM_X12_needsBase : bchkM bmeth bmjs 3661 = true := by decide +kernel
theorem bkH_X12_needsBase : bHead (bm_14 77) ∈ bw_G := bw_in (bprog_in 9 _ (List.mem_of_getElem? (i := 140) rfl)) rfl
theorem bkM_X12_needsPi : bchkM bmeth bmjs 3663 = true := by decide +kernel
theorem bkH_X12_needsPi : bHead (bm_14 79) ∈ bw_G := bw_in (bprog_in 9 _ (List.mem_of_getElem? (i := 114) rfl)) rfl
theorem bkM_X12_noBounds : bchkM bmeth bmjs 3665 = true := by decide +kernel
theorem bkH_X12_noBounds : bHead (bm_14 81) ∈ bw_G := bw_in (bprog_in 11 _ (List.mem_of_getElem? (i := 69) rfl)) rfl
theorem bkM_X12_noBox : bchkM bmeth bmjs 3666 = true := by decide +kernel
theorem bkH_X12_noBox : bHead (bm_14 82) ∈ bw_G := bw_in (bprog_in 9 _ (List.mem_of_getElem? (i := 179) rfl)) rfl
theorem bkM_X12_noLook : bchkM bmeth bmjs 3667 = true := by decide +kernel
theorem bkH_X12_noLook : bHead (bm_14 83) ∈ bw_G := bw_in (bprog_in 11 _ (List.mem_of_getElem? (i := 6) rfl)) rfl
theorem bkM_X12_noPair : bchkM bmeth bmjs 3668 = true := by decide +kernel
theorem bkH_X12_noPair : bHead (bm_14 84) ∈ bw_G := bw_in (bprog_in 9 _ (List.mem_of_getElem? (i := 160) rfl)) rfl
theorem bkM_X12_number : bchkM bmeth bmjs 3669 = true := by decide +kernel
theorem bkH_X12_number : bHead (bm_14 85) ∈ bw_G := bw_in (bprog_in 9 _ (List.mem_of_getElem? (i := 38) rfl)) rfl
theorem bkM_X12_odds : bchkM bmeth bmjs 3670 = true := by decide +kernel
theorem bkH_X12_odds : bHead (bm_14 86) ∈ bw_G := bw_in (bprog_in 9 _ (List.mem_of_getElem? (i := 119) rfl)) rfl
theorem bkM_X12_pairs : bchkM bmeth bmjs 3674 = true := by decide +kernel
theorem bkH_X12_pairs : bHead (bm_14 90) ∈ bw_G := bw_in (bprog_in 11 _ (List.mem_of_getElem? (i := 49) rfl)) rfl
theorem bkM_X12_parts : bchkM bmeth bmjs 3676 = true := by decide +kernel
theorem bkH_X12_parts : bHead (bm_14 92) ∈ bw_G := bw_in (bprog_in 9 _ (List.mem_of_getElem? (i := 61) rfl)) rfl
theorem bkM_X12_piece : bchkM bmeth bmjs 3677 = true := by decide +kernel
theorem bkH_X12_piece : bHead (bm_14 93) ∈ bw_G := bw_in (bprog_in 11 _ (List.mem_of_getElem? (i := 41) rfl)) rfl
theorem bkM_X12_pieceKind : bchkM bmeth bmjs 3678 = true := by decide +kernel
theorem bkH_X12_pieceKind : bHead (bm_14 94) ∈ bw_G := bw_in (bprog_in 11 _ (List.mem_of_getElem? (i := 37) rfl)) rfl
theorem bkM_X12_plus : bchkM bmeth bmjs 3679 = true := by decide +kernel
theorem bkH_X12_plus : bHead (bm_14 95) ∈ bw_G := bw_in (bprog_in 9 _ (List.mem_of_getElem? (i := 69) rfl)) rfl
theorem bkM_X12_power : bchkM bmeth bmjs 3680 = true := by decide +kernel
theorem bkH_X12_power : bHead (bm_14 96) ∈ bw_G := bw_in (bprog_in 10 _ (List.mem_of_getElem? (i := 72) rfl)) rfl
theorem bkM_X12_put : bchkM bmeth bmjs 3683 = true := by decide +kernel
theorem bkH_X12_put : bHead (bm_14 99) ∈ bw_G := bw_in (bprog_in 9 _ (List.mem_of_getElem? (i := 16) rfl)) rfl
theorem bkM_X12_read : bchkM bmeth bmjs 3686 = true := by decide +kernel
theorem bkH_X12_read : bHead (bm_14 102) ∈ bw_G := bw_in (bprog_in 9 _ (List.mem_of_getElem? (i := 95) rfl)) rfl
