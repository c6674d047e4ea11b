/-! The checks, go on. -/
theorem bkM_X12_isBelow0 : bchkM bmeth bmjs 3629 = true := by decide +kernel
theorem bkH_X12_isBelow0 : bHead (bm_14 45) ∈ bw_G := bw_in (bprog_in 10 _ (List.mem_of_getElem? (i := 80) rfl)) rfl
theorem bkM_X12_isDigit : bchkM bmeth bmjs 3630 = true := by decide +kernel
theorem bkH_X12_isDigit : bHead (bm_14 46) ∈ bw_G := bw_in (bprog_in 9 _ (List.mem_of_getElem? (i := 98) rfl)) rfl
theorem bkM_X12_isFormula : bchkM bmeth bmjs 3631 = true := by decide +kernel
theorem bkH_X12_isFormula : bHead (bm_14 47) ∈ bw_G := bw_in (bprog_in 10 _ (List.mem_of_getElem? (i := 162) rfl)) rfl
theorem bkM_X12_isLess : bchkM bmeth bmjs 3632 = true := by decide +kernel
theorem bkH_X12_isLess : bHead (bm_14 48) ∈ bw_G := bw_in (bprog_in 9 _ (List.mem_of_getElem? (i := 212) rfl)) rfl
theorem bkM_X12_isShelf : bchkM bmeth bmjs 3633 = true := by decide +kernel
theorem bkH_X12_isShelf : bHead (bm_14 49) ∈ bw_G := bw_in (bprog_in 9 _ (List.mem_of_getElem? (i := 15) rfl)) rfl
theorem bkM_X12_isSingle : bchkM bmeth bmjs 3634 = true := by decide +kernel
theorem bkH_X12_isSingle : bHead (bm_14 50) ∈ bw_G := bw_in (bprog_in 9 _ (List.mem_of_getElem? (i := 87) rfl)) rfl
theorem bkM_X12_isSound : bchkM bmeth bmjs 3635 = true := by decide +kernel
theorem bkH_X12_isSound : bHead (bm_14 51) ∈ bw_G := bw_in (bprog_in 11 _ (List.mem_of_getElem? (i := 113) rfl)) rfl
theorem bkM_X12_isTooGreat : bchkM bmeth bmjs 3636 = true := by decide +kernel
theorem bkH_X12_isTooGreat : bHead (bm_14 52) ∈ bw_G := bw_in (bprog_in 9 _ (List.mem_of_getElem? (i := 74) rfl)) rfl
theorem bkM_X12_isWithin : bchkM bmeth bmjs 3637 = true := by decide +kernel
theorem bkH_X12_isWithin : bHead (bm_14 53) ∈ bw_G := bw_in (bprog_in 9 _ (List.mem_of_getElem? (i := 200) rfl)) rfl
theorem bkM_X12_isWithinOf : bchkM bmeth bmjs 3638 = true := by decide +kernel
theorem bkH_X12_isWithinOf : bHead (bm_14 54) ∈ bw_G := bw_in (bprog_in 9 _ (List.mem_of_getElem? (i := 204) rfl)) rfl
theorem bkM_X12_join : bchkM bmeth bmjs 3639 = true := by decide +kernel
theorem bkH_X12_join : bHead (bm_14 55) ∈ bw_G := bw_in (bprog_in 9 _ (List.mem_of_getElem? (i := 152) rfl)) rfl
theorem bkM_X12_joins : bchkM bmeth bmjs 3640 = true := by decide +kernel
theorem bkH_X12_joins : bHead (bm_14 56) ∈ bw_G := bw_in (bprog_in 9 _ (List.mem_of_getElem? (i := 160) rfl)) rfl
theorem bkM_X12_known : bchkM bmeth bmjs 3641 = true := by decide +kernel
theorem bkH_X12_known : bHead (bm_14 57) ∈ bw_G := bw_in (bprog_in 9 _ (List.mem_of_getElem? (i := 106) rfl)) rfl
theorem bkM_X12_least : bchkM bmeth bmjs 3642 = true := by decide +kernel
theorem bkH_X12_least : bHead (bm_14 58) ∈ bw_G := bw_in (bprog_in 11 _ (List.mem_of_getElem? (i := 57) rfl)) rfl
theorem bkM_X12_less : bchkM bmeth bmjs 3643 = true := by decide +kernel
theorem bkH_X12_less : bHead (bm_14 59) ∈ bw_G := bw_in (bprog_in 9 _ (List.mem_of_getElem? (i := 129) rfl)) rfl
theorem bkM_X12_lets : bchkM bmeth bmjs 3644 = true := by decide +kernel
theorem bkH_X12_lets : bHead (bm_14 60) ∈ bw_G := bw_in (bprog_in 9 _ (List.mem_of_getElem? (i := 26) rfl)) rfl
theorem bkM_X12_lifted : bchkM bmeth bmjs 3645 = true := by decide +kernel
theorem bkH_X12_lifted : bHead (bm_14 61) ∈ bw_G := bw_in (bprog_in 10 _ (List.mem_of_getElem? (i := 72) rfl)) rfl
theorem bkM_X12_limb : bchkM bmeth bmjs 3646 = true := by decide +kernel
theorem bkH_X12_limb : bHead (bm_14 62) ∈ bw_G := bw_in (bprog_in 9 _ (List.mem_of_getElem? (i := 42) rfl)) rfl
theorem bkM_X12_logs : bchkM bmeth bmjs 3647 = true := by decide +kernel
theorem bkH_X12_logs : bHead (bm_14 63) ∈ bw_G := bw_in (bprog_in 10 _ (List.mem_of_getElem? (i := 139) rfl)) rfl
theorem bkM_X12_looks : bchkM bmeth bmjs 3648 = true := by decide +kernel
theorem bkH_X12_looks : bHead (bm_14 64) ∈ bw_G := bw_in (bprog_in 11 _ (List.mem_of_getElem? (i := 6) rfl)) rfl
theorem bkM_X12_low_ : bchkM bmeth bmjs 3649 = true := by decide +kernel
theorem bkH_X12_low_ : bHead (bm_14 65) ∈ bw_G := bw_in (bprog_in 9 _ (List.mem_of_getElem? (i := 171) rfl)) rfl
theorem bkM_X12_low : bchkM bmeth bmjs 3650 = true := by decide +kernel
theorem bkH_X12_low : bHead (bm_14 66) ∈ bw_G := bw_in (bprog_in 9 _ (List.mem_of_getElem? (i := 4) rfl)) rfl
theorem bkM_X12_made : bchkM bmeth bmjs 3651 = true := by decide +kernel
theorem bkH_X12_made : bHead (bm_14 67) ∈ bw_G := bw_in (bprog_in 9 _ (List.mem_of_getElem? (i := 231) rfl)) rfl
theorem bkM_X12_makes : bchkM bmeth bmjs 3652 = true := by decide +kernel
theorem bkH_X12_makes : bHead (bm_14 68) ∈ bw_G := bw_in (bprog_in 10 _ (List.mem_of_getElem? (i := 52) rfl)) rfl
theorem bkM_X12_makes_ : bchkM bmeth bmjs 3653 = true := by decide +kernel
theorem bkH_X12_makes_ : bHead (bm_14 69) ∈ bw_G := bw_in (bprog_in 10 _ (List.mem_of_getElem? (i := 210) rfl)) rfl
theorem bkM_X12_meet : bchkM bmeth bmjs 3654 = true := by decide +kernel
theorem bkH_X12_meet : bHead (bm_14 70) ∈ bw_G := bw_in (bprog_in 9 _ (List.mem_of_getElem? (i := 167) rfl)) rfl
theorem bkM_X12_middle : bchkM bmeth bmjs 3655 = true := by decide +kernel
theorem bkH_X12_middle : bHead (bm_14 71) ∈ bw_G := bw_in (bprog_in 11 _ (List.mem_of_getElem? (i := 25) rfl)) rfl
theorem bkM_X12_modulo : bchkM bmeth bmjs 3656 = true := by decide +kernel
theorem bkH_X12_modulo : bHead (bm_14 72) ∈ bw_G := bw_in (bprog_in 9 _ (List.mem_of_getElem? (i := 223) rfl)) rfl
theorem bkM_X12_move : bchkM bmeth bmjs 3657 = true := by decide +kernel
theorem bkH_X12_move : bHead (bm_14 73) ∈ bw_G := bw_in (bprog_in 11 _ (List.mem_of_getElem? (i := 85) rfl)) rfl
theorem bkM_X12_moves : bchkM bmeth bmjs 3658 = true := by decide +kernel
theorem bkH_X12_moves : bHead (bm_14 74) ∈ bw_G := bw_in (bprog_in 11 _ (List.mem_of_getElem? (i := 90) rfl)) rfl
theorem bkM_X12_multiply : bchkM bmeth bmjs 3659 = true := by decide +kernel
theorem bkH_X12_multiply : bHead (bm_14 75) ∈ bw_G := bw_in (bprog_in 10 _ (List.mem_of_getElem? (i := 60) rfl)) rfl
theorem bkM_X12_narrow : bchkM bmeth bmjs 3660 = true := by decide +kernel
theorem bkH_X12_narrow : bHead (bm_14 76) ∈ bw_G := bw_in (bprog_in 11 _ (List.mem_of_getElem? (i := 41) rfl)) rfl
theorem bkM_X12_needsBase : bchkM bmeth bmjs 3661 = true := by decide +kernel
theorem bkH_X12_needsBase : bHead (bm_14 77) ∈ bw_G := bw_in (bprog_in 9 _ (List.mem_of_getElem? (i := 136) rfl)) rfl
theorem bkM_X12_needsLog : bchkM bmeth bmjs 3662 = true := by decide +kernel
theorem bkH_X12_needsLog : bHead (bm_14 78) ∈ bw_G := bw_in (bprog_in 10 _ (List.mem_of_getElem? (i := 143) rfl)) rfl
theorem bkM_X12_needsPi : bchkM bmeth bmjs 3663 = true := by decide +kernel
theorem bkH_X12_needsPi : bHead (bm_14 79) ∈ bw_G := bw_in (bprog_in 9 _ (List.mem_of_getElem? (i := 110) rfl)) rfl
theorem bkM_X12_negative : bchkM bmeth bmjs 3664 = true := by decide +kernel
theorem bkH_X12_negative : bHead (bm_14 80) ∈ bw_G := bw_in (bprog_in 10 _ (List.mem_of_getElem? (i := 109) rfl)) rfl
theorem bkM_X12_noBounds : bchkM bmeth bmjs 3665 = true := by decide +kernel
theorem bkH_X12_noBounds : bHead (bm_14 81) ∈ bw_G := bw_in (bprog_in 11 _ (List.mem_of_getElem? (i := 65) rfl)) rfl
theorem bkM_X12_noBox : bchkM bmeth bmjs 3666 = true := by decide +kernel
theorem bkH_X12_noBox : bHead (bm_14 82) ∈ bw_G := bw_in (bprog_in 9 _ (List.mem_of_getElem? (i := 175) rfl)) rfl
