/-! The checks, go on. -/
theorem bkM_X12_noLook : bchkM bmeth bmjs 3667 = true := by decide +kernel
theorem bkH_X12_noLook : bHead (bm_14 83) ∈ bw_G := bw_in (bprog_in 11 _ (List.mem_of_getElem? (i := 2) rfl)) rfl
theorem bkM_X12_noPair : bchkM bmeth bmjs 3668 = true := by decide +kernel
theorem bkH_X12_noPair : bHead (bm_14 84) ∈ bw_G := bw_in (bprog_in 9 _ (List.mem_of_getElem? (i := 156) rfl)) rfl
theorem bkM_X12_number : bchkM bmeth bmjs 3669 = true := by decide +kernel
theorem bkH_X12_number : bHead (bm_14 85) ∈ bw_G := bw_in (bprog_in 9 _ (List.mem_of_getElem? (i := 34) rfl)) rfl
theorem bkM_X12_odds : bchkM bmeth bmjs 3670 = true := by decide +kernel
theorem bkH_X12_odds : bHead (bm_14 86) ∈ bw_G := bw_in (bprog_in 9 _ (List.mem_of_getElem? (i := 115) rfl)) rfl
theorem bkM_X12_order : bchkM bmeth bmjs 3671 = true := by decide +kernel
theorem bkH_X12_order : bHead (bm_14 87) ∈ bw_G := bw_in (bprog_in 9 _ (List.mem_of_getElem? (i := 163) rfl)) rfl
theorem bkM_X12_outward : bchkM bmeth bmjs 3672 = true := by decide +kernel
theorem bkH_X12_outward : bHead (bm_14 88) ∈ bw_G := bw_in (bprog_in 11 _ (List.mem_of_getElem? (i := 95) rfl)) rfl
theorem bkM_X12_pair : bchkM bmeth bmjs 3673 = true := by decide +kernel
theorem bkH_X12_pair : bHead (bm_14 89) ∈ bw_G := bw_in (bprog_in 10 _ (List.mem_of_getElem? (i := 23) rfl)) rfl
theorem bkM_X12_pairs : bchkM bmeth bmjs 3674 = true := by decide +kernel
theorem bkH_X12_pairs : bHead (bm_14 90) ∈ bw_G := bw_in (bprog_in 11 _ (List.mem_of_getElem? (i := 45) rfl)) rfl
theorem bkM_X12_part : bchkM bmeth bmjs 3675 = true := by decide +kernel
theorem bkH_X12_part : bHead (bm_14 91) ∈ bw_G := bw_in (bprog_in 10 _ (List.mem_of_getElem? (i := 194) rfl)) rfl
theorem bkM_X12_parts : bchkM bmeth bmjs 3676 = true := by decide +kernel
theorem bkH_X12_parts : bHead (bm_14 92) ∈ bw_G := bw_in (bprog_in 9 _ (List.mem_of_getElem? (i := 57) rfl)) rfl
theorem bkM_X12_piece : bchkM bmeth bmjs 3677 = true := by decide +kernel
theorem bkH_X12_piece : bHead (bm_14 93) ∈ bw_G := bw_in (bprog_in 11 _ (List.mem_of_getElem? (i := 37) rfl)) rfl
theorem bkM_X12_pieceKind : bchkM bmeth bmjs 3678 = true := by decide +kernel
theorem bkH_X12_pieceKind : bHead (bm_14 94) ∈ bw_G := bw_in (bprog_in 11 _ (List.mem_of_getElem? (i := 33) rfl)) rfl
theorem bkM_X12_plus : bchkM bmeth bmjs 3679 = true := by decide +kernel
theorem bkH_X12_plus : bHead (bm_14 95) ∈ bw_G := bw_in (bprog_in 9 _ (List.mem_of_getElem? (i := 65) rfl)) rfl
theorem bkM_X12_power : bchkM bmeth bmjs 3680 = true := by decide +kernel
theorem bkH_X12_power : bHead (bm_14 96) ∈ bw_G := bw_in (bprog_in 10 _ (List.mem_of_getElem? (i := 68) rfl)) rfl
theorem bkM_X12_powers : bchkM bmeth bmjs 3681 = true := by decide +kernel
theorem bkH_X12_powers : bHead (bm_14 97) ∈ bw_G := bw_in (bprog_in 10 _ (List.mem_of_getElem? (i := 88) rfl)) rfl
theorem bkM_X12_product : bchkM bmeth bmjs 3682 = true := by decide +kernel
theorem bkH_X12_product : bHead (bm_14 98) ∈ bw_G := bw_in (bprog_in 10 _ (List.mem_of_getElem? (i := 15) rfl)) rfl
theorem bkM_X12_put : bchkM bmeth bmjs 3683 = true := by decide +kernel
theorem bkH_X12_put : bHead (bm_14 99) ∈ bw_G := bw_in (bprog_in 9 _ (List.mem_of_getElem? (i := 12) rfl)) rfl
theorem bkM_X12_quotient : bchkM bmeth bmjs 3684 = true := by decide +kernel
theorem bkH_X12_quotient : bHead (bm_14 100) ∈ bw_G := bw_in (bprog_in 10 _ (List.mem_of_getElem? (i := 40) rfl)) rfl
theorem bkM_X12_raises : bchkM bmeth bmjs 3685 = true := by decide +kernel
theorem bkH_X12_raises : bHead (bm_14 101) ∈ bw_G := bw_in (bprog_in 10 _ (List.mem_of_getElem? (i := 133) rfl)) rfl
theorem bkM_X12_read : bchkM bmeth bmjs 3686 = true := by decide +kernel
theorem bkH_X12_read : bHead (bm_14 102) ∈ bw_G := bw_in (bprog_in 9 _ (List.mem_of_getElem? (i := 91) rfl)) rfl
theorem bkM_X12_readAtom : bchkM bmeth bmjs 3687 = true := by decide +kernel
theorem bkH_X12_readAtom : bHead (bm_14 103) ∈ bw_G := bw_in (bprog_in 10 _ (List.mem_of_getElem? (i := 178) rfl)) rfl
theorem bkM_X12_readNumber : bchkM bmeth bmjs 3688 = true := by decide +kernel
theorem bkH_X12_readNumber : bHead (bm_14 104) ∈ bw_G := bw_in (bprog_in 10 _ (List.mem_of_getElem? (i := 186) rfl)) rfl
theorem bkM_X12_readPower : bchkM bmeth bmjs 3689 = true := by decide +kernel
theorem bkH_X12_readPower : bHead (bm_14 105) ∈ bw_G := bw_in (bprog_in 10 _ (List.mem_of_getElem? (i := 174) rfl)) rfl
theorem bkM_X12_readProduct : bchkM bmeth bmjs 3690 = true := by decide +kernel
theorem bkH_X12_readProduct : bHead (bm_14 106) ∈ bw_G := bw_in (bprog_in 10 _ (List.mem_of_getElem? (i := 170) rfl)) rfl
theorem bkM_X12_readSum : bchkM bmeth bmjs 3691 = true := by decide +kernel
theorem bkH_X12_readSum : bHead (bm_14 107) ∈ bw_G := bw_in (bprog_in 10 _ (List.mem_of_getElem? (i := 166) rfl)) rfl
theorem bkM_X12_rises : bchkM bmeth bmjs 3692 = true := by decide +kernel
theorem bkH_X12_rises : bHead (bm_14 108) ∈ bw_G := bw_in (bprog_in 10 _ (List.mem_of_getElem? (i := 129) rfl)) rfl
theorem bkM_X12_rising : bchkM bmeth bmjs 3693 = true := by decide +kernel
theorem bkH_X12_rising : bHead (bm_14 109) ∈ bw_G := bw_in (bprog_in 10 _ (List.mem_of_getElem? (i := 121) rfl)) rfl
theorem bkM_X12_root : bchkM bmeth bmjs 3694 = true := by decide +kernel
theorem bkH_X12_root : bHead (bm_14 110) ∈ bw_G := bw_in (bprog_in 10 _ (List.mem_of_getElem? (i := 92) rfl)) rfl
theorem bkM_X12_rooted : bchkM bmeth bmjs 3695 = true := by decide +kernel
theorem bkH_X12_rooted : bHead (bm_14 111) ∈ bw_G := bw_in (bprog_in 10 _ (List.mem_of_getElem? (i := 96) rfl)) rfl
theorem bkM_X12_roots : bchkM bmeth bmjs 3696 = true := by decide +kernel
theorem bkH_X12_roots : bHead (bm_14 112) ∈ bw_G := bw_in (bprog_in 10 _ (List.mem_of_getElem? (i := 100) rfl)) rfl
theorem bkM_X12_rounds : bchkM bmeth bmjs 3697 = true := by decide +kernel
theorem bkH_X12_rounds : bHead (bm_14 113) ∈ bw_G := bw_in (bprog_in 9 _ (List.mem_of_getElem? (i := 220) rfl)) rfl
theorem bkM_X12_scaleOf : bchkM bmeth bmjs 3698 = true := by decide +kernel
theorem bkH_X12_scaleOf : bHead (bm_14 114) ∈ bw_G := bw_in (bprog_in 9 _ (List.mem_of_getElem? (i := 95) rfl)) rfl
theorem bkM_X12_scales : bchkM bmeth bmjs 3699 = true := by decide +kernel
theorem bkH_X12_scales : bHead (bm_14 115) ∈ bw_G := bw_in (bprog_in 9 _ (List.mem_of_getElem? (i := 53) rfl)) rfl
theorem bkM_X12_series : bchkM bmeth bmjs 3700 = true := by decide +kernel
theorem bkH_X12_series : bHead (bm_14 116) ∈ bw_G := bw_in (bprog_in 9 _ (List.mem_of_getElem? (i := 140) rfl)) rfl
theorem bkM_X12_setDigits : bchkM bmeth bmjs 3701 = true := by decide +kernel
theorem bkH_X12_setDigits : bHead (bm_14 117) ∈ bw_G := bw_in (bprog_in 8 _ (List.mem_of_getElem? (i := 212) rfl)) rfl
theorem bkM_X12_sets : bchkM bmeth bmjs 3702 = true := by decide +kernel
theorem bkH_X12_sets : bHead (bm_14 118) ∈ bw_G := bw_in (bprog_in 9 _ (List.mem_of_getElem? (i := 22) rfl)) rfl
theorem bkM_X12_shifts : bchkM bmeth bmjs 3703 = true := by decide +kernel
theorem bkH_X12_shifts : bHead (bm_14 119) ∈ bw_G := bw_in (bprog_in 9 _ (List.mem_of_getElem? (i := 123) rfl)) rfl
theorem bkM_X12_sign : bchkM bmeth bmjs 3704 = true := by decide +kernel
theorem bkH_X12_sign : bHead (bm_14 120) ∈ bw_G := bw_in (bprog_in 10 _ (List.mem_of_getElem? (i := 182) rfl)) rfl
