/-! The checks, go on. -/
theorem bkD_X1_roundDown : bchk3 (bm_3 10) bk_X1_roundDown = true := by decide +kernel
theorem bkD_X1_roundUp : bchk3 (bm_3 11) bk_X1_roundUp = true := by decide +kernel
theorem bkD_X1_shift : bchk3 (bm_3 12) bk_X1_shift = true := by decide +kernel
theorem bkD_X1_toDifference : bchk3 (bm_3 13) bk_X1_toDifference = true := by decide +kernel
theorem bkD_X1_toMultiple : bchk3 (bm_3 14) bk_X1_toMultiple = true := by decide +kernel
theorem bkD_X1_toSum : bchk3 (bm_3 15) bk_X1_toSum = true := by decide +kernel
theorem bkD_X1_turn : bchk3 (bm_3 16) bk_X1_turn = true := by decide +kernel
theorem bkA_3 : bAllOk (fun y l => bchk3 y l = true) bkc_3 bmc_3 := ⟨bkD_X1_init, bkD_X1_against, bkD_X1_assign, bkD_X1_copy, bkD_X1_halve, bkD_X1_isBelow, bkD_X1_isNegative, bkD_X1_isPositive, bkD_X1_isTooGreat, bkD_X1_isZero, bkD_X1_roundDown, bkD_X1_roundUp, bkD_X1_shift, bkD_X1_toDifference, bkD_X1_toMultiple, bkD_X1_toSum, bkD_X1_turn, trivial⟩
theorem bkM_X1_init : bchkM bmeth bmjs 768 = true := by decide +kernel
theorem bkH_X1_init : bHead (bm_3 0) ∈ bw_G := bw_in (bprog_in 1 _ (List.mem_of_getElem? (i := 72) rfl)) rfl
theorem bkM_X1_against : bchkM bmeth bmjs 769 = true := by decide +kernel
theorem bkH_X1_against : bHead (bm_3 1) ∈ bw_G := bw_in (bprog_in 3 _ (List.mem_of_getElem? (i := 135) rfl)) rfl
theorem bkM_X1_assign : bchkM bmeth bmjs 770 = true := by decide +kernel
theorem bkH_X1_assign : bHead (bm_3 2) ∈ bw_G := bw_in (bprog_in 3 _ (List.mem_of_getElem? (i := 211) rfl)) rfl
theorem bkM_X1_copy : bchkM bmeth bmjs 771 = true := by decide +kernel
theorem bkH_X1_copy : bHead (bm_3 3) ∈ bw_G := bw_in (bprog_in 3 _ (List.mem_of_getElem? (i := 61) rfl)) rfl
theorem bkM_X1_halve : bchkM bmeth bmjs 772 = true := by decide +kernel
theorem bkH_X1_halve : bHead (bm_3 4) ∈ bw_G := bw_in (bprog_in 4 _ (List.mem_of_getElem? (i := 204) rfl)) rfl
theorem bkM_X1_isBelow : bchkM bmeth bmjs 773 = true := by decide +kernel
theorem bkH_X1_isBelow : bHead (bm_3 5) ∈ bw_G := bw_in (bprog_in 3 _ (List.mem_of_getElem? (i := 183) rfl)) rfl
theorem bkM_X1_isNegative : bchkM bmeth bmjs 774 = true := by decide +kernel
theorem bkH_X1_isNegative : bHead (bm_3 6) ∈ bw_G := bw_in (bprog_in 3 _ (List.mem_of_getElem? (i := 149) rfl)) rfl
theorem bkM_X1_isPositive : bchkM bmeth bmjs 775 = true := by decide +kernel
theorem bkH_X1_isPositive : bHead (bm_3 7) ∈ bw_G := bw_in (bprog_in 3 _ (List.mem_of_getElem? (i := 200) rfl)) rfl
theorem bkM_X1_isTooGreat : bchkM bmeth bmjs 776 = true := by decide +kernel
theorem bkH_X1_isTooGreat : bHead (bm_3 8) ∈ bw_G := bw_in (bprog_in 3 _ (List.mem_of_getElem? (i := 82) rfl)) rfl
theorem bkM_X1_isZero : bchkM bmeth bmjs 777 = true := by decide +kernel
theorem bkH_X1_isZero : bHead (bm_3 9) ∈ bw_G := bw_in (bprog_in 4 _ (List.mem_of_getElem? (i := 35) rfl)) rfl
theorem bkM_X1_roundDown : bchkM bmeth bmjs 778 = true := by decide +kernel
theorem bkH_X1_roundDown : bHead (bm_3 10) ∈ bw_G := bw_in (bprog_in 3 _ (List.mem_of_getElem? (i := 65) rfl)) rfl
theorem bkM_X1_roundUp : bchkM bmeth bmjs 779 = true := by decide +kernel
theorem bkH_X1_roundUp : bHead (bm_3 11) ∈ bw_G := bw_in (bprog_in 3 _ (List.mem_of_getElem? (i := 73) rfl)) rfl
theorem bkM_X1_shift : bchkM bmeth bmjs 780 = true := by decide +kernel
theorem bkH_X1_shift : bHead (bm_3 12) ∈ bw_G := bw_in (bprog_in 3 _ (List.mem_of_getElem? (i := 179) rfl)) rfl
theorem bkM_X1_toDifference : bchkM bmeth bmjs 781 = true := by decide +kernel
theorem bkH_X1_toDifference : bHead (bm_3 13) ∈ bw_G := bw_in (bprog_in 3 _ (List.mem_of_getElem? (i := 123) rfl)) rfl
theorem bkM_X1_toMultiple : bchkM bmeth bmjs 782 = true := by decide +kernel
theorem bkH_X1_toMultiple : bHead (bm_3 14) ∈ bw_G := bw_in (bprog_in 4 _ (List.mem_of_getElem? (i := 145) rfl)) rfl
theorem bkM_X1_toSum : bchkM bmeth bmjs 783 = true := by decide +kernel
theorem bkH_X1_toSum : bHead (bm_3 15) ∈ bw_G := bw_in (bprog_in 3 _ (List.mem_of_getElem? (i := 106) rfl)) rfl
theorem bkM_X1_turn : bchkM bmeth bmjs 784 = true := by decide +kernel
theorem bkH_X1_turn : bHead (bm_3 16) ∈ bw_G := bw_in (bprog_in 3 _ (List.mem_of_getElem? (i := 153) rfl)) rfl
theorem bkMA_3 : ∀ k, k < 17 → (bmjs (768 + k)).1 ≠ 0 → bchkM bmeth bmjs (768 + k) = true ∧ bHead (bm_3 k) ∈ bw_G := by
  intro k hk h0
  match k, hk with
  | 0, _ => exact ⟨bkM_X1_init, bkH_X1_init⟩
  | 1, _ => exact ⟨bkM_X1_against, bkH_X1_against⟩
  | 2, _ => exact ⟨bkM_X1_assign, bkH_X1_assign⟩
  | 3, _ => exact ⟨bkM_X1_copy, bkH_X1_copy⟩
  | 4, _ => exact ⟨bkM_X1_halve, bkH_X1_halve⟩
  | 5, _ => exact ⟨bkM_X1_isBelow, bkH_X1_isBelow⟩
  | 6, _ => exact ⟨bkM_X1_isNegative, bkH_X1_isNegative⟩
  | 7, _ => exact ⟨bkM_X1_isPositive, bkH_X1_isPositive⟩
  | 8, _ => exact ⟨bkM_X1_isTooGreat, bkH_X1_isTooGreat⟩
  | 9, _ => exact ⟨bkM_X1_isZero, bkH_X1_isZero⟩
  | 10, _ => exact ⟨bkM_X1_roundDown, bkH_X1_roundDown⟩
  | 11, _ => exact ⟨bkM_X1_roundUp, bkH_X1_roundUp⟩
  | 12, _ => exact ⟨bkM_X1_shift, bkH_X1_shift⟩
  | 13, _ => exact ⟨bkM_X1_toDifference, bkH_X1_toDifference⟩
  | 14, _ => exact ⟨bkM_X1_toMultiple, bkH_X1_toMultiple⟩
  | 15, _ => exact ⟨bkM_X1_toSum, bkH_X1_toSum⟩
  | 16, _ => exact ⟨bkM_X1_turn, bkH_X1_turn⟩
  | k + 17, h => omega
noncomputable def bm_4 (k : Nat) : bM := bmc_4.getD k bnoM
theorem bkD_X2_init : bchk3 (bm_4 0) bk_X2_init = true := by decide +kernel
theorem bkD_X2_between : bchk3 (bm_4 1) bk_X2_between = true := by decide +kernel
theorem bkD_X2_copy : bchk3 (bm_4 2) bk_X2_copy = true := by decide +kernel
theorem bkD_X2_cutDownTo : bchk3 (bm_4 3) bk_X2_cutDownTo = true := by decide +kernel
theorem bkD_X2_dropSigns : bchk3 (bm_4 4) bk_X2_dropSigns = true := by decide +kernel
theorem bkD_X2_embrace : bchk3 (bm_4 5) bk_X2_embrace = true := by decide +kernel
theorem bkD_X2_holdsZero : bchk3 (bm_4 6) bk_X2_holdsZero = true := by decide +kernel
theorem bkD_X2_isSingle : bchk3 (bm_4 7) bk_X2_isSingle = true := by decide +kernel
theorem bkD_X2_isTooGreat : bchk3 (bm_4 8) bk_X2_isTooGreat = true := by decide +kernel
theorem bkD_X2_liesIn : bchk3 (bm_4 9) bk_X2_liesIn = true := by decide +kernel
theorem bkD_X2_roundOut : bchk3 (bm_4 10) bk_X2_roundOut = true := by decide +kernel
theorem bkD_X2_toMiddle : bchk3 (bm_4 11) bk_X2_toMiddle = true := by decide +kernel
theorem bkD_X2_turn : bchk3 (bm_4 12) bk_X2_turn = true := by decide +kernel
theorem bkA_4 : bAllOk (fun y l => bchk3 y l = true) bkc_4 bmc_4 := ⟨bkD_X2_init, bkD_X2_between, bkD_X2_copy, bkD_X2_cutDownTo, bkD_X2_dropSigns, bkD_X2_embrace, bkD_X2_holdsZero, bkD_X2_isSingle, bkD_X2_isTooGreat, bkD_X2_liesIn, bkD_X2_roundOut, bkD_X2_toMiddle, bkD_X2_turn, trivial⟩
theorem bkM_X2_init : bchkM bmeth bmjs 1024 = true := by decide +kernel
theorem bkH_X2_init : bHead (bm_4 0) ∈ bw_G := bw_in (bprog_in 1 _ (List.mem_of_getElem? (i := 66) rfl)) rfl
theorem bkM_X2_between : bchkM bmeth bmjs 1025 = true := by decide +kernel
theorem bkH_X2_between : bHead (bm_4 1) ∈ bw_G := bw_in (bprog_in 3 _ (List.mem_of_getElem? (i := 188) rfl)) rfl
theorem bkM_X2_copy : bchkM bmeth bmjs 1026 = true := by decide +kernel
theorem bkH_X2_copy : bHead (bm_4 2) ∈ bw_G := bw_in (bprog_in 3 _ (List.mem_of_getElem? (i := 97) rfl)) rfl
theorem bkM_X2_cutDownTo : bchkM bmeth bmjs 1027 = true := by decide +kernel
theorem bkH_X2_cutDownTo : bHead (bm_4 3) ∈ bw_G := bw_in (bprog_in 6 _ (List.mem_of_getElem? (i := 19) rfl)) rfl
theorem bkM_X2_dropSigns : bchkM bmeth bmjs 1028 = true := by decide +kernel
theorem bkH_X2_dropSigns : bHead (bm_4 4) ∈ bw_G := bw_in (bprog_in 3 _ (List.mem_of_getElem? (i := 237) rfl)) rfl
