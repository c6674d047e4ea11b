/-! The checks, method by method. -/
def bchk1 (y : bM) (z : Nat × bO) : Bool := bchkD y.2.1 z.1 z.2 && bchkX bcjs y.1.cls y.1.name z.1 z.2
noncomputable def bchk2 (y : bM) (z : Nat × bO) : Bool := bchk1 y z && bchkC bmeth bmjs y.1.cls z.2 && bchkT bexx bstr y.1.cls y.2.1 z.1 z.2
noncomputable def bchk3 (y : bM) (l : List (Nat × bO)) : Bool := decide (y.2.2.1 ≤ 80) && plainName y.1.cls && l.all (bchk2 y)
def bAllOk (ok : bM → List (Nat × bO) → Prop) (L : List (List (Nat × bO))) (Ms : List bM) : Prop := match L, Ms with
  | [], _ => True
  | l :: t, m :: u => ok m l ∧ bAllOk ok t u
  | _ :: _, [] => False
theorem bchk3_app {y : bM} {a b : List (Nat × bO)} (h1 : bchk3 y a = true) (h2 : bchk3 y b = true) : bchk3 y (a ++ b) = true := by
  unfold bchk3 at h1 h2 ⊢
  rw [List.all_append, Bool.and_eq_true_iff] at *
  rw [h1.1, h1.2, h2.2]
  exact ⟨rfl, rfl⟩
noncomputable def bm_2 (k : Nat) : bM := bmc_2.getD k bnoM
theorem bkD_X0_init : bchk3 (bm_2 0) bk_X0_init = true := by decide +kernel
theorem bkD_X0_difference : bchk3 (bm_2 1) bk_X0_difference = true := by decide +kernel
theorem bkD_X0_judged : bchk3 (bm_2 2) bk_X0_judged = true := by decide +kernel
theorem bkD_X0_negative : bchk3 (bm_2 3) bk_X0_negative = true := by decide +kernel
theorem bkD_X0_ofOne : bchk3 (bm_2 4) bk_X0_ofOne = true := by decide +kernel
theorem bkD_X0_product : bchk3 (bm_2 5) bk_X0_product = true := by decide +kernel
theorem bkD_X0_quotient : bchk3 (bm_2 6) bk_X0_quotient = true := by decide +kernel
theorem bkD_X0_size : bchk3 (bm_2 7) bk_X0_size = true := by decide +kernel
theorem bkD_X0_sum : bchk3 (bm_2 8) bk_X0_sum = true := by decide +kernel
theorem bkD_X0_tellConstant : bchk3 (bm_2 9) bk_X0_tellConstant = true := by decide +kernel
theorem bkD_X0_tellNumber : bchk3 (bm_2 10) bk_X0_tellNumber = true := by decide +kernel
theorem bkD_X0_tellText : bchk3 (bm_2 11) bk_X0_tellText = true := by decide +kernel
theorem bkD_X0_told : bchk3 (bm_2 12) bk_X0_told = true := by decide +kernel
theorem bkD_X0_useDigits : bchk3 (bm_2 13) bk_X0_useDigits = true := by decide +kernel
theorem bkA_2 : bAllOk (fun y l => bchk3 y l = true) bkc_2 bmc_2 := ⟨bkD_X0_init, bkD_X0_difference, bkD_X0_judged, bkD_X0_negative, bkD_X0_ofOne, bkD_X0_product, bkD_X0_quotient, bkD_X0_size, bkD_X0_sum, bkD_X0_tellConstant, bkD_X0_tellNumber, bkD_X0_tellText, bkD_X0_told, bkD_X0_useDigits, trivial⟩
theorem bkM_X0_init : bchkM bmeth bmjs 512 = true := by decide +kernel
theorem bkH_X0_init : bHead (bm_2 0) ∈ bw_G := bw_in (bprog_in 1 _ (List.mem_of_getElem? (i := 136) rfl)) rfl
theorem bkM_X0_tellConstant : bchkM bmeth bmjs 521 = true := by decide +kernel
theorem bkH_X0_tellConstant : bHead (bm_2 9) ∈ bw_G := bw_in (bprog_in 3 _ (List.mem_of_getElem? (i := 88) rfl)) rfl
theorem bkM_X0_tellNumber : bchkM bmeth bmjs 522 = true := by decide +kernel
theorem bkH_X0_tellNumber : bHead (bm_2 10) ∈ bw_G := bw_in (bprog_in 3 _ (List.mem_of_getElem? (i := 34) rfl)) rfl
theorem bkM_X0_told : bchkM bmeth bmjs 524 = true := by decide +kernel
theorem bkH_X0_told : bHead (bm_2 12) ∈ bw_G := bw_in (bprog_in 3 _ (List.mem_of_getElem? (i := 53) rfl)) rfl
theorem bkM_X0_useDigits : bchkM bmeth bmjs 525 = true := by decide +kernel
theorem bkH_X0_useDigits : bHead (bm_2 13) ∈ bw_G := bw_in (bprog_in 2 _ (List.mem_of_getElem? (i := 64) rfl)) rfl
theorem bkMA_2 : ∀ k, k < 14 → (bmjs (512 + k)).1 ≠ 0 → bchkM bmeth bmjs (512 + k) = true ∧ bHead (bm_2 k) ∈ bw_G := by
  intro k hk h0
  match k, hk with
  | 0, _ => exact ⟨bkM_X0_init, bkH_X0_init⟩
  | 1, _ => exact absurd (by decide +kernel) h0
  | 2, _ => exact absurd (by decide +kernel) h0
  | 3, _ => exact absurd (by decide +kernel) h0
  | 4, _ => exact absurd (by decide +kernel) h0
  | 5, _ => exact absurd (by decide +kernel) h0
  | 6, _ => exact absurd (by decide +kernel) h0
  | 7, _ => exact absurd (by decide +kernel) h0
  | 8, _ => exact absurd (by decide +kernel) h0
  | 9, _ => exact ⟨bkM_X0_tellConstant, bkH_X0_tellConstant⟩
  | 10, _ => exact ⟨bkM_X0_tellNumber, bkH_X0_tellNumber⟩
  | 11, _ => exact absurd (by decide +kernel) h0
  | 12, _ => exact ⟨bkM_X0_told, bkH_X0_told⟩
  | 13, _ => exact ⟨bkM_X0_useDigits, bkH_X0_useDigits⟩
  | k + 14, h => omega
noncomputable def bm_3 (k : Nat) : bM := bmc_3.getD k bnoM
theorem bkD_X1_init : bchk3 (bm_3 0) bk_X1_init = true := by decide +kernel
theorem bkD_X1_against : bchk3 (bm_3 1) bk_X1_against = true := by decide +kernel
theorem bkD_X1_assign : bchk3 (bm_3 2) bk_X1_assign = true := by decide +kernel
theorem bkD_X1_copy : bchk3 (bm_3 3) bk_X1_copy = true := by decide +kernel
theorem bkD_X1_halve : bchk3 (bm_3 4) bk_X1_halve = true := by decide +kernel
theorem bkD_X1_isBelow : bchk3 (bm_3 5) bk_X1_isBelow = true := by decide +kernel
theorem bkD_X1_isNegative : bchk3 (bm_3 6) bk_X1_isNegative = true := by decide +kernel
theorem bkD_X1_isPositive : bchk3 (bm_3 7) bk_X1_isPositive = true := by decide +kernel
theorem bkD_X1_isTooGreat : bchk3 (bm_3 8) bk_X1_isTooGreat = true := by decide +kernel
theorem bkD_X1_isZero : bchk3 (bm_3 9) bk_X1_isZero = true := by decide +kernel
theorem bkD_X1_roundDown : bchk3 (bm_3 10) bk_X1_roundDown = true := by decide +kernel
theorem bkD_X1_roundUp : bchk3 (bm_3 11) bk_X1_roundUp = true := by decide +kernel
theorem bkD_X1_shift : bchk3 (bm_3 12) bk_X1_shift = true := by decide +kernel
theorem bkD_X1_toDifference : bchk3 (bm_3 13) bk_X1_toDifference = true := by decide +kernel
theorem bkD_X1_toMultiple : bchk3 (bm_3 14) bk_X1_toMultiple = true := by decide +kernel
theorem bkD_X1_toSum : bchk3 (bm_3 15) bk_X1_toSum = true := by decide +kernel
theorem bkD_X1_turn : bchk3 (bm_3 16) bk_X1_turn = true := by decide +kernel
theorem bkA_3 : bAllOk (fun y l => bchk3 y l = true) bkc_3 bmc_3 := ⟨bkD_X1_init, bkD_X1_against, bkD_X1_assign, bkD_X1_copy, bkD_X1_halve, bkD_X1_isBelow, bkD_X1_isNegative, bkD_X1_isPositive, bkD_X1_isTooGreat, bkD_X1_isZero, bkD_X1_roundDown, bkD_X1_roundUp, bkD_X1_shift, bkD_X1_toDifference, bkD_X1_toMultiple, bkD_X1_toSum, bkD_X1_turn, trivial⟩
theorem bkM_X1_init : bchkM bmeth bmjs 768 = true := by decide +kernel
theorem bkH_X1_init : bHead (bm_3 0) ∈ bw_G := bw_in (bprog_in 1 _ (List.mem_of_getElem? (i := 72) rfl)) rfl
theorem bkM_X1_against : bchkM bmeth bmjs 769 = true := by decide +kernel
theorem bkH_X1_against : bHead (bm_3 1) ∈ bw_G := bw_in (bprog_in 3 _ (List.mem_of_getElem? (i := 135) rfl)) rfl
theorem bkM_X1_copy : bchkM bmeth bmjs 771 = true := by decide +kernel
theorem bkH_X1_copy : bHead (bm_3 3) ∈ bw_G := bw_in (bprog_in 3 _ (List.mem_of_getElem? (i := 61) rfl)) rfl
theorem bkM_X1_isBelow : bchkM bmeth bmjs 773 = true := by decide +kernel
theorem bkH_X1_isBelow : bHead (bm_3 5) ∈ bw_G := bw_in (bprog_in 3 _ (List.mem_of_getElem? (i := 183) rfl)) rfl
theorem bkM_X1_isTooGreat : bchkM bmeth bmjs 776 = true := by decide +kernel
theorem bkH_X1_isTooGreat : bHead (bm_3 8) ∈ bw_G := bw_in (bprog_in 3 _ (List.mem_of_getElem? (i := 82) rfl)) rfl
theorem bkM_X1_roundDown : bchkM bmeth bmjs 778 = true := by decide +kernel
theorem bkH_X1_roundDown : bHead (bm_3 10) ∈ bw_G := bw_in (bprog_in 3 _ (List.mem_of_getElem? (i := 65) rfl)) rfl
theorem bkM_X1_roundUp : bchkM bmeth bmjs 779 = true := by decide +kernel
theorem bkH_X1_roundUp : bHead (bm_3 11) ∈ bw_G := bw_in (bprog_in 3 _ (List.mem_of_getElem? (i := 73) rfl)) rfl
theorem bkMA_3 : ∀ k, k < 17 → (bmjs (768 + k)).1 ≠ 0 → bchkM bmeth bmjs (768 + k) = true ∧ bHead (bm_3 k) ∈ bw_G := by
  intro k hk h0
  match k, hk with
  | 0, _ => exact ⟨bkM_X1_init, bkH_X1_init⟩
  | 1, _ => exact ⟨bkM_X1_against, bkH_X1_against⟩
  | 2, _ => exact absurd (by decide +kernel) h0
  | 3, _ => exact ⟨bkM_X1_copy, bkH_X1_copy⟩
  | 4, _ => exact absurd (by decide +kernel) h0
  | 5, _ => exact ⟨bkM_X1_isBelow, bkH_X1_isBelow⟩
  | 6, _ => exact absurd (by decide +kernel) h0
  | 7, _ => exact absurd (by decide +kernel) h0
  | 8, _ => exact ⟨bkM_X1_isTooGreat, bkH_X1_isTooGreat⟩
  | 9, _ => exact absurd (by decide +kernel) h0
  | 10, _ => exact ⟨bkM_X1_roundDown, bkH_X1_roundDown⟩
  | 11, _ => exact ⟨bkM_X1_roundUp, bkH_X1_roundUp⟩
  | 12, _ => exact absurd (by decide +kernel) h0
  | 13, _ => exact absurd (by decide +kernel) h0
  | 14, _ => exact absurd (by decide +kernel) h0
  | 15, _ => exact absurd (by decide +kernel) h0
  | 16, _ => exact absurd (by decide +kernel) h0
  | k + 17, h => omega
noncomputable def bm_4 (k : Nat) : bM := bmc_4.getD k bnoM
theorem bkD_X2_init : bchk3 (bm_4 0) bk_X2_init = true := by decide +kernel
theorem bkD_X2_between : bchk3 (bm_4 1) bk_X2_between = true := by decide +kernel
theorem bkD_X2_copy : bchk3 (bm_4 2) bk_X2_copy = true := by decide +kernel
theorem bkD_X2_cutDownTo : bchk3 (bm_4 3) bk_X2_cutDownTo = true := by decide +kernel
theorem bkD_X2_dropSigns : bchk3 (bm_4 4) bk_X2_dropSigns = true := by decide +kernel
theorem bkD_X2_embrace : bchk3 (bm_4 5) bk_X2_embrace = true := by decide +kernel
theorem bkD_X2_holdsZero : bchk3 (bm_4 6) bk_X2_holdsZero = true := by decide +kernel
theorem bkD_X2_isSingle : bchk3 (bm_4 7) bk_X2_isSingle = true := by decide +kernel
theorem bkD_X2_isTooGreat : bchk3 (bm_4 8) bk_X2_isTooGreat = true := by decide +kernel
theorem bkD_X2_liesIn : bchk3 (bm_4 9) bk_X2_liesIn = true := by decide +kernel
theorem bkD_X2_roundOut : bchk3 (bm_4 10) bk_X2_roundOut = true := by decide +kernel
theorem bkD_X2_toMiddle : bchk3 (bm_4 11) bk_X2_toMiddle = true := by decide +kernel
theorem bkD_X2_turn : bchk3 (bm_4 12) bk_X2_turn = true := by decide +kernel
theorem bkA_4 : bAllOk (fun y l => bchk3 y l = true) bkc_4 bmc_4 := ⟨bkD_X2_init, bkD_X2_between, bkD_X2_copy, bkD_X2_cutDownTo, bkD_X2_dropSigns, bkD_X2_embrace, bkD_X2_holdsZero, bkD_X2_isSingle, bkD_X2_isTooGreat, bkD_X2_liesIn, bkD_X2_roundOut, bkD_X2_toMiddle, bkD_X2_turn, trivial⟩
theorem bkM_X2_init : bchkM bmeth bmjs 1024 = true := by decide +kernel
theorem bkH_X2_init : bHead (bm_4 0) ∈ bw_G := bw_in (bprog_in 1 _ (List.mem_of_getElem? (i := 66) rfl)) rfl
theorem bkM_X2_copy : bchkM bmeth bmjs 1026 = true := by decide +kernel
theorem bkH_X2_copy : bHead (bm_4 2) ∈ bw_G := bw_in (bprog_in 3 _ (List.mem_of_getElem? (i := 97) rfl)) rfl
theorem bkM_X2_isSingle : bchkM bmeth bmjs 1031 = true := by decide +kernel
theorem bkH_X2_isSingle : bHead (bm_4 7) ∈ bw_G := bw_in (bprog_in 3 _ (List.mem_of_getElem? (i := 131) rfl)) rfl
theorem bkM_X2_isTooGreat : bchkM bmeth bmjs 1032 = true := by decide +kernel
theorem bkH_X2_isTooGreat : bHead (bm_4 8) ∈ bw_G := bw_in (bprog_in 3 _ (List.mem_of_getElem? (i := 78) rfl)) rfl
theorem bkM_X2_liesIn : bchkM bmeth bmjs 1033 = true := by decide +kernel
theorem bkH_X2_liesIn : bHead (bm_4 9) ∈ bw_G := bw_in (bprog_in 4 _ (List.mem_of_getElem? (i := 161) rfl)) rfl
theorem bkMA_4 : ∀ k, k < 13 → (bmjs (1024 + k)).1 ≠ 0 → bchkM bmeth bmjs (1024 + k) = true ∧ bHead (bm_4 k) ∈ bw_G := by
  intro k hk h0
  match k, hk with
  | 0, _ => exact ⟨bkM_X2_init, bkH_X2_init⟩
  | 1, _ => exact absurd (by decide +kernel) h0
  | 2, _ => exact ⟨bkM_X2_copy, bkH_X2_copy⟩
  | 3, _ => exact absurd (by decide +kernel) h0
  | 4, _ => exact absurd (by decide +kernel) h0
  | 5, _ => exact absurd (by decide +kernel) h0
  | 6, _ => exact absurd (by decide +kernel) h0
  | 7, _ => exact ⟨bkM_X2_isSingle, bkH_X2_isSingle⟩
  | 8, _ => exact ⟨bkM_X2_isTooGreat, bkH_X2_isTooGreat⟩
  | 9, _ => exact ⟨bkM_X2_liesIn, bkH_X2_liesIn⟩
  | 10, _ => exact absurd (by decide +kernel) h0
  | 11, _ => exact absurd (by decide +kernel) h0
  | 12, _ => exact absurd (by decide +kernel) h0
  | k + 13, h => omega
noncomputable def bm_5 (k : Nat) : bM := bmc_5.getD k bnoM
theorem bkD_X3_init : bchk3 (bm_5 0) bk_X3_init = true := by decide +kernel
theorem bkD_X3_arc : bchk3 (bm_5 1) bk_X3_arc = true := by decide +kernel
theorem bkD_X3_begin : bchk3 (bm_5 2) bk_X3_begin = true := by decide +kernel
theorem bkD_X3_exponential : bchk3 (bm_5 3) bk_X3_exponential = true := by decide +kernel
theorem bkD_X3_logarithm : bchk3 (bm_5 4) bk_X3_logarithm = true := by decide +kernel
theorem bkD_X3_nearestEighth : bchk3 (bm_5 5) bk_X3_nearestEighth = true := by decide +kernel
theorem bkD_X3_settle : bchk3 (bm_5 6) bk_X3_settle = true := by decide +kernel
theorem bkD_X3_shiftToEighth : bchk3 (bm_5 7) bk_X3_shiftToEighth = true := by decide +kernel
theorem bkD_X3_sumOddPowers : bchk3 (bm_5 8) bk_X3_sumOddPowers = true := by decide +kernel
theorem bkD_X3_sumPowers : bchk3 (bm_5 9) bk_X3_sumPowers = true := by decide +kernel
theorem bkD_X3_tell : bchk3 (bm_5 10) bk_X3_tell = true := by decide +kernel
theorem bkA_5 : bAllOk (fun y l => bchk3 y l = true) bkc_5 bmc_5 := ⟨bkD_X3_init, bkD_X3_arc, bkD_X3_begin, bkD_X3_exponential, bkD_X3_logarithm, bkD_X3_nearestEighth, bkD_X3_settle, bkD_X3_shiftToEighth, bkD_X3_sumOddPowers, bkD_X3_sumPowers, bkD_X3_tell, trivial⟩
theorem bkM_X3_init : bchkM bmeth bmjs 1280 = true := by decide +kernel
theorem bkH_X3_init : bHead (bm_5 0) ∈ bw_G := bw_in (bprog_in 1 _ (List.mem_of_getElem? (i := 191) rfl)) rfl
theorem bkMA_5 : ∀ k, k < 11 → (bmjs (1280 + k)).1 ≠ 0 → bchkM bmeth bmjs (1280 + k) = true ∧ bHead (bm_5 k) ∈ bw_G := by
  intro k hk h0
  match k, hk with
  | 0, _ => exact ⟨bkM_X3_init, bkH_X3_init⟩
  | 1, _ => exact absurd (by decide +kernel) h0
  | 2, _ => exact absurd (by decide +kernel) h0
  | 3, _ => exact absurd (by decide +kernel) h0
  | 4, _ => exact absurd (by decide +kernel) h0
  | 5, _ => exact absurd (by decide +kernel) h0
  | 6, _ => exact absurd (by decide +kernel) h0
  | 7, _ => exact absurd (by decide +kernel) h0
  | 8, _ => exact absurd (by decide +kernel) h0
  | 9, _ => exact absurd (by decide +kernel) h0
  | 10, _ => exact absurd (by decide +kernel) h0
  | k + 11, h => omega
noncomputable def bm_6 (k : Nat) : bM := bmc_6.getD k bnoM
theorem bkD_X4_init : bchk3 (bm_6 0) bk_X4_init = true := by decide +kernel
theorem bkD_X4_clear : bchk3 (bm_6 1) bk_X4_clear = true := by decide +kernel
theorem bkD_X4_copy : bchk3 (bm_6 2) bk_X4_copy = true := by decide +kernel
theorem bkD_X4_isBelow : bchk3 (bm_6 3) bk_X4_isBelow = true := by decide +kernel
theorem bkD_X4_isZero : bchk3 (bm_6 4) bk_X4_isZero = true := by decide +kernel
theorem bkD_X4_limbAt : bchk3 (bm_6 5) bk_X4_limbAt = true := by decide +kernel
theorem bkD_X4_load : bchk3 (bm_6 6) bk_X4_load = true := by decide +kernel
theorem bkD_X4_minus : bchk3 (bm_6 7) bk_X4_minus = true := by decide +kernel
theorem bkD_X4_over : bchk3 (bm_6 8) bk_X4_over = true := by decide +kernel
theorem bkD_X4_plus : bchk3 (bm_6 9) bk_X4_plus = true := by decide +kernel
theorem bkD_X4_setLimb : bchk3 (bm_6 10) bk_X4_setLimb = true := by decide +kernel
theorem bkD_X4_toProduct : bchk3 (bm_6 11) bk_X4_toProduct = true := by decide +kernel
theorem bkA_6 : bAllOk (fun y l => bchk3 y l = true) bkc_6 bmc_6 := ⟨bkD_X4_init, bkD_X4_clear, bkD_X4_copy, bkD_X4_isBelow, bkD_X4_isZero, bkD_X4_limbAt, bkD_X4_load, bkD_X4_minus, bkD_X4_over, bkD_X4_plus, bkD_X4_setLimb, bkD_X4_toProduct, trivial⟩
theorem bkM_X4_init : bchkM bmeth bmjs 1536 = true := by decide +kernel
theorem bkH_X4_init : bHead (bm_6 0) ∈ bw_G := bw_in (bprog_in 1 _ (List.mem_of_getElem? (i := 197) rfl)) rfl
theorem bkMA_6 : ∀ k, k < 12 → (bmjs (1536 + k)).1 ≠ 0 → bchkM bmeth bmjs (1536 + k) = true ∧ bHead (bm_6 k) ∈ bw_G := by
  intro k hk h0
  match k, hk with
  | 0, _ => exact ⟨bkM_X4_init, bkH_X4_init⟩
  | 1, _ => exact absurd (by decide +kernel) h0
  | 2, _ => exact absurd (by decide +kernel) h0
  | 3, _ => exact absurd (by decide +kernel) h0
  | 4, _ => exact absurd (by decide +kernel) h0
  | 5, _ => exact absurd (by decide +kernel) h0
  | 6, _ => exact absurd (by decide +kernel) h0
  | 7, _ => exact absurd (by decide +kernel) h0
  | 8, _ => exact absurd (by decide +kernel) h0
  | 9, _ => exact absurd (by decide +kernel) h0
  | 10, _ => exact absurd (by decide +kernel) h0
  | 11, _ => exact absurd (by decide +kernel) h0
  | k + 12, h => omega
noncomputable def bm_7 (k : Nat) : bM := bmc_7.getD k bnoM
theorem bkD_X5_init : bchk3 (bm_7 0) bk_X5_init = true := by decide +kernel
theorem bkD_X5_actAt : bchk3 (bm_7 1) bk_X5_actAt = true := by decide +kernel
theorem bkD_X5_append : bchk3 (bm_7 2) bk_X5_append = true := by decide +kernel
theorem bkD_X5_closeAtom : bchk3 (bm_7 3) bk_X5_closeAtom = true := by decide +kernel
theorem bkD_X5_findStarts : bchk3 (bm_7 4) bk_X5_findStarts = true := by decide +kernel
theorem bkD_X5_hold : bchk3 (bm_7 5) bk_X5_hold = true := by decide +kernel
theorem bkD_X5_isAhead : bchk3 (bm_7 6) bk_X5_isAhead = true := by decide +kernel
theorem bkD_X5_isPair : bchk3 (bm_7 7) bk_X5_isPair = true := by decide +kernel
theorem bkD_X5_lastHeld : bchk3 (bm_7 8) bk_X5_lastHeld = true := by decide +kernel
theorem bkD_X5_leftOf : bchk3 (bm_7 9) bk_X5_leftOf = true := by decide +kernel
theorem bkD_X5_numberAt : bchk3 (bm_7 10) bk_X5_numberAt = true := by decide +kernel
theorem bkD_X5_parse : bchk3 (bm_7 11) bk_X5_parse = true := by decide +kernel
theorem bkD_X5_release : bchk3 (bm_7 12) bk_X5_release = true := by decide +kernel
theorem bkD_X5_releaseProducts : bchk3 (bm_7 13) bk_X5_releaseProducts = true := by decide +kernel
theorem bkD_X5_releaseSums : bchk3 (bm_7 14) bk_X5_releaseSums = true := by decide +kernel
theorem bkD_X5_scaleAt : bchk3 (bm_7 15) bk_X5_scaleAt = true := by decide +kernel
theorem bkD_X5_startOf : bchk3 (bm_7 16) bk_X5_startOf = true := by decide +kernel
theorem bkD_X5_takesAct : bchk3 (bm_7 17) bk_X5_takesAct = true := by decide +kernel
theorem bkD_X5_takesAtom : bchk3 (bm_7 18) bk_X5_takesAtom = true := by decide +kernel
theorem bkD_X5_takesClosing : bchk3 (bm_7 19) bk_X5_takesClosing = true := by decide +kernel
theorem bkD_X5_takesExponent : bchk3 (bm_7 20) bk_X5_takesExponent = true := by decide +kernel
theorem bkD_X5_takesNumber : bchk3 (bm_7 21) bk_X5_takesNumber = true := by decide +kernel
theorem bkD_X5_within : bchk3 (bm_7 22) bk_X5_within = true := by decide +kernel
theorem bkA_7 : bAllOk (fun y l => bchk3 y l = true) bkc_7 bmc_7 := ⟨bkD_X5_init, bkD_X5_actAt, bkD_X5_append, bkD_X5_closeAtom, bkD_X5_findStarts, bkD_X5_hold, bkD_X5_isAhead, bkD_X5_isPair, bkD_X5_lastHeld, bkD_X5_leftOf, bkD_X5_numberAt, bkD_X5_parse, bkD_X5_release, bkD_X5_releaseProducts, bkD_X5_releaseSums, bkD_X5_scaleAt, bkD_X5_startOf, bkD_X5_takesAct, bkD_X5_takesAtom, bkD_X5_takesClosing, bkD_X5_takesExponent, bkD_X5_takesNumber, bkD_X5_within, trivial⟩
theorem bkM_X5_init : bchkM bmeth bmjs 1792 = true := by decide +kernel
theorem bkH_X5_init : bHead (bm_7 0) ∈ bw_G := bw_in (bprog_in 2 _ (List.mem_of_getElem? (i := 75) rfl)) rfl
theorem bkM_X5_isPair : bchkM bmeth bmjs 1799 = true := by decide +kernel
theorem bkH_X5_isPair : bHead (bm_7 7) ∈ bw_G := bw_in (bprog_in 3 _ (List.mem_of_getElem? (i := 30) rfl)) rfl
theorem bkM_X5_parse : bchkM bmeth bmjs 1803 = true := by decide +kernel
theorem bkH_X5_parse : bHead (bm_7 11) ∈ bw_G := bw_in (bprog_in 6 _ (List.mem_of_getElem? (i := 177) rfl)) rfl
theorem bkMA_7 : ∀ k, k < 23 → (bmjs (1792 + k)).1 ≠ 0 → bchkM bmeth bmjs (1792 + k) = true ∧ bHead (bm_7 k) ∈ bw_G := by
  intro k hk h0
  match k, hk with
  | 0, _ => exact ⟨bkM_X5_init, bkH_X5_init⟩
  | 1, _ => exact absurd (by decide +kernel) h0
  | 2, _ => exact absurd (by decide +kernel) h0
  | 3, _ => exact absurd (by decide +kernel) h0
  | 4, _ => exact absurd (by decide +kernel) h0
  | 5, _ => exact absurd (by decide +kernel) h0
  | 6, _ => exact absurd (by decide +kernel) h0
  | 7, _ => exact ⟨bkM_X5_isPair, bkH_X5_isPair⟩
  | 8, _ => exact absurd (by decide +kernel) h0
  | 9, _ => exact absurd (by decide +kernel) h0
  | 10, _ => exact absurd (by decide +kernel) h0
  | 11, _ => exact ⟨bkM_X5_parse, bkH_X5_parse⟩
  | 12, _ => exact absurd (by decide +kernel) h0
  | 13, _ => exact absurd (by decide +kernel) h0
  | 14, _ => exact absurd (by decide +kernel) h0
  | 15, _ => exact absurd (by decide +kernel) h0
  | 16, _ => exact absurd (by decide +kernel) h0
  | 17, _ => exact absurd (by decide +kernel) h0
  | 18, _ => exact absurd (by decide +kernel) h0
  | 19, _ => exact absurd (by decide +kernel) h0
  | 20, _ => exact absurd (by decide +kernel) h0
  | 21, _ => exact absurd (by decide +kernel) h0
  | 22, _ => exact absurd (by decide +kernel) h0
  | k + 23, h => omega
noncomputable def bm_8 (k : Nat) : bM := bmc_8.getD k bnoM
theorem bkD_X6_init : bchk3 (bm_8 0) bk_X6_init = true := by decide +kernel
theorem bkD_X6_actOf : bchk3 (bm_8 1) bk_X6_actOf = true := by decide +kernel
theorem bkD_X6_aim : bchk3 (bm_8 2) bk_X6_aim = true := by decide +kernel
theorem bkD_X6_at : bchk3 (bm_8 3) bk_X6_at = true := by decide +kernel
theorem bkD_X6_byOf : bchk3 (bm_8 4) bk_X6_byOf = true := by decide +kernel
theorem bkD_X6_clear : bchk3 (bm_8 5) bk_X6_clear = true := by decide +kernel
theorem bkD_X6_enter : bchk3 (bm_8 6) bk_X6_enter = true := by decide +kernel
theorem bkD_X6_make : bchk3 (bm_8 7) bk_X6_make = true := by decide +kernel
theorem bkD_X6_makeFrom : bchk3 (bm_8 8) bk_X6_makeFrom = true := by decide +kernel
theorem bkD_X6_makeSlope : bchk3 (bm_8 9) bk_X6_makeSlope = true := by decide +kernel
theorem bkD_X6_makeValue : bchk3 (bm_8 10) bk_X6_makeValue = true := by decide +kernel
theorem bkD_X6_nextSign : bchk3 (bm_8 11) bk_X6_nextSign = true := by decide +kernel
theorem bkD_X6_numberOf : bchk3 (bm_8 12) bk_X6_numberOf = true := by decide +kernel
theorem bkD_X6_push : bchk3 (bm_8 13) bk_X6_push = true := by decide +kernel
theorem bkD_X6_recipeOf : bchk3 (bm_8 14) bk_X6_recipeOf = true := by decide +kernel
theorem bkD_X6_result : bchk3 (bm_8 15) bk_X6_result = true := by decide +kernel
theorem bkD_X6_unit : bchk3 (bm_8 16) bk_X6_unit = true := by decide +kernel
theorem bkD_X6_useDigits : bchk3 (bm_8 17) bk_X6_useDigits = true := by decide +kernel
theorem bkA_8 : bAllOk (fun y l => bchk3 y l = true) bkc_8 bmc_8 := ⟨bkD_X6_init, bkD_X6_actOf, bkD_X6_aim, bkD_X6_at, bkD_X6_byOf, bkD_X6_clear, bkD_X6_enter, bkD_X6_make, bkD_X6_makeFrom, bkD_X6_makeSlope, bkD_X6_makeValue, bkD_X6_nextSign, bkD_X6_numberOf, bkD_X6_push, bkD_X6_recipeOf, bkD_X6_result, bkD_X6_unit, bkD_X6_useDigits, trivial⟩
theorem bkM_X6_init : bchkM bmeth bmjs 2048 = true := by decide +kernel
theorem bkH_X6_init : bHead (bm_8 0) ∈ bw_G := bw_in (bprog_in 1 _ (List.mem_of_getElem? (i := 130) rfl)) rfl
theorem bkM_X6_at : bchkM bmeth bmjs 2051 = true := by decide +kernel
theorem bkH_X6_at : bHead (bm_8 3) ∈ bw_G := bw_in (bprog_in 3 _ (List.mem_of_getElem? (i := 27) rfl)) rfl
theorem bkM_X6_clear : bchkM bmeth bmjs 2053 = true := by decide +kernel
theorem bkH_X6_clear : bHead (bm_8 5) ∈ bw_G := bw_in (bprog_in 3 _ (List.mem_of_getElem? (i := 19) rfl)) rfl
theorem bkM_X6_make : bchkM bmeth bmjs 2055 = true := by decide +kernel
theorem bkH_X6_make : bHead (bm_8 7) ∈ bw_G := bw_in (bprog_in 3 _ (List.mem_of_getElem? (i := 23) rfl)) rfl
theorem bkM_X6_result : bchkM bmeth bmjs 2063 = true := by decide +kernel
theorem bkH_X6_result : bHead (bm_8 15) ∈ bw_G := bw_in (bprog_in 4 _ (List.mem_of_getElem? (i := 156) rfl)) rfl
theorem bkM_X6_useDigits : bchkM bmeth bmjs 2065 = true := by decide +kernel
theorem bkH_X6_useDigits : bHead (bm_8 17) ∈ bw_G := bw_in (bprog_in 2 _ (List.mem_of_getElem? (i := 60) rfl)) rfl
theorem bkMA_8 : ∀ k, k < 18 → (bmjs (2048 + k)).1 ≠ 0 → bchkM bmeth bmjs (2048 + k) = true ∧ bHead (bm_8 k) ∈ bw_G := by
  intro k hk h0
  match k, hk with
  | 0, _ => exact ⟨bkM_X6_init, bkH_X6_init⟩
  | 1, _ => exact absurd (by decide +kernel) h0
  | 2, _ => exact absurd (by decide +kernel) h0
  | 3, _ => exact ⟨bkM_X6_at, bkH_X6_at⟩
  | 4, _ => exact absurd (by decide +kernel) h0
  | 5, _ => exact ⟨bkM_X6_clear, bkH_X6_clear⟩
  | 6, _ => exact absurd (by decide +kernel) h0
  | 7, _ => exact ⟨bkM_X6_make, bkH_X6_make⟩
  | 8, _ => exact absurd (by decide +kernel) h0
  | 9, _ => exact absurd (by decide +kernel) h0
  | 10, _ => exact absurd (by decide +kernel) h0
  | 11, _ => exact absurd (by decide +kernel) h0
  | 12, _ => exact absurd (by decide +kernel) h0
  | 13, _ => exact absurd (by decide +kernel) h0
  | 14, _ => exact absurd (by decide +kernel) h0
  | 15, _ => exact ⟨bkM_X6_result, bkH_X6_result⟩
  | 16, _ => exact absurd (by decide +kernel) h0
  | 17, _ => exact ⟨bkM_X6_useDigits, bkH_X6_useDigits⟩
  | k + 18, h => omega
noncomputable def bm_9 (k : Nat) : bM := bmc_9.getD k bnoM
theorem bkD_X7_init : bchk3 (bm_9 0) bk_X7_init = true := by decide +kernel
theorem bkD_X7_append : bchk3 (bm_9 1) bk_X7_append = true := by decide +kernel
theorem bkD_X7_box : bchk3 (bm_9 2) bk_X7_box = true := by decide +kernel
theorem bkD_X7_clear : bchk3 (bm_9 3) bk_X7_clear = true := by decide +kernel
theorem bkD_X7_cut : bchk3 (bm_9 4) bk_X7_cut = true := by decide +kernel
theorem bkD_X7_markAt : bchk3 (bm_9 5) bk_X7_markAt = true := by decide +kernel
theorem bkD_X7_split : bchk3 (bm_9 6) bk_X7_split = true := by decide +kernel
theorem bkD_X7_takeLast : bchk3 (bm_9 7) bk_X7_takeLast = true := by decide +kernel
theorem bkD_X7_within : bchk3 (bm_9 8) bk_X7_within = true := by decide +kernel
theorem bkA_9 : bAllOk (fun y l => bchk3 y l = true) bkc_9 bmc_9 := ⟨bkD_X7_init, bkD_X7_append, bkD_X7_box, bkD_X7_clear, bkD_X7_cut, bkD_X7_markAt, bkD_X7_split, bkD_X7_takeLast, bkD_X7_within, trivial⟩
theorem bkM_X7_init : bchkM bmeth bmjs 2304 = true := by decide +kernel
theorem bkH_X7_init : bHead (bm_9 0) ∈ bw_G := bw_in (bprog_in 2 _ (List.mem_of_getElem? (i := 122) rfl)) rfl
theorem bkMA_9 : ∀ k, k < 9 → (bmjs (2304 + k)).1 ≠ 0 → bchkM bmeth bmjs (2304 + k) = true ∧ bHead (bm_9 k) ∈ bw_G := by
  intro k hk h0
  match k, hk with
  | 0, _ => exact ⟨bkM_X7_init, bkH_X7_init⟩
  | 1, _ => exact absurd (by decide +kernel) h0
  | 2, _ => exact absurd (by decide +kernel) h0
  | 3, _ => exact absurd (by decide +kernel) h0
  | 4, _ => exact absurd (by decide +kernel) h0
  | 5, _ => exact absurd (by decide +kernel) h0
  | 6, _ => exact absurd (by decide +kernel) h0
  | 7, _ => exact absurd (by decide +kernel) h0
  | 8, _ => exact absurd (by decide +kernel) h0
  | k + 9, h => omega
noncomputable def bm_10 (k : Nat) : bM := bmc_10.getD k bnoM
theorem bkD_X8_init : bchk3 (bm_10 0) bk_X8_init = true := by decide +kernel
theorem bkD_X8_align : bchk3 (bm_10 1) bk_X8_align = true := by decide +kernel
theorem bkD_X8_assign : bchk3 (bm_10 2) bk_X8_assign = true := by decide +kernel
theorem bkD_X8_dropSign : bchk3 (bm_10 3) bk_X8_dropSign = true := by decide +kernel
theorem bkD_X8_guessRoot : bchk3 (bm_10 4) bk_X8_guessRoot = true := by decide +kernel
theorem bkD_X8_nextDigits : bchk3 (bm_10 5) bk_X8_nextDigits = true := by decide +kernel
theorem bkD_X8_powerOf : bchk3 (bm_10 6) bk_X8_powerOf = true := by decide +kernel
theorem bkD_X8_product : bchk3 (bm_10 7) bk_X8_product = true := by decide +kernel
theorem bkD_X8_quotient : bchk3 (bm_10 8) bk_X8_quotient = true := by decide +kernel
theorem bkD_X8_raise : bchk3 (bm_10 9) bk_X8_raise = true := by decide +kernel
theorem bkD_X8_settle : bchk3 (bm_10 10) bk_X8_settle = true := by decide +kernel
theorem bkD_X8_spread : bchk3 (bm_10 11) bk_X8_spread = true := by decide +kernel
theorem bkD_X8_take : bchk3 (bm_10 12) bk_X8_take = true := by decide +kernel
theorem bkD_X8_takeDigit : bchk3 (bm_10 13) bk_X8_takeDigit = true := by decide +kernel
theorem bkD_X8_takeText : bchk3 (bm_10 14) bk_X8_takeText = true := by decide +kernel
theorem bkD_X8_tellDown : bchk3 (bm_10 15) bk_X8_tellDown = true := by decide +kernel
theorem bkD_X8_tellUp : bchk3 (bm_10 16) bk_X8_tellUp = true := by decide +kernel
theorem bkD_X8_toPower : bchk3 (bm_10 17) bk_X8_toPower = true := by decide +kernel
theorem bkD_X8_toRoot : bchk3 (bm_10 18) bk_X8_toRoot = true := by decide +kernel
theorem bkD_X8_turn : bchk3 (bm_10 19) bk_X8_turn = true := by decide +kernel
theorem bkD_X8_wholeOfRow : bchk3 (bm_10 20) bk_X8_wholeOfRow = true := by decide +kernel
theorem bkD_X8_widen : bchk3 (bm_10 21) bk_X8_widen = true := by decide +kernel
theorem bkA_10 : bAllOk (fun y l => bchk3 y l = true) bkc_10 bmc_10 := ⟨bkD_X8_init, bkD_X8_align, bkD_X8_assign, bkD_X8_dropSign, bkD_X8_guessRoot, bkD_X8_nextDigits, bkD_X8_powerOf, bkD_X8_product, bkD_X8_quotient, bkD_X8_raise, bkD_X8_settle, bkD_X8_spread, bkD_X8_take, bkD_X8_takeDigit, bkD_X8_takeText, bkD_X8_tellDown, bkD_X8_tellUp, bkD_X8_toPower, bkD_X8_toRoot, bkD_X8_turn, bkD_X8_wholeOfRow, bkD_X8_widen, trivial⟩
theorem bkM_X8_init : bchkM bmeth bmjs 2560 = true := by decide +kernel
theorem bkH_X8_init : bHead (bm_10 0) ∈ bw_G := bw_in (bprog_in 1 _ (List.mem_of_getElem? (i := 142) rfl)) rfl
theorem bkM_X8_assign : bchkM bmeth bmjs 2562 = true := by decide +kernel
theorem bkH_X8_assign : bHead (bm_10 2) ∈ bw_G := bw_in (bprog_in 3 _ (List.mem_of_getElem? (i := 49) rfl)) rfl
theorem bkM_X8_take : bchkM bmeth bmjs 2572 = true := by decide +kernel
theorem bkH_X8_take : bHead (bm_10 12) ∈ bw_G := bw_in (bprog_in 3 _ (List.mem_of_getElem? (i := 38) rfl)) rfl
theorem bkM_X8_tellDown : bchkM bmeth bmjs 2575 = true := by decide +kernel
theorem bkH_X8_tellDown : bHead (bm_10 15) ∈ bw_G := bw_in (bprog_in 3 _ (List.mem_of_getElem? (i := 57) rfl)) rfl
theorem bkM_X8_tellUp : bchkM bmeth bmjs 2576 = true := by decide +kernel
theorem bkH_X8_tellUp : bHead (bm_10 16) ∈ bw_G := bw_in (bprog_in 3 _ (List.mem_of_getElem? (i := 69) rfl)) rfl
theorem bkMA_10 : ∀ k, k < 22 → (bmjs (2560 + k)).1 ≠ 0 → bchkM bmeth bmjs (2560 + k) = true ∧ bHead (bm_10 k) ∈ bw_G := by
  intro k hk h0
  match k, hk with
  | 0, _ => exact ⟨bkM_X8_init, bkH_X8_init⟩
  | 1, _ => exact absurd (by decide +kernel) h0
  | 2, _ => exact ⟨bkM_X8_assign, bkH_X8_assign⟩
  | 3, _ => exact absurd (by decide +kernel) h0
  | 4, _ => exact absurd (by decide +kernel) h0
  | 5, _ => exact absurd (by decide +kernel) h0
  | 6, _ => exact absurd (by decide +kernel) h0
  | 7, _ => exact absurd (by decide +kernel) h0
  | 8, _ => exact absurd (by decide +kernel) h0
  | 9, _ => exact absurd (by decide +kernel) h0
  | 10, _ => exact absurd (by decide +kernel) h0
  | 11, _ => exact absurd (by decide +kernel) h0
  | 12, _ => exact ⟨bkM_X8_take, bkH_X8_take⟩
  | 13, _ => exact absurd (by decide +kernel) h0
  | 14, _ => exact absurd (by decide +kernel) h0
  | 15, _ => exact ⟨bkM_X8_tellDown, bkH_X8_tellDown⟩
  | 16, _ => exact ⟨bkM_X8_tellUp, bkH_X8_tellUp⟩
  | 17, _ => exact absurd (by decide +kernel) h0
  | 18, _ => exact absurd (by decide +kernel) h0
  | 19, _ => exact absurd (by decide +kernel) h0
  | 20, _ => exact absurd (by decide +kernel) h0
  | 21, _ => exact absurd (by decide +kernel) h0
  | k + 22, h => omega
noncomputable def bm_11 (k : Nat) : bM := bmc_11.getD k bnoM
theorem bkD_X9_init : bchk3 (bm_11 0) bk_X9_init = true := by decide +kernel
theorem bkD_X9_box : bchk3 (bm_11 1) bk_X9_box = true := by decide +kernel
theorem bkD_X9_fill : bchk3 (bm_11 2) bk_X9_fill = true := by decide +kernel
theorem bkD_X9_holds : bchk3 (bm_11 3) bk_X9_holds = true := by decide +kernel
theorem bkD_X9_isShelf : bchk3 (bm_11 4) bk_X9_isShelf = true := by decide +kernel
theorem bkD_X9_takeBack : bchk3 (bm_11 5) bk_X9_takeBack = true := by decide +kernel
theorem bkA_11 : bAllOk (fun y l => bchk3 y l = true) bkc_11 bmc_11 := ⟨bkD_X9_init, bkD_X9_box, bkD_X9_fill, bkD_X9_holds, bkD_X9_isShelf, bkD_X9_takeBack, trivial⟩
theorem bkM_X9_init : bchkM bmeth bmjs 2816 = true := by decide +kernel
theorem bkH_X9_init : bHead (bm_11 0) ∈ bw_G := bw_in (bprog_in 1 _ (List.mem_of_getElem? (i := 59) rfl)) rfl
theorem bkM_X9_fill : bchkM bmeth bmjs 2818 = true := by decide +kernel
theorem bkH_X9_fill : bHead (bm_11 2) ∈ bw_G := bw_in (bprog_in 5 _ (List.mem_of_getElem? (i := 166) rfl)) rfl
theorem bkM_X9_holds : bchkM bmeth bmjs 2819 = true := by decide +kernel
theorem bkH_X9_holds : bHead (bm_11 3) ∈ bw_G := bw_in (bprog_in 2 _ (List.mem_of_getElem? (i := 215) rfl)) rfl
theorem bkM_X9_isShelf : bchkM bmeth bmjs 2820 = true := by decide +kernel
theorem bkH_X9_isShelf : bHead (bm_11 4) ∈ bw_G := bw_in (bprog_in 2 _ (List.mem_of_getElem? (i := 219) rfl)) rfl
theorem bkM_X9_takeBack : bchkM bmeth bmjs 2821 = true := by decide +kernel
theorem bkH_X9_takeBack : bHead (bm_11 5) ∈ bw_G := bw_in (bprog_in 6 _ (List.mem_of_getElem? (i := 83) rfl)) rfl
theorem bkMA_11 : ∀ k, k < 6 → (bmjs (2816 + k)).1 ≠ 0 → bchkM bmeth bmjs (2816 + k) = true ∧ bHead (bm_11 k) ∈ bw_G := by
  intro k hk h0
  match k, hk with
  | 0, _ => exact ⟨bkM_X9_init, bkH_X9_init⟩
  | 1, _ => exact absurd (by decide +kernel) h0
  | 2, _ => exact ⟨bkM_X9_fill, bkH_X9_fill⟩
  | 3, _ => exact ⟨bkM_X9_holds, bkH_X9_holds⟩
  | 4, _ => exact ⟨bkM_X9_isShelf, bkH_X9_isShelf⟩
  | 5, _ => exact ⟨bkM_X9_takeBack, bkH_X9_takeBack⟩
  | k + 6, h => omega
noncomputable def bm_12 (k : Nat) : bM := bmc_12.getD k bnoM
theorem bkD_X10_init : bchk3 (bm_12 0) bk_X10_init = true := by decide +kernel
theorem bkD_X10_addedTo : bchk3 (bm_12 1) bk_X10_addedTo = true := by decide +kernel
theorem bkD_X10_append : bchk3 (bm_12 2) bk_X10_append = true := by decide +kernel
theorem bkD_X10_at : bchk3 (bm_12 3) bk_X10_at = true := by decide +kernel
theorem bkD_X10_clear : bchk3 (bm_12 4) bk_X10_clear = true := by decide +kernel
theorem bkD_X10_isDigitAt : bchk3 (bm_12 5) bk_X10_isDigitAt = true := by decide +kernel
theorem bkD_X10_isNumber : bchk3 (bm_12 6) bk_X10_isNumber = true := by decide +kernel
theorem bkD_X10_write : bchk3 (bm_12 7) bk_X10_write = true := by decide +kernel
theorem bkA_12 : bAllOk (fun y l => bchk3 y l = true) bkc_12 bmc_12 := ⟨bkD_X10_init, bkD_X10_addedTo, bkD_X10_append, bkD_X10_at, bkD_X10_clear, bkD_X10_isDigitAt, bkD_X10_isNumber, bkD_X10_write, trivial⟩
theorem bkM_X10_init : bchkM bmeth bmjs 3072 = true := by decide +kernel
theorem bkH_X10_init : bHead (bm_12 0) ∈ bw_G := bw_in (bprog_in 1 _ (List.mem_of_getElem? (i := 42) rfl)) rfl
theorem bkM_X10_addedTo : bchkM bmeth bmjs 3073 = true := by decide +kernel
theorem bkH_X10_addedTo : bHead (bm_12 1) ∈ bw_G := bw_in (bprog_in 3 _ (List.mem_of_getElem? (i := 6) rfl)) rfl
theorem bkM_X10_append : bchkM bmeth bmjs 3074 = true := by decide +kernel
theorem bkH_X10_append : bHead (bm_12 2) ∈ bw_G := bw_in (bprog_in 2 _ (List.mem_of_getElem? (i := 237) rfl)) rfl
theorem bkM_X10_at : bchkM bmeth bmjs 3075 = true := by decide +kernel
theorem bkH_X10_at : bHead (bm_12 3) ∈ bw_G := bw_in (bprog_in 5 _ (List.mem_of_getElem? (i := 84) rfl)) rfl
theorem bkM_X10_clear : bchkM bmeth bmjs 3076 = true := by decide +kernel
theorem bkH_X10_clear : bHead (bm_12 4) ∈ bw_G := bw_in (bprog_in 2 _ (List.mem_of_getElem? (i := 207) rfl)) rfl
theorem bkM_X10_isNumber : bchkM bmeth bmjs 3078 = true := by decide +kernel
theorem bkH_X10_isNumber : bHead (bm_12 6) ∈ bw_G := bw_in (bprog_in 5 _ (List.mem_of_getElem? (i := 179) rfl)) rfl
theorem bkMA_12 : ∀ k, k < 8 → (bmjs (3072 + k)).1 ≠ 0 → bchkM bmeth bmjs (3072 + k) = true ∧ bHead (bm_12 k) ∈ bw_G := by
  intro k hk h0
  match k, hk with
  | 0, _ => exact ⟨bkM_X10_init, bkH_X10_init⟩
  | 1, _ => exact ⟨bkM_X10_addedTo, bkH_X10_addedTo⟩
  | 2, _ => exact ⟨bkM_X10_append, bkH_X10_append⟩
  | 3, _ => exact ⟨bkM_X10_at, bkH_X10_at⟩
  | 4, _ => exact ⟨bkM_X10_clear, bkH_X10_clear⟩
  | 5, _ => exact absurd (by decide +kernel) h0
  | 6, _ => exact ⟨bkM_X10_isNumber, bkH_X10_isNumber⟩
  | 7, _ => exact absurd (by decide +kernel) h0
  | k + 8, h => omega
noncomputable def bm_13 (k : Nat) : bM := bmc_13.getD k bnoM
theorem bkD_X11_init : bchk3 (bm_13 0) bk_X11_init = true := by decide +kernel
theorem bkD_X11_add : bchk3 (bm_13 1) bk_X11_add = true := by decide +kernel
theorem bkD_X11_apply : bchk3 (bm_13 2) bk_X11_apply = true := by decide +kernel
theorem bkD_X11_area : bchk3 (bm_13 3) bk_X11_area = true := by decide +kernel
theorem bkD_X11_become : bchk3 (bm_13 4) bk_X11_become = true := by decide +kernel
theorem bkD_X11_canBeZero : bchk3 (bm_13 5) bk_X11_canBeZero = true := by decide +kernel
theorem bkD_X11_change : bchk3 (bm_13 6) bk_X11_change = true := by decide +kernel
theorem bkD_X11_checkBoundsCall : bchk3 (bm_13 7) bk_X11_checkBoundsCall = true := by decide +kernel
theorem bkD_X11_checkCuts : bchk3 (bm_13 8) bk_X11_checkCuts = true := by decide +kernel
theorem bkD_X11_checkDefined : bchk3 (bm_13 9) bk_X11_checkDefined = true := by decide +kernel
theorem bkD_X11_checkFormula : bchk3 (bm_13 10) bk_X11_checkFormula = true := by decide +kernel
theorem bkD_X11_checkFormulaCall : bchk3 (bm_13 11) bk_X11_checkFormulaCall = true := by decide +kernel
theorem bkD_X11_checkHeld : bchk3 (bm_13 12) bk_X11_checkHeld = true := by decide +kernel
theorem bkD_X11_checkNoY : bchk3 (bm_13 13) bk_X11_checkNoY = true := by decide +kernel
theorem bkD_X11_checkPair : bchk3 (bm_13 14) bk_X11_checkPair = true := by decide +kernel
theorem bkD_X11_checkPiece : bchk3 (bm_13 15) bk_X11_checkPiece = true := by decide +kernel
theorem bkD_X11_checkShelf : bchk3 (bm_13 16) bk_X11_checkShelf = true := by decide +kernel
theorem bkD_X11_checkShelves : bchk3 (bm_13 17) bk_X11_checkShelves = true := by decide +kernel
theorem bkD_X11_checkStatus : bchk3 (bm_13 18) bk_X11_checkStatus = true := by decide +kernel
theorem bkD_X11_checksum : bchk3 (bm_13 19) bk_X11_checksum = true := by decide +kernel
theorem bkD_X11_combine : bchk3 (bm_13 20) bk_X11_combine = true := by decide +kernel
theorem bkD_X11_compare : bchk3 (bm_13 21) bk_X11_compare = true := by decide +kernel
theorem bkD_X11_constant : bchk3 (bm_13 22) bk_X11_constant = true := by decide +kernel
theorem bkD_X11_crossed : bchk3 (bm_13 23) bk_X11_crossed = true := by decide +kernel
theorem bkD_X11_decide : bchk3 (bm_13 24) bk_X11_decide = true := by decide +kernel
theorem bkD_X11_define : bchk3 (bm_13 25) bk_X11_define = true := by decide +kernel
theorem bkD_X11_digits : bchk3 (bm_13 26) bk_X11_digits = true := by decide +kernel
theorem bkD_X11_divide : bchk3 (bm_13 27) bk_X11_divide = true := by decide +kernel
theorem bkD_X11_erase : bchk3 (bm_13 28) bk_X11_erase = true := by decide +kernel
theorem bkD_X11_fill : bchk3 (bm_13 29) bk_X11_fill = true := by decide +kernel
theorem bkD_X11_greatest : bchk3 (bm_13 30) bk_X11_greatest = true := by decide +kernel
theorem bkD_X11_hasY : bchk3 (bm_13 31) bk_X11_hasY = true := by decide +kernel
theorem bkD_X11_held : bchk3 (bm_13 32) bk_X11_held = true := by decide +kernel
theorem bkD_X11_high : bchk3 (bm_13 33) bk_X11_high = true := by decide +kernel
theorem bkD_X11_isConstantSound : bchk3 (bm_13 34) bk_X11_isConstantSound = true := by decide +kernel
theorem bkD_X11_isSound : bchk3 (bm_13 35) bk_X11_isSound = true := by decide +kernel
theorem bkD_X11_isValueSound : bchk3 (bm_13 36) bk_X11_isValueSound = true := by decide +kernel
theorem bkD_X11_isWithin : bchk3 (bm_13 37) bk_X11_isWithin = true := by decide +kernel
theorem bkD_X11_join : bchk3 (bm_13 38) bk_X11_join = true := by decide +kernel
theorem bkD_X11_judge : bchk3 (bm_13 39) bk_X11_judge = true := by decide +kernel
theorem bkD_X11_kindByEnds : bchk3 (bm_13 40) bk_X11_kindByEnds = true := by decide +kernel
theorem bkD_X11_least : bchk3 (bm_13 41) bk_X11_least = true := by decide +kernel
theorem bkD_X11_low : bchk3 (bm_13 42) bk_X11_low = true := by decide +kernel
theorem bkD_X11_makeAlong : bchk3 (bm_13 43) bk_X11_makeAlong = true := by decide +kernel
theorem bkD_X11_makeMoved : bchk3 (bm_13 44) bk_X11_makeMoved = true := by decide +kernel
theorem bkD_X11_makeNarrowed : bchk3 (bm_13 45) bk_X11_makeNarrowed = true := by decide +kernel
theorem bkD_X11_meet : bchk3 (bm_13 46) bk_X11_meet = true := by decide +kernel
theorem bkD_X11_move : bchk3 (bm_13 47) bk_X11_move = true := by decide +kernel
theorem bkD_X11_multiply : bchk3 (bm_13 48) bk_X11_multiply = true := by decide +kernel
theorem bkD_X11_narrow : bchk3 (bm_13 49) bk_X11_narrow = true := by decide +kernel
theorem bkD_X11_pairs : bchk3 (bm_13 50) bk_X11_pairs = true := by decide +kernel
theorem bkD_X11_piece : bchk3 (bm_13 51) bk_X11_piece = true := by decide +kernel
theorem bkD_X11_pieceKind : bchk3 (bm_13 52) bk_X11_pieceKind = true := by decide +kernel
theorem bkD_X11_power : bchk3 (bm_13 53) bk_X11_power = true := by decide +kernel
theorem bkD_X11_put : bchk3 (bm_13 54) bk_X11_put = true := by decide +kernel
theorem bkD_X11_read : bchk3 (bm_13 55) bk_X11_read = true := by decide +kernel
theorem bkD_X11_root : bchk3 (bm_13 56) bk_X11_root = true := by decide +kernel
theorem bkD_X11_seekExtreme : bchk3 (bm_13 57) bk_X11_seekExtreme = true := by decide +kernel
theorem bkD_X11_setDigits : bchk3 (bm_13 58) bk_X11_setDigits = true := by decide +kernel
theorem bkD_X11_sideOf : bchk3 (bm_13 59) bk_X11_sideOf = true := by decide +kernel
theorem bkD_X11_signAt : bchk3 (bm_13 60) bk_X11_signAt = true := by decide +kernel
theorem bkD_X11_slope : bchk3 (bm_13 61) bk_X11_slope = true := by decide +kernel
theorem bkD_X11_solve : bchk3 (bm_13 62) bk_X11_solve = true := by decide +kernel
theorem bkD_X11_subtract : bchk3 (bm_13 63) bk_X11_subtract = true := by decide +kernel
theorem bkD_X11_sumUp : bchk3 (bm_13 64) bk_X11_sumUp = true := by decide +kernel
theorem bkD_X11_sure : bchk3 (bm_13 65) bk_X11_sure = true := by decide +kernel
theorem bkD_X11_takeExtreme : bchk3 (bm_13 66) bk_X11_takeExtreme = true := by decide +kernel
theorem bkD_X11_type : bchk3 (bm_13 67) bk_X11_type = true := by decide +kernel
theorem bkD_X11_undo : bchk3 (bm_13 68) bk_X11_undo = true := by decide +kernel
theorem bkD_X11_unitOf : bchk3 (bm_13 69) bk_X11_unitOf = true := by decide +kernel
theorem bkD_X11_value : bchk3 (bm_13 70) bk_X11_value = true := by decide +kernel
theorem bkD_X11_width : bchk3 (bm_13 71) bk_X11_width = true := by decide +kernel
theorem bkD_X11_zeros : bchk3 (bm_13 72) bk_X11_zeros = true := by decide +kernel
theorem bkA_13 : bAllOk (fun y l => bchk3 y l = true) bkc_13 bmc_13 := ⟨bkD_X11_init, bkD_X11_add, bkD_X11_apply, bkD_X11_area, bkD_X11_become, bkD_X11_canBeZero, bkD_X11_change, bkD_X11_checkBoundsCall, bkD_X11_checkCuts, bkD_X11_checkDefined, bkD_X11_checkFormula, bkD_X11_checkFormulaCall, bkD_X11_checkHeld, bkD_X11_checkNoY, bkD_X11_checkPair, bkD_X11_checkPiece, bkD_X11_checkShelf, bkD_X11_checkShelves, bkD_X11_checkStatus, bkD_X11_checksum, bkD_X11_combine, bkD_X11_compare, bkD_X11_constant, bkD_X11_crossed, bkD_X11_decide, bkD_X11_define, bkD_X11_digits, bkD_X11_divide, bkD_X11_erase, bkD_X11_fill, bkD_X11_greatest, bkD_X11_hasY, bkD_X11_held, bkD_X11_high, bkD_X11_isConstantSound, bkD_X11_isSound, bkD_X11_isValueSound, bkD_X11_isWithin, bkD_X11_join, bkD_X11_judge, bkD_X11_kindByEnds, bkD_X11_least, bkD_X11_low, bkD_X11_makeAlong, bkD_X11_makeMoved, bkD_X11_makeNarrowed, bkD_X11_meet, bkD_X11_move, bkD_X11_multiply, bkD_X11_narrow, bkD_X11_pairs, bkD_X11_piece, bkD_X11_pieceKind, bkD_X11_power, bkD_X11_put, bkD_X11_read, bkD_X11_root, bkD_X11_seekExtreme, bkD_X11_setDigits, bkD_X11_sideOf, bkD_X11_signAt, bkD_X11_slope, bkD_X11_solve, bkD_X11_subtract, bkD_X11_sumUp, bkD_X11_sure, bkD_X11_takeExtreme, bkD_X11_type, bkD_X11_undo, bkD_X11_unitOf, bkD_X11_value, bkD_X11_width, bkD_X11_zeros, trivial⟩
theorem bkM_X11_init : bchkM bmeth bmjs 3328 = true := by decide +kernel
theorem bkH_X11_init : bHead (bm_13 0) ∈ bw_G := bw_in (bprog_in 1 _ (List.mem_of_getElem? (i := 34) rfl)) rfl
theorem bkM_X11_add : bchkM bmeth bmjs 3329 = true := by decide +kernel
theorem bkH_X11_add : bHead (bm_13 1) ∈ bw_G := bw_in (bprog_in 6 _ (List.mem_of_getElem? (i := 91) rfl)) rfl
theorem bkM_X11_apply : bchkM bmeth bmjs 3330 = true := by decide +kernel
theorem bkH_X11_apply : bHead (bm_13 2) ∈ bw_G := bw_in (bprog_in 6 _ (List.mem_of_getElem? (i := 148) rfl)) rfl
theorem bkM_X11_area : bchkM bmeth bmjs 3331 = true := by decide +kernel
theorem bkH_X11_area : bHead (bm_13 3) ∈ bw_G := bw_in (bprog_in 8 _ (List.mem_of_getElem? (i := 48) rfl)) rfl
theorem bkM_X11_become : bchkM bmeth bmjs 3332 = true := by decide +kernel
theorem bkH_X11_become : bHead (bm_13 4) ∈ bw_G := bw_in (bprog_in 5 _ (List.mem_of_getElem? (i := 137) rfl)) rfl
theorem bkM_X11_change : bchkM bmeth bmjs 3334 = true := by decide +kernel
theorem bkH_X11_change : bHead (bm_13 6) ∈ bw_G := bw_in (bprog_in 6 _ (List.mem_of_getElem? (i := 133) rfl)) rfl
theorem bkM_X11_checkBoundsCall : bchkM bmeth bmjs 3335 = true := by decide +kernel
theorem bkH_X11_checkBoundsCall : bHead (bm_13 7) ∈ bw_G := bw_in (bprog_in 8 _ (List.mem_of_getElem? (i := 26) rfl)) rfl
theorem bkM_X11_checkCuts : bchkM bmeth bmjs 3336 = true := by decide +kernel
theorem bkH_X11_checkCuts : bHead (bm_13 8) ∈ bw_G := bw_in (bprog_in 7 _ (List.mem_of_getElem? (i := 144) rfl)) rfl
theorem bkM_X11_checkDefined : bchkM bmeth bmjs 3337 = true := by decide +kernel
theorem bkH_X11_checkDefined : bHead (bm_13 9) ∈ bw_G := bw_in (bprog_in 7 _ (List.mem_of_getElem? (i := 11) rfl)) rfl
theorem bkM_X11_checkFormula : bchkM bmeth bmjs 3338 = true := by decide +kernel
theorem bkH_X11_checkFormula : bHead (bm_13 10) ∈ bw_G := bw_in (bprog_in 6 _ (List.mem_of_getElem? (i := 172) rfl)) rfl
theorem bkM_X11_checkFormulaCall : bchkM bmeth bmjs 3339 = true := by decide +kernel
theorem bkH_X11_checkFormulaCall : bHead (bm_13 11) ∈ bw_G := bw_in (bprog_in 7 _ (List.mem_of_getElem? (i := 23) rfl)) rfl
theorem bkM_X11_checkHeld : bchkM bmeth bmjs 3340 = true := by decide +kernel
theorem bkH_X11_checkHeld : bHead (bm_13 12) ∈ bw_G := bw_in (bprog_in 5 _ (List.mem_of_getElem? (i := 228) rfl)) rfl
theorem bkM_X11_checkPair : bchkM bmeth bmjs 3342 = true := by decide +kernel
theorem bkH_X11_checkPair : bHead (bm_13 14) ∈ bw_G := bw_in (bprog_in 6 _ (List.mem_of_getElem? (i := 53) rfl)) rfl
theorem bkM_X11_checkPiece : bchkM bmeth bmjs 3343 = true := by decide +kernel
theorem bkH_X11_checkPiece : bHead (bm_13 15) ∈ bw_G := bw_in (bprog_in 7 _ (List.mem_of_getElem? (i := 200) rfl)) rfl
theorem bkM_X11_checkShelf : bchkM bmeth bmjs 3344 = true := by decide +kernel
theorem bkH_X11_checkShelf : bHead (bm_13 16) ∈ bw_G := bw_in (bprog_in 5 _ (List.mem_of_getElem? (i := 119) rfl)) rfl
theorem bkM_X11_checkShelves : bchkM bmeth bmjs 3345 = true := by decide +kernel
theorem bkH_X11_checkShelves : bHead (bm_13 17) ∈ bw_G := bw_in (bprog_in 5 _ (List.mem_of_getElem? (i := 224) rfl)) rfl
theorem bkM_X11_checkStatus : bchkM bmeth bmjs 3346 = true := by decide +kernel
theorem bkH_X11_checkStatus : bHead (bm_13 18) ∈ bw_G := bw_in (bprog_in 5 _ (List.mem_of_getElem? (i := 141) rfl)) rfl
theorem bkM_X11_checksum : bchkM bmeth bmjs 3347 = true := by decide +kernel
theorem bkH_X11_checksum : bHead (bm_13 19) ∈ bw_G := bw_in (bprog_in 2 _ (List.mem_of_getElem? (i := 223) rfl)) rfl
theorem bkM_X11_combine : bchkM bmeth bmjs 3348 = true := by decide +kernel
theorem bkH_X11_combine : bHead (bm_13 20) ∈ bw_G := bw_in (bprog_in 6 _ (List.mem_of_getElem? (i := 95) rfl)) rfl
theorem bkM_X11_compare : bchkM bmeth bmjs 3349 = true := by decide +kernel
theorem bkH_X11_compare : bHead (bm_13 21) ∈ bw_G := bw_in (bprog_in 6 _ (List.mem_of_getElem? (i := 60) rfl)) rfl
theorem bkM_X11_constant : bchkM bmeth bmjs 3350 = true := by decide +kernel
theorem bkH_X11_constant : bHead (bm_13 22) ∈ bw_G := bw_in (bprog_in 5 _ (List.mem_of_getElem? (i := 211) rfl)) rfl
theorem bkM_X11_decide : bchkM bmeth bmjs 3352 = true := by decide +kernel
theorem bkH_X11_decide : bHead (bm_13 24) ∈ bw_G := bw_in (bprog_in 7 _ (List.mem_of_getElem? (i := 128) rfl)) rfl
theorem bkM_X11_define : bchkM bmeth bmjs 3353 = true := by decide +kernel
theorem bkH_X11_define : bHead (bm_13 25) ∈ bw_G := bw_in (bprog_in 6 _ (List.mem_of_getElem? (i := 168) rfl)) rfl
theorem bkM_X11_digits : bchkM bmeth bmjs 3354 = true := by decide +kernel
theorem bkH_X11_digits : bHead (bm_13 26) ∈ bw_G := bw_in (bprog_in 2 _ (List.mem_of_getElem? (i := 199) rfl)) rfl
theorem bkM_X11_divide : bchkM bmeth bmjs 3355 = true := by decide +kernel
theorem bkH_X11_divide : bHead (bm_13 27) ∈ bw_G := bw_in (bprog_in 6 _ (List.mem_of_getElem? (i := 121) rfl)) rfl
theorem bkM_X11_erase : bchkM bmeth bmjs 3356 = true := by decide +kernel
theorem bkH_X11_erase : bHead (bm_13 28) ∈ bw_G := bw_in (bprog_in 2 _ (List.mem_of_getElem? (i := 203) rfl)) rfl
theorem bkM_X11_fill : bchkM bmeth bmjs 3357 = true := by decide +kernel
theorem bkH_X11_fill : bHead (bm_13 29) ∈ bw_G := bw_in (bprog_in 5 _ (List.mem_of_getElem? (i := 162) rfl)) rfl
theorem bkM_X11_greatest : bchkM bmeth bmjs 3358 = true := by decide +kernel
theorem bkH_X11_greatest : bHead (bm_13 30) ∈ bw_G := bw_in (bprog_in 8 _ (List.mem_of_getElem? (i := 41) rfl)) rfl
theorem bkM_X11_hasY : bchkM bmeth bmjs 3359 = true := by decide +kernel
theorem bkH_X11_hasY : bHead (bm_13 31) ∈ bw_G := bw_in (bprog_in 7 _ (List.mem_of_getElem? (i := 7) rfl)) rfl
theorem bkM_X11_held : bchkM bmeth bmjs 3360 = true := by decide +kernel
theorem bkH_X11_held : bHead (bm_13 32) ∈ bw_G := bw_in (bprog_in 2 _ (List.mem_of_getElem? (i := 211) rfl)) rfl
theorem bkM_X11_high : bchkM bmeth bmjs 3361 = true := by decide +kernel
theorem bkH_X11_high : bHead (bm_13 33) ∈ bw_G := bw_in (bprog_in 6 _ (List.mem_of_getElem? (i := 34) rfl)) rfl
theorem bkM_X11_isConstantSound : bchkM bmeth bmjs 3362 = true := by decide +kernel
theorem bkH_X11_isConstantSound : bHead (bm_13 34) ∈ bw_G := bw_in (bprog_in 3 _ (List.mem_of_getElem? (i := 15) rfl)) rfl
theorem bkM_X11_isSound : bchkM bmeth bmjs 3363 = true := by decide +kernel
theorem bkH_X11_isSound : bHead (bm_13 35) ∈ bw_G := bw_in (bprog_in 3 _ (List.mem_of_getElem? (i := 11) rfl)) rfl
theorem bkM_X11_isWithin : bchkM bmeth bmjs 3365 = true := by decide +kernel
theorem bkH_X11_isWithin : bHead (bm_13 37) ∈ bw_G := bw_in (bprog_in 6 _ (List.mem_of_getElem? (i := 49) rfl)) rfl
theorem bkM_X11_join : bchkM bmeth bmjs 3366 = true := by decide +kernel
theorem bkH_X11_join : bHead (bm_13 38) ∈ bw_G := bw_in (bprog_in 5 _ (List.mem_of_getElem? (i := 220) rfl)) rfl
theorem bkM_X11_least : bchkM bmeth bmjs 3369 = true := by decide +kernel
theorem bkH_X11_least : bHead (bm_13 41) ∈ bw_G := bw_in (bprog_in 8 _ (List.mem_of_getElem? (i := 22) rfl)) rfl
theorem bkM_X11_low : bchkM bmeth bmjs 3370 = true := by decide +kernel
theorem bkH_X11_low : bHead (bm_13 42) ∈ bw_G := bw_in (bprog_in 6 _ (List.mem_of_getElem? (i := 27) rfl)) rfl
theorem bkM_X11_meet : bchkM bmeth bmjs 3374 = true := by decide +kernel
theorem bkH_X11_meet : bHead (bm_13 46) ∈ bw_G := bw_in (bprog_in 6 _ (List.mem_of_getElem? (i := 15) rfl)) rfl
theorem bkM_X11_move : bchkM bmeth bmjs 3375 = true := by decide +kernel
theorem bkH_X11_move : bHead (bm_13 47) ∈ bw_G := bw_in (bprog_in 8 _ (List.mem_of_getElem? (i := 59) rfl)) rfl
theorem bkM_X11_multiply : bchkM bmeth bmjs 3376 = true := by decide +kernel
theorem bkH_X11_multiply : bHead (bm_13 48) ∈ bw_G := bw_in (bprog_in 6 _ (List.mem_of_getElem? (i := 113) rfl)) rfl
theorem bkM_X11_narrow : bchkM bmeth bmjs 3377 = true := by decide +kernel
theorem bkH_X11_narrow : bHead (bm_13 49) ∈ bw_G := bw_in (bprog_in 7 _ (List.mem_of_getElem? (i := 227) rfl)) rfl
theorem bkM_X11_pairs : bchkM bmeth bmjs 3378 = true := by decide +kernel
theorem bkH_X11_pairs : bHead (bm_13 50) ∈ bw_G := bw_in (bprog_in 7 _ (List.mem_of_getElem? (i := 239) rfl)) rfl
theorem bkM_X11_piece : bchkM bmeth bmjs 3379 = true := by decide +kernel
theorem bkH_X11_piece : bHead (bm_13 51) ∈ bw_G := bw_in (bprog_in 7 _ (List.mem_of_getElem? (i := 216) rfl)) rfl
theorem bkM_X11_pieceKind : bchkM bmeth bmjs 3380 = true := by decide +kernel
theorem bkH_X11_pieceKind : bHead (bm_13 52) ∈ bw_G := bw_in (bprog_in 7 _ (List.mem_of_getElem? (i := 196) rfl)) rfl
theorem bkM_X11_power : bchkM bmeth bmjs 3381 = true := by decide +kernel
theorem bkH_X11_power : bHead (bm_13 53) ∈ bw_G := bw_in (bprog_in 6 _ (List.mem_of_getElem? (i := 128) rfl)) rfl
theorem bkM_X11_put : bchkM bmeth bmjs 3382 = true := by decide +kernel
theorem bkH_X11_put : bHead (bm_13 54) ∈ bw_G := bw_in (bprog_in 5 _ (List.mem_of_getElem? (i := 115) rfl)) rfl
theorem bkM_X11_read : bchkM bmeth bmjs 3383 = true := by decide +kernel
theorem bkH_X11_read : bHead (bm_13 55) ∈ bw_G := bw_in (bprog_in 5 _ (List.mem_of_getElem? (i := 175) rfl)) rfl
theorem bkM_X11_root : bchkM bmeth bmjs 3384 = true := by decide +kernel
theorem bkH_X11_root : bHead (bm_13 56) ∈ bw_G := bw_in (bprog_in 6 _ (List.mem_of_getElem? (i := 140) rfl)) rfl
theorem bkM_X11_setDigits : bchkM bmeth bmjs 3386 = true := by decide +kernel
theorem bkH_X11_setDigits : bHead (bm_13 58) ∈ bw_G := bw_in (bprog_in 4 _ (List.mem_of_getElem? (i := 214) rfl)) rfl
theorem bkM_X11_signAt : bchkM bmeth bmjs 3388 = true := by decide +kernel
theorem bkH_X11_signAt : bHead (bm_13 60) ∈ bw_G := bw_in (bprog_in 5 _ (List.mem_of_getElem? (i := 79) rfl)) rfl
theorem bkM_X11_slope : bchkM bmeth bmjs 3389 = true := by decide +kernel
theorem bkH_X11_slope : bHead (bm_13 61) ∈ bw_G := bw_in (bprog_in 7 _ (List.mem_of_getElem? (i := 30) rfl)) rfl
theorem bkM_X11_solve : bchkM bmeth bmjs 3390 = true := by decide +kernel
theorem bkH_X11_solve : bHead (bm_13 62) ∈ bw_G := bw_in (bprog_in 6 _ (List.mem_of_getElem? (i := 156) rfl)) rfl
theorem bkM_X11_subtract : bchkM bmeth bmjs 3391 = true := by decide +kernel
theorem bkH_X11_subtract : bHead (bm_13 63) ∈ bw_G := bw_in (bprog_in 6 _ (List.mem_of_getElem? (i := 106) rfl)) rfl
theorem bkM_X11_sure : bchkM bmeth bmjs 3393 = true := by decide +kernel
theorem bkH_X11_sure : bHead (bm_13 65) ∈ bw_G := bw_in (bprog_in 6 _ (List.mem_of_getElem? (i := 68) rfl)) rfl
theorem bkM_X11_type : bchkM bmeth bmjs 3395 = true := by decide +kernel
theorem bkH_X11_type : bHead (bm_13 67) ∈ bw_G := bw_in (bprog_in 5 _ (List.mem_of_getElem? (i := 54) rfl)) rfl
theorem bkM_X11_undo : bchkM bmeth bmjs 3396 = true := by decide +kernel
theorem bkH_X11_undo : bHead (bm_13 68) ∈ bw_G := bw_in (bprog_in 6 _ (List.mem_of_getElem? (i := 79) rfl)) rfl
theorem bkM_X11_unitOf : bchkM bmeth bmjs 3397 = true := by decide +kernel
theorem bkH_X11_unitOf : bHead (bm_13 69) ∈ bw_G := bw_in (bprog_in 2 _ (List.mem_of_getElem? (i := 67) rfl)) rfl
theorem bkM_X11_value : bchkM bmeth bmjs 3398 = true := by decide +kernel
theorem bkH_X11_value : bHead (bm_13 70) ∈ bw_G := bw_in (bprog_in 7 _ (List.mem_of_getElem? (i := 19) rfl)) rfl
theorem bkM_X11_width : bchkM bmeth bmjs 3399 = true := by decide +kernel
theorem bkH_X11_width : bHead (bm_13 71) ∈ bw_G := bw_in (bprog_in 6 _ (List.mem_of_getElem? (i := 41) rfl)) rfl
theorem bkM_X11_zeros : bchkM bmeth bmjs 3400 = true := by decide +kernel
theorem bkH_X11_zeros : bHead (bm_13 72) ∈ bw_G := bw_in (bprog_in 7 _ (List.mem_of_getElem? (i := 140) rfl)) rfl
theorem bkMA_13 : ∀ k, k < 73 → (bmjs (3328 + k)).1 ≠ 0 → bchkM bmeth bmjs (3328 + k) = true ∧ bHead (bm_13 k) ∈ bw_G := by
  intro k hk h0
  match k, hk with
  | 0, _ => exact ⟨bkM_X11_init, bkH_X11_init⟩
  | 1, _ => exact ⟨bkM_X11_add, bkH_X11_add⟩
  | 2, _ => exact ⟨bkM_X11_apply, bkH_X11_apply⟩
  | 3, _ => exact ⟨bkM_X11_area, bkH_X11_area⟩
  | 4, _ => exact ⟨bkM_X11_become, bkH_X11_become⟩
  | 5, _ => exact absurd (by decide +kernel) h0
  | 6, _ => exact ⟨bkM_X11_change, bkH_X11_change⟩
  | 7, _ => exact ⟨bkM_X11_checkBoundsCall, bkH_X11_checkBoundsCall⟩
  | 8, _ => exact ⟨bkM_X11_checkCuts, bkH_X11_checkCuts⟩
  | 9, _ => exact ⟨bkM_X11_checkDefined, bkH_X11_checkDefined⟩
  | 10, _ => exact ⟨bkM_X11_checkFormula, bkH_X11_checkFormula⟩
  | 11, _ => exact ⟨bkM_X11_checkFormulaCall, bkH_X11_checkFormulaCall⟩
  | 12, _ => exact ⟨bkM_X11_checkHeld, bkH_X11_checkHeld⟩
  | 13, _ => exact absurd (by decide +kernel) h0
  | 14, _ => exact ⟨bkM_X11_checkPair, bkH_X11_checkPair⟩
  | 15, _ => exact ⟨bkM_X11_checkPiece, bkH_X11_checkPiece⟩
  | 16, _ => exact ⟨bkM_X11_checkShelf, bkH_X11_checkShelf⟩
  | 17, _ => exact ⟨bkM_X11_checkShelves, bkH_X11_checkShelves⟩
  | 18, _ => exact ⟨bkM_X11_checkStatus, bkH_X11_checkStatus⟩
  | 19, _ => exact ⟨bkM_X11_checksum, bkH_X11_checksum⟩
  | 20, _ => exact ⟨bkM_X11_combine, bkH_X11_combine⟩
  | 21, _ => exact ⟨bkM_X11_compare, bkH_X11_compare⟩
  | 22, _ => exact ⟨bkM_X11_constant, bkH_X11_constant⟩
  | 23, _ => exact absurd (by decide +kernel) h0
  | 24, _ => exact ⟨bkM_X11_decide, bkH_X11_decide⟩
  | 25, _ => exact ⟨bkM_X11_define, bkH_X11_define⟩
  | 26, _ => exact ⟨bkM_X11_digits, bkH_X11_digits⟩
  | 27, _ => exact ⟨bkM_X11_divide, bkH_X11_divide⟩
  | 28, _ => exact ⟨bkM_X11_erase, bkH_X11_erase⟩
  | 29, _ => exact ⟨bkM_X11_fill, bkH_X11_fill⟩
  | 30, _ => exact ⟨bkM_X11_greatest, bkH_X11_greatest⟩
  | 31, _ => exact ⟨bkM_X11_hasY, bkH_X11_hasY⟩
  | 32, _ => exact ⟨bkM_X11_held, bkH_X11_held⟩
  | 33, _ => exact ⟨bkM_X11_high, bkH_X11_high⟩
  | 34, _ => exact ⟨bkM_X11_isConstantSound, bkH_X11_isConstantSound⟩
  | 35, _ => exact ⟨bkM_X11_isSound, bkH_X11_isSound⟩
  | 36, _ => exact absurd (by decide +kernel) h0
  | 37, _ => exact ⟨bkM_X11_isWithin, bkH_X11_isWithin⟩
  | 38, _ => exact ⟨bkM_X11_join, bkH_X11_join⟩
  | 39, _ => exact absurd (by decide +kernel) h0
  | 40, _ => exact absurd (by decide +kernel) h0
  | 41, _ => exact ⟨bkM_X11_least, bkH_X11_least⟩
  | 42, _ => exact ⟨bkM_X11_low, bkH_X11_low⟩
  | 43, _ => exact absurd (by decide +kernel) h0
  | 44, _ => exact absurd (by decide +kernel) h0
  | 45, _ => exact absurd (by decide +kernel) h0
  | 46, _ => exact ⟨bkM_X11_meet, bkH_X11_meet⟩
  | 47, _ => exact ⟨bkM_X11_move, bkH_X11_move⟩
  | 48, _ => exact ⟨bkM_X11_multiply, bkH_X11_multiply⟩
  | 49, _ => exact ⟨bkM_X11_narrow, bkH_X11_narrow⟩
  | 50, _ => exact ⟨bkM_X11_pairs, bkH_X11_pairs⟩
  | 51, _ => exact ⟨bkM_X11_piece, bkH_X11_piece⟩
  | 52, _ => exact ⟨bkM_X11_pieceKind, bkH_X11_pieceKind⟩
  | 53, _ => exact ⟨bkM_X11_power, bkH_X11_power⟩
  | 54, _ => exact ⟨bkM_X11_put, bkH_X11_put⟩
  | 55, _ => exact ⟨bkM_X11_read, bkH_X11_read⟩
  | 56, _ => exact ⟨bkM_X11_root, bkH_X11_root⟩
  | 57, _ => exact absurd (by decide +kernel) h0
  | 58, _ => exact ⟨bkM_X11_setDigits, bkH_X11_setDigits⟩
  | 59, _ => exact absurd (by decide +kernel) h0
  | 60, _ => exact ⟨bkM_X11_signAt, bkH_X11_signAt⟩
  | 61, _ => exact ⟨bkM_X11_slope, bkH_X11_slope⟩
  | 62, _ => exact ⟨bkM_X11_solve, bkH_X11_solve⟩
  | 63, _ => exact ⟨bkM_X11_subtract, bkH_X11_subtract⟩
  | 64, _ => exact absurd (by decide +kernel) h0
  | 65, _ => exact ⟨bkM_X11_sure, bkH_X11_sure⟩
  | 66, _ => exact absurd (by decide +kernel) h0
  | 67, _ => exact ⟨bkM_X11_type, bkH_X11_type⟩
  | 68, _ => exact ⟨bkM_X11_undo, bkH_X11_undo⟩
  | 69, _ => exact ⟨bkM_X11_unitOf, bkH_X11_unitOf⟩
  | 70, _ => exact ⟨bkM_X11_value, bkH_X11_value⟩
  | 71, _ => exact ⟨bkM_X11_width, bkH_X11_width⟩
  | 72, _ => exact ⟨bkM_X11_zeros, bkH_X11_zeros⟩
  | k + 73, h => omega
