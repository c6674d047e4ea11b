/-! The checks, method by method. -/
def bchk1 (y : bM) (z : Nat × bO) : Bool := bchkD y.2.1 z.1 z.2 && bchkX bcjs y.1.cls y.1.name z.1 z.2
noncomputable def bchk2 (y : bM) (z : Nat × bO) : Bool := bchk1 y z && bchkC bmeth bmjs y.1.cls z.2 && bchkT bexx bstr y.1.cls y.2.1 z.1 z.2
noncomputable def bchk3 (y : bM) (l : List (Nat × bO)) : Bool := decide (y.2.2.1 ≤ 80) && plainFor y.1 && l.all (bchk2 y)
def bAllOk (ok : bM → List (Nat × bO) → Prop) (L : List (List (Nat × bO))) (Ms : List bM) : Prop := match L, Ms with
  | [], _ => True
  | l :: t, m :: u => ok m l ∧ bAllOk ok t u
  | _ :: _, [] => False
theorem bchk3_app {y : bM} {a b : List (Nat × bO)} (h1 : bchk3 y a = true) (h2 : bchk3 y b = true) : bchk3 y (a ++ b) = true := by
  unfold bchk3 at h1 h2 ⊢
  rw [List.all_append, Bool.and_eq_true_iff] at *
  rw [h1.1, h1.2, h2.2]
  exact ⟨rfl, rfl⟩
noncomputable def bm_2 (k : Nat) : bM := bmc_2.getD k bnoM
theorem bkD_X0_init : bchk3 (bm_2 0) bk_X0_init = true := by decide +kernel
theorem bkD_X0_difference : bchk3 (bm_2 1) bk_X0_difference = true := by decide +kernel
theorem bkD_X0_judged : bchk3 (bm_2 2) bk_X0_judged = true := by decide +kernel
theorem bkD_X0_negative : bchk3 (bm_2 3) bk_X0_negative = true := by decide +kernel
theorem bkD_X0_ofOne : bchk3 (bm_2 4) bk_X0_ofOne = true := by decide +kernel
theorem bkD_X0_product : bchk3 (bm_2 5) bk_X0_product = true := by decide +kernel
theorem bkD_X0_quotient : bchk3 (bm_2 6) bk_X0_quotient = true := by decide +kernel
theorem bkD_X0_size : bchk3 (bm_2 7) bk_X0_size = true := by decide +kernel
theorem bkD_X0_sum : bchk3 (bm_2 8) bk_X0_sum = true := by decide +kernel
theorem bkD_X0_tellConstant : bchk3 (bm_2 9) bk_X0_tellConstant = true := by decide +kernel
theorem bkD_X0_tellNumber : bchk3 (bm_2 10) bk_X0_tellNumber = true := by decide +kernel
theorem bkD_X0_tellText : bchk3 (bm_2 11) bk_X0_tellText = true := by decide +kernel
theorem bkD_X0_told : bchk3 (bm_2 12) bk_X0_told = true := by decide +kernel
theorem bkD_X0_useDigits : bchk3 (bm_2 13) bk_X0_useDigits = true := by decide +kernel
theorem bkA_2 : bAllOk (fun y l => bchk3 y l = true) bkc_2 bmc_2 := ⟨bkD_X0_init, bkD_X0_difference, bkD_X0_judged, bkD_X0_negative, bkD_X0_ofOne, bkD_X0_product, bkD_X0_quotient, bkD_X0_size, bkD_X0_sum, bkD_X0_tellConstant, bkD_X0_tellNumber, bkD_X0_tellText, bkD_X0_told, bkD_X0_useDigits, trivial⟩
theorem bkM_X0_init : bchkM bmeth bmjs 512 = true := by decide +kernel
theorem bkH_X0_init : bHead (bm_2 0) ∈ bw_G := bw_in (bprog_in 1 _ (List.mem_of_getElem? (i := 136) rfl)) rfl
theorem bkM_X0_tellConstant : bchkM bmeth bmjs 521 = true := by decide +kernel
theorem bkH_X0_tellConstant : bHead (bm_2 9) ∈ bw_G := bw_in (bprog_in 3 _ (List.mem_of_getElem? (i := 88) rfl)) rfl
theorem bkM_X0_tellNumber : bchkM bmeth bmjs 522 = true := by decide +kernel
theorem bkH_X0_tellNumber : bHead (bm_2 10) ∈ bw_G := bw_in (bprog_in 3 _ (List.mem_of_getElem? (i := 34) rfl)) rfl
theorem bkM_X0_told : bchkM bmeth bmjs 524 = true := by decide +kernel
theorem bkH_X0_told : bHead (bm_2 12) ∈ bw_G := bw_in (bprog_in 3 _ (List.mem_of_getElem? (i := 53) rfl)) rfl
theorem bkM_X0_useDigits : bchkM bmeth bmjs 525 = true := by decide +kernel
theorem bkH_X0_useDigits : bHead (bm_2 13) ∈ bw_G := bw_in (bprog_in 2 _ (List.mem_of_getElem? (i := 64) rfl)) rfl
theorem bkMA_2 : ∀ k, k < 14 → (bmjs (512 + k)).1 ≠ 0 → bchkM bmeth bmjs (512 + k) = true ∧ bHead (bm_2 k) ∈ bw_G := by
  intro k hk h0
  match k, hk with
  | 0, _ => exact ⟨bkM_X0_init, bkH_X0_init⟩
  | 1, _ => exact absurd (by decide +kernel) h0
  | 2, _ => exact absurd (by decide +kernel) h0
  | 3, _ => exact absurd (by decide +kernel) h0
  | 4, _ => exact absurd (by decide +kernel) h0
  | 5, _ => exact absurd (by decide +kernel) h0
  | 6, _ => exact absurd (by decide +kernel) h0
  | 7, _ => exact absurd (by decide +kernel) h0
  | 8, _ => exact absurd (by decide +kernel) h0
  | 9, _ => exact ⟨bkM_X0_tellConstant, bkH_X0_tellConstant⟩
  | 10, _ => exact ⟨bkM_X0_tellNumber, bkH_X0_tellNumber⟩
  | 11, _ => exact absurd (by decide +kernel) h0
  | 12, _ => exact ⟨bkM_X0_told, bkH_X0_told⟩
  | 13, _ => exact ⟨bkM_X0_useDigits, bkH_X0_useDigits⟩
  | k + 14, h => omega
noncomputable def bm_3 (k : Nat) : bM := bmc_3.getD k bnoM
theorem bkD_X1_init : bchk3 (bm_3 0) bk_X1_init = true := by decide +kernel
theorem bkD_X1_against : bchk3 (bm_3 1) bk_X1_against = true := by decide +kernel
theorem bkD_X1_assign : bchk3 (bm_3 2) bk_X1_assign = true := by decide +kernel
theorem bkD_X1_copy : bchk3 (bm_3 3) bk_X1_copy = true := by decide +kernel
theorem bkD_X1_halve : bchk3 (bm_3 4) bk_X1_halve = true := by decide +kernel
theorem bkD_X1_isBelow : bchk3 (bm_3 5) bk_X1_isBelow = true := by decide +kernel
theorem bkD_X1_isNegative : bchk3 (bm_3 6) bk_X1_isNegative = true := by decide +kernel
theorem bkD_X1_isPositive : bchk3 (bm_3 7) bk_X1_isPositive = true := by decide +kernel
theorem bkD_X1_isTooGreat : bchk3 (bm_3 8) bk_X1_isTooGreat = true := by decide +kernel
theorem bkD_X1_isZero : bchk3 (bm_3 9) bk_X1_isZero = true := by decide +kernel
theorem bkD_X1_roundDown : bchk3 (bm_3 10) bk_X1_roundDown = true := by decide +kernel
theorem bkD_X1_roundUp : bchk3 (bm_3 11) bk_X1_roundUp = true := by decide +kernel
theorem bkD_X1_shift : bchk3 (bm_3 12) bk_X1_shift = true := by decide +kernel
theorem bkD_X1_toDifference : bchk3 (bm_3 13) bk_X1_toDifference = true := by decide +kernel
theorem bkD_X1_toMultiple : bchk3 (bm_3 14) bk_X1_toMultiple = true := by decide +kernel
theorem bkD_X1_toSum : bchk3 (bm_3 15) bk_X1_toSum = true := by decide +kernel
theorem bkD_X1_turn : bchk3 (bm_3 16) bk_X1_turn = true := by decide +kernel
theorem bkA_3 : bAllOk (fun y l => bchk3 y l = true) bkc_3 bmc_3 := ⟨bkD_X1_init, bkD_X1_against, bkD_X1_assign, bkD_X1_copy, bkD_X1_halve, bkD_X1_isBelow, bkD_X1_isNegative, bkD_X1_isPositive, bkD_X1_isTooGreat, bkD_X1_isZero, bkD_X1_roundDown, bkD_X1_roundUp, bkD_X1_shift, bkD_X1_toDifference, bkD_X1_toMultiple, bkD_X1_toSum, bkD_X1_turn, trivial⟩
theorem bkM_X1_init : bchkM bmeth bmjs 768 = true := by decide +kernel
theorem bkH_X1_init : bHead (bm_3 0) ∈ bw_G := bw_in (bprog_in 1 _ (List.mem_of_getElem? (i := 72) rfl)) rfl
theorem bkM_X1_against : bchkM bmeth bmjs 769 = true := by decide +kernel
theorem bkH_X1_against : bHead (bm_3 1) ∈ bw_G := bw_in (bprog_in 3 _ (List.mem_of_getElem? (i := 135) rfl)) rfl
theorem bkM_X1_copy : bchkM bmeth bmjs 771 = true := by decide +kernel
theorem bkH_X1_copy : bHead (bm_3 3) ∈ bw_G := bw_in (bprog_in 3 _ (List.mem_of_getElem? (i := 61) rfl)) rfl
theorem bkM_X1_isBelow : bchkM bmeth bmjs 773 = true := by decide +kernel
theorem bkH_X1_isBelow : bHead (bm_3 5) ∈ bw_G := bw_in (bprog_in 3 _ (List.mem_of_getElem? (i := 183) rfl)) rfl
theorem bkM_X1_isTooGreat : bchkM bmeth bmjs 776 = true := by decide +kernel
theorem bkH_X1_isTooGreat : bHead (bm_3 8) ∈ bw_G := bw_in (bprog_in 3 _ (List.mem_of_getElem? (i := 82) rfl)) rfl
theorem bkM_X1_roundDown : bchkM bmeth bmjs 778 = true := by decide +kernel
theorem bkH_X1_roundDown : bHead (bm_3 10) ∈ bw_G := bw_in (bprog_in 3 _ (List.mem_of_getElem? (i := 65) rfl)) rfl
theorem bkM_X1_roundUp : bchkM bmeth bmjs 779 = true := by decide +kernel
theorem bkH_X1_roundUp : bHead (bm_3 11) ∈ bw_G := bw_in (bprog_in 3 _ (List.mem_of_getElem? (i := 73) rfl)) rfl
theorem bkMA_3 : ∀ k, k < 17 → (bmjs (768 + k)).1 ≠ 0 → bchkM bmeth bmjs (768 + k) = true ∧ bHead (bm_3 k) ∈ bw_G := by
  intro k hk h0
  match k, hk with
  | 0, _ => exact ⟨bkM_X1_init, bkH_X1_init⟩
  | 1, _ => exact ⟨bkM_X1_against, bkH_X1_against⟩
  | 2, _ => exact absurd (by decide +kernel) h0
  | 3, _ => exact ⟨bkM_X1_copy, bkH_X1_copy⟩
  | 4, _ => exact absurd (by decide +kernel) h0
  | 5, _ => exact ⟨bkM_X1_isBelow, bkH_X1_isBelow⟩
  | 6, _ => exact absurd (by decide +kernel) h0
  | 7, _ => exact absurd (by decide +kernel) h0
  | 8, _ => exact ⟨bkM_X1_isTooGreat, bkH_X1_isTooGreat⟩
  | 9, _ => exact absurd (by decide +kernel) h0
  | 10, _ => exact ⟨bkM_X1_roundDown, bkH_X1_roundDown⟩
  | 11, _ => exact ⟨bkM_X1_roundUp, bkH_X1_roundUp⟩
  | 12, _ => exact absurd (by decide +kernel) h0
  | 13, _ => exact absurd (by decide +kernel) h0
  | 14, _ => exact absurd (by decide +kernel) h0
  | 15, _ => exact absurd (by decide +kernel) h0
  | 16, _ => exact absurd (by decide +kernel) h0
  | k + 17, h => omega
noncomputable def bm_4 (k : Nat) : bM := bmc_4.getD k bnoM
theorem bkD_X2_init : bchk3 (bm_4 0) bk_X2_init = true := by decide +kernel
theorem bkD_X2_between : bchk3 (bm_4 1) bk_X2_between = true := by decide +kernel
