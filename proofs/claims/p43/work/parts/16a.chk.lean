/-! The checks, method by method. -/
def bchk1 (y : bM) (z : Nat × bO) : Bool := bchkD y.2.1 z.1 z.2 && bchkX bcjs y.1.cls y.1.name z.1 z.2
noncomputable def bchk2 (y : bM) (z : Nat × bO) : Bool := bchk1 y z && bchkC bmeth bmjs y.1.cls z.2 && bchkT bexx bstr y.1.cls y.2.1 z.1 z.2
noncomputable def bchk3 (y : bM) (l : List (Nat × bO)) : Bool := decide (y.2.2.1 ≤ 80) && plainFor y.1 && l.all (bchk2 y)
def bAllOk (ok : bM → List (Nat × bO) → Prop) (L : List (List (Nat × bO))) (Ms : List bM) : Prop := match L, Ms with
  | [], _ => True
  | l :: t, m :: u => ok m l ∧ bAllOk ok t u
  | _ :: _, [] => False
theorem bchk3_app {y : bM} {a b : List (Nat × bO)} (h1 : bchk3 y a = true) (h2 : bchk3 y b = true) : bchk3 y (a ++ b) = true := by
  unfold bchk3 at h1 h2 ⊢
  rw [List.all_append, Bool.and_eq_true_iff] at *
  rw [h1.1, h1.2, h2.2]
  exact ⟨rfl, rfl⟩
noncomputable def bm_2 (k : Nat) : bM := bmc_2.getD k bnoM
theorem bkD_X0_init : bchk3 (bm_2 0) bk_X0_init = true := by decide +kernel
theorem bkD_X0_difference : bchk3 (bm_2 1) bk_X0_difference = true := by decide +kernel
theorem bkD_X0_judged : bchk3 (bm_2 2) bk_X0_judged = true := by decide +kernel
theorem bkD_X0_negative : bchk3 (bm_2 3) bk_X0_negative = true := by decide +kernel
theorem bkD_X0_ofOne_0 : bchk3 (bm_2 4) bk_X0_ofOne_0 = true := by decide +kernel
theorem bkD_X0_ofOne_1 : bchk3 (bm_2 4) bk_X0_ofOne_1 = true := by decide +kernel
theorem bkD_X0_ofOne_2 : bchk3 (bm_2 4) bk_X0_ofOne_2 = true := by decide +kernel
theorem bkD_X0_ofOne : bchk3 (bm_2 4) bk_X0_ofOne = true := bchk3_app bkD_X0_ofOne_0 (bchk3_app bkD_X0_ofOne_1 (bkD_X0_ofOne_2))
theorem bkD_X0_product_0 : bchk3 (bm_2 5) bk_X0_product_0 = true := by decide +kernel
theorem bkD_X0_product_1 : bchk3 (bm_2 5) bk_X0_product_1 = true := by decide +kernel
theorem bkD_X0_product : bchk3 (bm_2 5) bk_X0_product = true := bchk3_app bkD_X0_product_0 (bkD_X0_product_1)
theorem bkD_X0_quotient_0 : bchk3 (bm_2 6) bk_X0_quotient_0 = true := by decide +kernel
theorem bkD_X0_quotient_1 : bchk3 (bm_2 6) bk_X0_quotient_1 = true := by decide +kernel
theorem bkD_X0_quotient : bchk3 (bm_2 6) bk_X0_quotient = true := bchk3_app bkD_X0_quotient_0 (bkD_X0_quotient_1)
theorem bkD_X0_size : bchk3 (bm_2 7) bk_X0_size = true := by decide +kernel
theorem bkD_X0_sum : bchk3 (bm_2 8) bk_X0_sum = true := by decide +kernel
theorem bkD_X0_tellConstant : bchk3 (bm_2 9) bk_X0_tellConstant = true := by decide +kernel
theorem bkD_X0_tellNumber : bchk3 (bm_2 10) bk_X0_tellNumber = true := by decide +kernel
theorem bkD_X0_tellText : bchk3 (bm_2 11) bk_X0_tellText = true := by decide +kernel
theorem bkD_X0_told : bchk3 (bm_2 12) bk_X0_told = true := by decide +kernel
theorem bkD_X0_useDigits : bchk3 (bm_2 13) bk_X0_useDigits = true := by decide +kernel
theorem bkA_2 : bAllOk (fun y l => bchk3 y l = true) bkc_2 bmc_2 := ⟨bkD_X0_init, bkD_X0_difference, bkD_X0_judged, bkD_X0_negative, bkD_X0_ofOne, bkD_X0_product, bkD_X0_quotient, bkD_X0_size, bkD_X0_sum, bkD_X0_tellConstant, bkD_X0_tellNumber, bkD_X0_tellText, bkD_X0_told, bkD_X0_useDigits, trivial⟩
theorem bkM_X0_init : bchkM bmeth bmjs 512 = true := by decide +kernel
theorem bkH_X0_init : bHead (bm_2 0) ∈ bw_G := bw_in (bprog_in 1 _ (List.mem_of_getElem? (i := 136) rfl)) rfl
theorem bkM_X0_difference : bchkM bmeth bmjs 513 = true := by decide +kernel
theorem bkH_X0_difference : bHead (bm_2 1) ∈ bw_G := bw_in (bprog_in 3 _ (List.mem_of_getElem? (i := 119) rfl)) rfl
theorem bkM_X0_judged : bchkM bmeth bmjs 514 = true := by decide +kernel
theorem bkH_X0_judged : bHead (bm_2 2) ∈ bw_G := bw_in (bprog_in 3 _ (List.mem_of_getElem? (i := 115) rfl)) rfl
theorem bkM_X0_negative : bchkM bmeth bmjs 515 = true := by decide +kernel
theorem bkH_X0_negative : bHead (bm_2 3) ∈ bw_G := bw_in (bprog_in 3 _ (List.mem_of_getElem? (i := 229) rfl)) rfl
theorem bkM_X0_ofOne : bchkM bmeth bmjs 516 = true := by decide +kernel
theorem bkH_X0_ofOne : bHead (bm_2 4) ∈ bw_G := bw_in (bprog_in 4 _ (List.mem_of_getElem? (i := 3) rfl)) rfl
theorem bkM_X0_product : bchkM bmeth bmjs 517 = true := by decide +kernel
theorem bkH_X0_product : bHead (bm_2 5) ∈ bw_G := bw_in (bprog_in 3 _ (List.mem_of_getElem? (i := 127) rfl)) rfl
theorem bkM_X0_quotient : bchkM bmeth bmjs 518 = true := by decide +kernel
theorem bkH_X0_quotient : bHead (bm_2 6) ∈ bw_G := bw_in (bprog_in 3 _ (List.mem_of_getElem? (i := 192) rfl)) rfl
theorem bkM_X0_size : bchkM bmeth bmjs 519 = true := by decide +kernel
theorem bkH_X0_size : bHead (bm_2 7) ∈ bw_G := bw_in (bprog_in 3 _ (List.mem_of_getElem? (i := 233) rfl)) rfl
theorem bkM_X0_sum : bchkM bmeth bmjs 520 = true := by decide +kernel
theorem bkH_X0_sum : bHead (bm_2 8) ∈ bw_G := bw_in (bprog_in 3 _ (List.mem_of_getElem? (i := 102) rfl)) rfl
theorem bkM_X0_tellConstant : bchkM bmeth bmjs 521 = true := by decide +kernel
theorem bkH_X0_tellConstant : bHead (bm_2 9) ∈ bw_G := bw_in (bprog_in 3 _ (List.mem_of_getElem? (i := 88) rfl)) rfl
theorem bkM_X0_tellNumber : bchkM bmeth bmjs 522 = true := by decide +kernel
theorem bkH_X0_tellNumber : bHead (bm_2 10) ∈ bw_G := bw_in (bprog_in 3 _ (List.mem_of_getElem? (i := 34) rfl)) rfl
theorem bkM_X0_tellText : bchkM bmeth bmjs 523 = true := by decide +kernel
theorem bkH_X0_tellText : bHead (bm_2 11) ∈ bw_G := bw_in (bprog_in 5 _ (List.mem_of_getElem? (i := 194) rfl)) rfl
theorem bkM_X0_told : bchkM bmeth bmjs 524 = true := by decide +kernel
theorem bkH_X0_told : bHead (bm_2 12) ∈ bw_G := bw_in (bprog_in 3 _ (List.mem_of_getElem? (i := 53) rfl)) rfl
theorem bkM_X0_useDigits : bchkM bmeth bmjs 525 = true := by decide +kernel
theorem bkH_X0_useDigits : bHead (bm_2 13) ∈ bw_G := bw_in (bprog_in 2 _ (List.mem_of_getElem? (i := 64) rfl)) rfl
theorem bkMA_2 : ∀ k, k < 14 → (bmjs (512 + k)).1 ≠ 0 → bchkM bmeth bmjs (512 + k) = true ∧ bHead (bm_2 k) ∈ bw_G := by
  intro k hk h0
  match k, hk with
  | 0, _ => exact ⟨bkM_X0_init, bkH_X0_init⟩
  | 1, _ => exact ⟨bkM_X0_difference, bkH_X0_difference⟩
  | 2, _ => exact ⟨bkM_X0_judged, bkH_X0_judged⟩
  | 3, _ => exact ⟨bkM_X0_negative, bkH_X0_negative⟩
  | 4, _ => exact ⟨bkM_X0_ofOne, bkH_X0_ofOne⟩
  | 5, _ => exact ⟨bkM_X0_product, bkH_X0_product⟩
  | 6, _ => exact ⟨bkM_X0_quotient, bkH_X0_quotient⟩
  | 7, _ => exact ⟨bkM_X0_size, bkH_X0_size⟩
  | 8, _ => exact ⟨bkM_X0_sum, bkH_X0_sum⟩
  | 9, _ => exact ⟨bkM_X0_tellConstant, bkH_X0_tellConstant⟩
  | 10, _ => exact ⟨bkM_X0_tellNumber, bkH_X0_tellNumber⟩
  | 11, _ => exact ⟨bkM_X0_tellText, bkH_X0_tellText⟩
  | 12, _ => exact ⟨bkM_X0_told, bkH_X0_told⟩
  | 13, _ => exact ⟨bkM_X0_useDigits, bkH_X0_useDigits⟩
  | k + 14, h => omega
noncomputable def bm_3 (k : Nat) : bM := bmc_3.getD k bnoM
theorem bkD_X1_init : bchk3 (bm_3 0) bk_X1_init = true := by decide +kernel
theorem bkD_X1_against : bchk3 (bm_3 1) bk_X1_against = true := by decide +kernel
theorem bkD_X1_assign : bchk3 (bm_3 2) bk_X1_assign = true := by decide +kernel
theorem bkD_X1_copy : bchk3 (bm_3 3) bk_X1_copy = true := by decide +kernel
theorem bkD_X1_halve : bchk3 (bm_3 4) bk_X1_halve = true := by decide +kernel
theorem bkD_X1_isBelow : bchk3 (bm_3 5) bk_X1_isBelow = true := by decide +kernel
theorem bkD_X1_isNegative : bchk3 (bm_3 6) bk_X1_isNegative = true := by decide +kernel
theorem bkD_X1_isPositive : bchk3 (bm_3 7) bk_X1_isPositive = true := by decide +kernel
theorem bkD_X1_isTooGreat : bchk3 (bm_3 8) bk_X1_isTooGreat = true := by decide +kernel
theorem bkD_X1_isZero : bchk3 (bm_3 9) bk_X1_isZero = true := by decide +kernel
