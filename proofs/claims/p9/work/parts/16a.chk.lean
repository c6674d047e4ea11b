/-! The checks, method by method. -/
def bchk1 (y : bM) (z : Nat × bO) : Bool := bchkD y.2.1 z.1 z.2 && bchkX bcjs y.1.cls y.1.name z.1 z.2
noncomputable def bchk2 (y : bM) (z : Nat × bO) : Bool := bchk1 y z && bchkC bmeth bmjs y.1.cls z.2 && bchkT bexx bstr y.1.cls y.2.1 z.1 z.2
noncomputable def bchk3 (y : bM) (l : List (Nat × bO)) : Bool := decide (y.2.2.1 ≤ 80) && plainFor y.1 && l.all (bchk2 y)
def bAllOk (ok : bM → List (Nat × bO) → Prop) (L : List (List (Nat × bO))) (Ms : List bM) : Prop := match L, Ms with
  | [], _ => True
  | l :: t, m :: u => ok m l ∧ bAllOk ok t u
  | _ :: _, [] => False
theorem bchk3_app {y : bM} {a b : List (Nat × bO)} (h1 : bchk3 y a = true) (h2 : bchk3 y b = true) : bchk3 y (a ++ b) = true := sorry
noncomputable def bm_2 (k : Nat) : bM := bmc_2.getD k bnoM
theorem bkD_X0_init : bchk3 (bm_2 0) bk_X0_init = true := sorry
theorem bkD_X0_difference : bchk3 (bm_2 1) bk_X0_difference = true := sorry
theorem bkD_X0_judged : bchk3 (bm_2 2) bk_X0_judged = true := sorry
theorem bkD_X0_negative : bchk3 (bm_2 3) bk_X0_negative = true := sorry
theorem bkD_X0_ofOne_0 : bchk3 (bm_2 4) bk_X0_ofOne_0 = true := sorry
theorem bkD_X0_ofOne_1 : bchk3 (bm_2 4) bk_X0_ofOne_1 = true := sorry
theorem bkD_X0_ofOne_2 : bchk3 (bm_2 4) bk_X0_ofOne_2 = true := sorry
theorem bkD_X0_ofOne : bchk3 (bm_2 4) bk_X0_ofOne = true := sorry
theorem bkD_X0_product_0 : bchk3 (bm_2 5) bk_X0_product_0 = true := sorry
theorem bkD_X0_product_1 : bchk3 (bm_2 5) bk_X0_product_1 = true := sorry
theorem bkD_X0_product : bchk3 (bm_2 5) bk_X0_product = true := sorry
theorem bkD_X0_quotient_0 : bchk3 (bm_2 6) bk_X0_quotient_0 = true := sorry
theorem bkD_X0_quotient_1 : bchk3 (bm_2 6) bk_X0_quotient_1 = true := sorry
theorem bkD_X0_quotient : bchk3 (bm_2 6) bk_X0_quotient = true := sorry
theorem bkD_X0_size : bchk3 (bm_2 7) bk_X0_size = true := sorry
theorem bkD_X0_sum : bchk3 (bm_2 8) bk_X0_sum = true := sorry
theorem bkD_X0_tellConstant : bchk3 (bm_2 9) bk_X0_tellConstant = true := sorry
theorem bkD_X0_tellNumber : bchk3 (bm_2 10) bk_X0_tellNumber = true := sorry
theorem bkD_X0_tellText : bchk3 (bm_2 11) bk_X0_tellText = true := sorry
theorem bkD_X0_told : bchk3 (bm_2 12) bk_X0_told = true := sorry
theorem bkD_X0_useDigits : bchk3 (bm_2 13) bk_X0_useDigits = true := sorry
theorem bkA_2 : bAllOk (fun y l => bchk3 y l = true) bkc_2 bmc_2 := sorry
theorem bkM_X0_init : bchkM bmeth bmjs 512 = true := sorry
theorem bkH_X0_init : bHead (bm_2 0) ∈ bw_G := sorry
theorem bkM_X0_difference : bchkM bmeth bmjs 513 = true := sorry
theorem bkH_X0_difference : bHead (bm_2 1) ∈ bw_G := sorry
theorem bkM_X0_judged : bchkM bmeth bmjs 514 = true := sorry
theorem bkH_X0_judged : bHead (bm_2 2) ∈ bw_G := sorry
theorem bkM_X0_negative : bchkM bmeth bmjs 515 = true := sorry
theorem bkH_X0_negative : bHead (bm_2 3) ∈ bw_G := sorry
theorem bkM_X0_ofOne : bchkM bmeth bmjs 516 = true := sorry
theorem bkH_X0_ofOne : bHead (bm_2 4) ∈ bw_G := sorry
theorem bkM_X0_product : bchkM bmeth bmjs 517 = true := sorry
theorem bkH_X0_product : bHead (bm_2 5) ∈ bw_G := sorry
theorem bkM_X0_quotient : bchkM bmeth bmjs 518 = true := sorry
theorem bkH_X0_quotient : bHead (bm_2 6) ∈ bw_G := sorry
theorem bkM_X0_size : bchkM bmeth bmjs 519 = true := sorry
theorem bkH_X0_size : bHead (bm_2 7) ∈ bw_G := sorry
theorem bkM_X0_sum : bchkM bmeth bmjs 520 = true := sorry
theorem bkH_X0_sum : bHead (bm_2 8) ∈ bw_G := sorry
theorem bkM_X0_tellConstant : bchkM bmeth bmjs 521 = true := sorry
theorem bkH_X0_tellConstant : bHead (bm_2 9) ∈ bw_G := sorry
theorem bkM_X0_tellNumber : bchkM bmeth bmjs 522 = true := sorry
theorem bkH_X0_tellNumber : bHead (bm_2 10) ∈ bw_G := sorry
theorem bkM_X0_tellText : bchkM bmeth bmjs 523 = true := sorry
theorem bkH_X0_tellText : bHead (bm_2 11) ∈ bw_G := sorry
theorem bkM_X0_told : bchkM bmeth bmjs 524 = true := sorry
theorem bkH_X0_told : bHead (bm_2 12) ∈ bw_G := sorry
theorem bkM_X0_useDigits : bchkM bmeth bmjs 525 = true := sorry
theorem bkH_X0_useDigits : bHead (bm_2 13) ∈ bw_G := sorry
theorem bkMA_2 : ∀ k, k < 14 → (bmjs (512 + k)).1 ≠ 0 → bchkM bmeth bmjs (512 + k) = true ∧ bHead (bm_2 k) ∈ bw_G := sorry
noncomputable def bm_3 (k : Nat) : bM := bmc_3.getD k bnoM
theorem bkD_X1_init : bchk3 (bm_3 0) bk_X1_init = true := sorry
theorem bkD_X1_against : bchk3 (bm_3 1) bk_X1_against = true := sorry
theorem bkD_X1_assign : bchk3 (bm_3 2) bk_X1_assign = true := sorry
theorem bkD_X1_copy : bchk3 (bm_3 3) bk_X1_copy = true := sorry
theorem bkD_X1_halve : bchk3 (bm_3 4) bk_X1_halve = true := sorry
theorem bkD_X1_isBelow : bchk3 (bm_3 5) bk_X1_isBelow = true := sorry
theorem bkD_X1_isNegative : bchk3 (bm_3 6) bk_X1_isNegative = true := sorry
theorem bkD_X1_isPositive : bchk3 (bm_3 7) bk_X1_isPositive = true := sorry
theorem bkD_X1_isTooGreat : bchk3 (bm_3 8) bk_X1_isTooGreat = true := sorry
theorem bkD_X1_isZero : bchk3 (bm_3 9) bk_X1_isZero = true := sorry
