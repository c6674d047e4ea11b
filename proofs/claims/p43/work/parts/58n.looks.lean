/-! THE MODEL: which formulas there are. -/
section MODEL
variable {e : tE} {d n D : Nat} {M : tM}
theorem o_isFormula {x : Int} (hx : -2147483648 ≤ x ∧ x < 2147483648) (hd : 1 ≤ d) : tC e d 3631 [.inl x] M n (tQi n (fun z M' => (z = 1 ∧ (0 ≤ x ∧ x ≤ 3) ∨ z = 0 ∧ ¬ (0 ≤ x ∧ x ≤ 3)) ∧ M = M')) := by
  refine tst_X12_isFormula ?_
  refine tb_X12_isFormula_0 (c := false) ?_
  simp only [kb_X12_isFormula_0, w_ild_0, w_i2l, w_lc0, w_ld2, w_is3, tfr_0, tfr_1, tfr_2, tfr_3, tfr_4, w_ire, trg, true_and, and_true, Nat.reduceAdd, Nat.reduceSub, eq_self]
  refine ⟨by omega, ?_⟩
  refine tc_i (D := 0) (fun d' hd' => c_in (by omega) (by omega) (by omega)) (by omega) ?_
  rintro z M1 ⟨q1, rfl⟩
  try simp only [kb_X12_isFormula_0, w_ild_0, w_i2l, w_lc0, w_ld2, w_is3, tfr_0, tfr_1, tfr_2, tfr_3, tfr_4, w_ire, trg, true_and, and_true, Nat.reduceAdd, Nat.reduceSub, eq_self]
  exact ⟨by omega, z, rfl, rfl, q1, rfl⟩
theorem o_noLook {x y : Int} (hx : -2147483648 ≤ x ∧ x < 2147483648) (hy : -2147483648 ≤ y ∧ y < 2147483648) (hd : 2 ≤ d) : tC e d 3667 [.inr (.inr (.inl 664)), .inl x, .inl y] M n (tQi n (fun v M' => (v = 0 ∧ (0 ≤ x ∧ x ≤ 3) ∧ (0 ≤ y ∧ y ≤ 9) ∨ v = 1) ∧ M' = M)) := by
  refine tst_X12_noLook ?_
  have n19 : ∀ v : Int, (v = 0 ∧ (0 ≤ x ∧ x ≤ 3) ∧ (0 ≤ y ∧ y ≤ 9) ∨ v = 1) → tT e d 3667 19 [some (.inr (.inr (.inl 664))), some (.inl x), some (.inl y)] [.inl v] M n (tQi n (fun v M' => (v = 0 ∧ (0 ≤ x ∧ x ≤ 3) ∧ (0 ≤ y ∧ y ≤ 9) ∨ v = 1) ∧ M' = M)) := by
    intro v hv
    refine tb_X12_noLook_19 (c := false) ?_
    simp only [kb_X12_noLook_19, w_ire, trg, true_and, and_true, Nat.reduceAdd, Nat.reduceSub, eq_self]
    exact ⟨v, rfl, rfl, hv, rfl⟩
  have n14 : tT e d 3667 14 [some (.inr (.inr (.inl 664))), some (.inl x), some (.inl y)] [] M n (tQi n (fun v M' => (v = 0 ∧ (0 ≤ x ∧ x ≤ 3) ∧ (0 ≤ y ∧ y ≤ 9) ∨ v = 1) ∧ M' = M)) := by
    refine tb_X12_noLook_14 (c := false) ?_
    simp only [kb_X12_noLook_14, w_ic, w_goto, true_and, and_true, Nat.reduceAdd, Nat.reduceSub, eq_self]
    exact n19 1 (by omega)
  refine tb_X12_noLook_0 (c := false) ?_
  simp only [kb_X12_noLook_0, w_ild_2, w_is1, tfr_0, tfr_1, tfr_2, tfr_3, tfr_4, w_if_eq, w_ild_1, w_if_ne, w_nil, true_and, and_true, Nat.reduceAdd, Nat.reduceSub, eq_self]
  refine tc_i (D := 1) (fun d' hd' => o_isShelf hy hd') (by omega) ?_
  rintro z1 M1 ⟨q1, rfl⟩
  try simp only [kb_X12_noLook_0, w_ild_2, w_is1, tfr_0, tfr_1, tfr_2, tfr_3, tfr_4, w_if_eq, w_ild_1, w_if_ne, w_nil, true_and, and_true, Nat.reduceAdd, Nat.reduceSub, eq_self]
  refine ⟨by omega, fun h => n14, fun h => ?_⟩
  refine tc_i (D := 1) (fun d' hd' => o_isFormula hx hd') (by omega) ?_
  rintro z2 M2 ⟨q2, rfl⟩
  try simp only [kb_X12_noLook_0, w_ild_2, w_is1, tfr_0, tfr_1, tfr_2, tfr_3, tfr_4, w_if_eq, w_ild_1, w_if_ne, w_nil, true_and, and_true, Nat.reduceAdd, Nat.reduceSub, eq_self]
  refine ⟨by omega, fun h => ?_, fun h => n14⟩
  refine tb_X12_noLook_18 (c := false) ?_
  simp only [kb_X12_noLook_18, w_ic, w_nil, true_and, and_true, Nat.reduceAdd, Nat.reduceSub, eq_self]
  exact n19 0 (by omega)
end MODEL
