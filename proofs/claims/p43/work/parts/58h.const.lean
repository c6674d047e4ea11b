/-! THE MODEL: constants, digits, what is undone. -/
section MODEL
variable {e : tE} {d n D : Nat} {M : tM}
/-- a shelf becomes a box that is sound -/
theorem o_becomes_p {x y : Int} (hP : MP M D) (hx : 0 ≤ x ∧ x ≤ 9) (hy : 0 ≤ y ∧ y < 700) (hO : OB M y) (hd : 2 ≤ d) : tC e d 3593 [.inr (.inr (.inl 664)), .inl x, .inl y] M n (tQi n (fun z M' => (z = 0 ∨ z = 1) ∧ MP M' D ∧ ME M M')) := by
  obtain ⟨⟨a1, a2, a3, a4, a5, a6⟩, a7, a8⟩ := hP
  refine tC_mono (o_becomes a7 hx hy a5 (a8 x (by omega) (by omega)) hd) ?_
  rintro v M2 n' ⟨z, r1, r2, p1, p2, p3, p4, p5, p6⟩
  refine ⟨z, r1, r2, p1, ⟨⟨(p3 _ _ (by decide) (by decide) (by unfold isB; omega)).trans a1, a2, (p3 _ _ (by decide) (by decide) (by unfold isB; omega)).trans a3, a4, p4, KI_same (fun k i g => p3 k i (by omega) (by omega) (by unfold isB; omega)) a6⟩, p2, fun b b1 b2 => ?_⟩, fun k i g1 g2 g3 => p3 k i (by omega) g3 (by unfold isB; omega)⟩
  by_cases hb : b = x
  · unfold OB at hO ⊢
    rw [hb, p5, p6]
    exact hO
  · exact OB_same (fun k g => p3 k b (by unfold isB at g; omega) (by unfold isB at g; omega) (fun q => hb q.2)) (a8 b b1 b2)
theorem o_constant {x c : Int} (hP : MP M D) (h1 : -2147483648 ≤ x ∧ x < 2147483648) (hc : 0 ≤ c ∧ c < 65536) (hd : 7 ≤ d) : tC e d 3600 [.inr (.inr (.inl 664)), .inl x, .inl c] M n (tQi n (fun z M' => (z = 0 ∨ z = 1) ∧ MP M' D ∧ ME M M')) := by
  refine tst_X12_constant ?_
  have n51 : ∀ (M0 : tM) (w : Int), MP M0 D → ME M M0 → (0 ≤ x ∧ x ≤ 9) → (w = 0 ∨ w = 1) → tT e d 3600 51 [some (.inr (.inr (.inl 664))), some (.inl x), some (.inl c)] [.inl w, .inl 60, .inr (.inr (.inl 664))] M0 n (tQi n (fun z M' => (z = 0 ∨ z = 1) ∧ MP M' D ∧ ME M M')) := by
    intro M0 w q1 q2 g1 hw
    refine tb_X12_constant_51 (c := false) ?_
    simp only [kb_X12_constant_51, w_iv2, tfr_0, tfr_1, tfr_2, tfr_3, tfr_4, w_ald_0, w_ild_1, w_bi, w_ire, trg, true_and, and_true, Nat.reduceAdd, Nat.reduceSub, eq_self, tshm_14, tykm_14, tci_14, tsn_671, tyn_17, tcn_10, tsn_674, tsn_675, tsn_676, tsn_677, tsn_678, tsn_679, tyn_19, tyn_20, tyn_34, tcn_12]
    refine tc_n (D := 5) (fun d' hd' => o_known q1.1 (by omega) hw hd') (by omega) ?_
    rintro M1 ⟨p1, p2⟩
    try simp only [kb_X12_constant_51, w_iv2, tfr_0, tfr_1, tfr_2, tfr_3, tfr_4, w_ald_0, w_ild_1, w_bi, w_ire, trg, true_and, and_true, Nat.reduceAdd, Nat.reduceSub, eq_self, tshm_14, tykm_14, tci_14, tsn_671, tyn_17, tcn_10, tsn_674, tsn_675, tsn_676, tsn_677, tsn_678, tsn_679, tyn_19, tyn_20, tyn_34, tcn_12]
    have h4 := MP_x q1 p2
    refine tc_i (D := 2) (fun d' hd' => o_becomes_p h4.1 g1 (by omega) p1 hd') (by omega) ?_
    rintro z M2 ⟨r1, r2, r3⟩
    try simp only [kb_X12_constant_51, w_iv2, tfr_0, tfr_1, tfr_2, tfr_3, tfr_4, w_ald_0, w_ild_1, w_bi, w_ire, trg, true_and, and_true, Nat.reduceAdd, Nat.reduceSub, eq_self, tshm_14, tykm_14, tci_14, tsn_671, tyn_17, tcn_10, tsn_674, tsn_675, tsn_676, tsn_677, tsn_678, tsn_679, tyn_19, tyn_20, tyn_34, tcn_12]
    exact ⟨by omega, z, rfl, rfl, r1, r2, ME_tr q2 (ME_tr h4.2 r3)⟩
  have n37 : ∀ M0 : tM, MP M0 D → ME M M0 → (0 ≤ x ∧ x ≤ 9) → tT e d 3600 37 [some (.inr (.inr (.inl 664))), some (.inl x), some (.inl c)] [] M0 n (tQi n (fun z M' => (z = 0 ∨ z = 1) ∧ MP M' D ∧ ME M M')) := by
    intro M0 q1 q2 g1
    refine tb_X12_constant_37 (c := false) ?_
    simp only [kb_X12_constant_37, w_ald_0, w_bi, w_ild_2, w_ic_ne, w_ic, w_goto, true_and, and_true, Nat.reduceAdd, Nat.reduceSub, eq_self]
    refine ⟨by omega, fun h => ?_, fun h => n51 M0 1 q1 q2 g1 (Or.inr rfl)⟩
    refine tb_X12_constant_50 (c := false) ?_
    simp only [kb_X12_constant_50, w_ic, w_nil, true_and, and_true, Nat.reduceAdd, Nat.reduceSub, eq_self]
    exact n51 M0 0 q1 q2 g1 (Or.inl rfl)
  have n29 : ∀ v : Int, (0 ≤ v ∧ v ≤ 3) → (v = 0 → (0 ≤ x ∧ x ≤ 9)) → tT e d 3600 29 [some (.inr (.inr (.inl 664))), some (.inl x), some (.inl c)] [.inl v, .inr (.inr (.inl 664))] M n (tQi n (fun z M' => (z = 0 ∨ z = 1) ∧ MP M' D ∧ ME M M')) := by
    intro v hv hv0
    refine tb_X12_constant_29 (c := false) ?_
    simp only [kb_X12_constant_29, w_iv1, tfr_0, tfr_1, tfr_2, tfr_3, tfr_4, w_if_eq, w_ic, w_ire, trg, true_and, and_true, Nat.reduceAdd, Nat.reduceSub, eq_self, tshm_14, tykm_14, tci_14, tsn_671, tyn_17, tcn_10, tsn_674, tsn_675, tsn_676, tsn_677, tsn_678, tsn_679, tyn_19, tyn_20, tyn_34, tcn_12]
    refine tc_i (D := 0) (fun d' hd' => o_fails (by omega)) (by omega) ?_
    rintro z M2 ⟨q2, rfl⟩
    try simp only [kb_X12_constant_29, w_iv1, tfr_0, tfr_1, tfr_2, tfr_3, tfr_4, w_if_eq, w_ic, w_ire, trg, true_and, and_true, Nat.reduceAdd, Nat.reduceSub, eq_self, tshm_14, tykm_14, tci_14, tsn_671, tyn_17, tcn_10, tsn_674, tsn_675, tsn_676, tsn_677, tsn_678, tsn_679, tyn_19, tyn_20, tyn_34, tcn_12]
    have h4 := MP_3 (v := v) hP
    refine ⟨by omega, fun h => ?_, fun h => ?_⟩
    · exact n37 _ h4.1 h4.2 (hv0 (by omega))
    · exact ⟨by omega, 0, rfl, rfl, Or.inl rfl, h4.1, h4.2⟩
  have n28 : (0 ≤ x ∧ x ≤ 9) → tT e d 3600 28 [some (.inr (.inr (.inl 664))), some (.inl x), some (.inl c)] [.inr (.inr (.inl 664))] M n (tQi n (fun z M' => (z = 0 ∨ z = 1) ∧ MP M' D ∧ ME M M')) := by
    intro g1
    refine tb_X12_constant_28 (c := false) ?_
    simp only [kb_X12_constant_28, w_ic, w_nil, true_and, and_true, Nat.reduceAdd, Nat.reduceSub, eq_self]
    exact n29 0 (by omega) (fun _ => g1)
  refine tb_X12_constant_0 (c := false) ?_
  simp only [kb_X12_constant_0, w_ald_0, w_ild_1, w_is1, tfr_0, tfr_1, tfr_2, tfr_3, tfr_4, w_if_ne, w_ic, w_goto, true_and, and_true, Nat.reduceAdd, Nat.reduceSub, eq_self]
  refine tc_i (D := 1) (fun d' hd' => o_isShelf h1 hd') (by omega) ?_
  rintro z1 M1 ⟨q1, rfl⟩
  try simp only [kb_X12_constant_0, w_ald_0, w_ild_1, w_is1, tfr_0, tfr_1, tfr_2, tfr_3, tfr_4, w_if_ne, w_ic, w_goto, true_and, and_true, Nat.reduceAdd, Nat.reduceSub, eq_self]
  refine ⟨by omega, fun h => ?_, fun h => n29 1 (by omega) (fun g => absurd g (by decide))⟩
  refine tb_X12_constant_12 (c := false) ?_
  simp only [kb_X12_constant_12, w_ild_2, w_bi, w_ic_eq, w_ic, w_goto, true_and, and_true, Nat.reduceAdd, Nat.reduceSub, eq_self]
  refine ⟨by omega, fun h => n28 (by omega), fun h => ⟨by omega, fun h => n28 (by omega), fun h => n29 2 (by omega) (fun g => absurd g (by decide))⟩⟩
theorem o_digits (hP : MP M D) : tC e d 3608 [.inr (.inr (.inl 664))] M n (tQi n (fun z M' => z = (D : Int) ∧ MP M' D ∧ ME M M')) := by
  refine tst_X12_digits ?_
  refine tb_X12_digits_0 (c := false) ?_
  simp only [kb_X12_digits_0, w_ald_0, w_ic, w_pf_14_3, w_gf_14_2, tw_f, w_ire, trg, true_and, and_true, Nat.reduceAdd, Nat.reduceSub, eq_self, tshm_14, tykm_14, tci_14, tsn_671, tyn_17, tcn_10, tsn_674, tsn_675, tsn_676, tsn_677, tsn_678, tsn_679, tyn_19, tyn_20, tyn_34, tcn_12]
  have h4 := MP_3 (v := 0) hP
  exact ⟨_, rfl, rfl, (tU_ni (by decide)).trans hP.1.1, h4.1, h4.2⟩
end MODEL
