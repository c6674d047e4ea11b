/-! THE MODEL: join and meet. -/
section MODEL
variable {e : tE} {d n D : Nat} {M : tM}
theorem o_join {x1 x2 x3 : Int} (hP : MP M D) (h1 : -2147483648 ≤ x1 ∧ x1 < 2147483648) (h2 : -2147483648 ≤ x2 ∧ x2 < 2147483648) (h3 : -2147483648 ≤ x3 ∧ x3 < 2147483648) (hd : 3 ≤ d) : tC e d 3639 [.inr (.inr (.inl 664)), .inl x1, .inl x2, .inl x3] M n (tQi n (fun z M' => (z = 0 ∨ z = 1) ∧ MP M' D ∧ ME M M')) := by
  refine tst_X12_join ?_
  have n16 : ∀ M1 : tM, (0 ≤ x1 ∧ x1 ≤ 9) → (0 ≤ x2 ∧ x2 ≤ 9) → (0 ≤ x3 ∧ x3 ≤ 9) → MP M1 D → ME M M1 → tT e d 3639 16 [some (.inr (.inr (.inl 664))), some (.inl x1), some (.inl x2), some (.inl x3), none] [] M1 n (tQi n (fun z M' => (z = 0 ∨ z = 1) ∧ MP M' D ∧ ME M M')) := by
    intro M1 g1 g2 g3 q1 q2
    refine tb_X12_join_16 (c := false) ?_
    simp only [kb_X12_join_16, w_ald_0, w_bi, w_ild_2, w_ild_3, w_ic, w_iv4, tfr_0, tfr_1, tfr_2, tfr_3, tfr_4, w_ist4, tkl_n, tkl_i, tkl_l, tkl_r, w_ild_1, w_iv2, w_ire, trg, true_and, and_true, Nat.reduceAdd, Nat.reduceSub, eq_self, tshm_14, tykm_14, tci_14]
    refine tc_i (D := 2) (fun d' hd' => o_joins q1 g2 g3 (Or.inl rfl) hd') (by omega) ?_
    rintro z M2 ⟨p1, p2, p3, p4⟩
    try simp only [kb_X12_join_16, w_ald_0, w_bi, w_ild_2, w_ild_3, w_ic, w_iv4, tfr_0, tfr_1, tfr_2, tfr_3, tfr_4, w_ist4, tkl_n, tkl_i, tkl_l, tkl_r, w_ild_1, w_iv2, w_ire, trg, true_and, and_true, Nat.reduceAdd, Nat.reduceSub, eq_self, tshm_14, tykm_14, tci_14]
    refine tc_i (D := 2) (fun d' hd' => o_becomes_p p3 g1 (by omega) (p2 (Or.inr rfl)) hd') (by omega) ?_
    rintro z2 M3 ⟨r1, r2, r3⟩
    try simp only [kb_X12_join_16, w_ald_0, w_bi, w_ild_2, w_ild_3, w_ic, w_iv4, tfr_0, tfr_1, tfr_2, tfr_3, tfr_4, w_ist4, tkl_n, tkl_i, tkl_l, tkl_r, w_ild_1, w_iv2, w_ire, trg, true_and, and_true, Nat.reduceAdd, Nat.reduceSub, eq_self, tshm_14, tykm_14, tci_14]
    exact ⟨by omega, z2, rfl, rfl, r1, r2, ME_tr q2 (ME_tr p4 r3)⟩
  refine tb_X12_join_0 (c := false) ?_
  simp only [kb_X12_join_0, w_ald_0, w_ild_1, w_ild_2, w_ild_3, w_iv3, tfr_0, tfr_1, tfr_2, tfr_3, tfr_4, w_iv1, w_if_eq, w_ic, w_ire, trg, true_and, and_true, Nat.reduceAdd, Nat.reduceSub, eq_self, tshm_14, tykm_14, tci_14]
  refine tc_i (D := 2) (fun d' hd' => o_noPair h1 h2 h3 hP.2.1 hd') (by omega) ?_
  rintro v M1 ⟨q1, rfl⟩
  try simp only [kb_X12_join_0, w_ald_0, w_ild_1, w_ild_2, w_ild_3, w_iv3, tfr_0, tfr_1, tfr_2, tfr_3, tfr_4, w_iv1, w_if_eq, w_ic, w_ire, trg, true_and, and_true, Nat.reduceAdd, Nat.reduceSub, eq_self, tshm_14, tykm_14, tci_14]
  refine tc_i (D := 0) (fun d' hd' => o_fails (by omega)) (by omega) ?_
  rintro z M2 ⟨q2, rfl⟩
  try simp only [kb_X12_join_0, w_ald_0, w_ild_1, w_ild_2, w_ild_3, w_iv3, tfr_0, tfr_1, tfr_2, tfr_3, tfr_4, w_iv1, w_if_eq, w_ic, w_ire, trg, true_and, and_true, Nat.reduceAdd, Nat.reduceSub, eq_self, tshm_14, tykm_14, tci_14]
  have h4 := MP_3 (v := v) hP
  refine ⟨by omega, fun h => n16 _ (by omega) (by omega) (by omega) h4.1 h4.2, fun h => ?_⟩
  exact ⟨by omega, 0, rfl, rfl, Or.inl rfl, h4.1, h4.2⟩
theorem o_meet {x1 x2 x3 : Int} (hP : MP M D) (h1 : -2147483648 ≤ x1 ∧ x1 < 2147483648) (h2 : -2147483648 ≤ x2 ∧ x2 < 2147483648) (h3 : -2147483648 ≤ x3 ∧ x3 < 2147483648) (hd : 3 ≤ d) : tC e d 3654 [.inr (.inr (.inl 664)), .inl x1, .inl x2, .inl x3] M n (tQi n (fun z M' => (z = 0 ∨ z = 1) ∧ MP M' D ∧ ME M M')) := by
  refine tst_X12_meet ?_
  have n59 : ∀ (M1 : tM) (z : Int) (w : Option tV), (z = 0 ∨ z = 1) → MP M1 D → ME M M1 → tT e d 3654 59 [some (.inr (.inr (.inl 664))), some (.inl x1), some (.inl x2), some (.inl x3), w] [.inl z] M1 n (tQi n (fun z M' => (z = 0 ∨ z = 1) ∧ MP M' D ∧ ME M M')) := by
    intro M1 z w q1 q2 q3
    refine tb_X12_meet_59 (c := false) ?_
    simp only [kb_X12_meet_59, w_ire, trg, true_and, and_true, Nat.reduceAdd, Nat.reduceSub, eq_self]
    exact ⟨by omega, z, rfl, rfl, q1, q2, q3⟩
  have n58 : ∀ (M1 : tM) (w : Option tV), MP M1 D → ME M M1 → tT e d 3654 58 [some (.inr (.inr (.inl 664))), some (.inl x1), some (.inl x2), some (.inl x3), w] [] M1 n (tQi n (fun z M' => (z = 0 ∨ z = 1) ∧ MP M' D ∧ ME M M')) := by
    intro M1 w q2 q3
    refine tb_X12_meet_58 (c := false) ?_
    simp only [kb_X12_meet_58, w_ic, w_nil, true_and, and_true, Nat.reduceAdd, Nat.reduceSub, eq_self]
    exact n59 M1 0 _ (Or.inl rfl) q2 q3
  have n38 : ∀ (M1 : tM) (v : Int) (w : Option tV), (v = 0 ∨ v = 2) → (v = 0 → OB M1 60) → (0 ≤ x1 ∧ x1 ≤ 9) → MP M1 D → ME M M1 → tT e d 3654 38 [some (.inr (.inr (.inl 664))), some (.inl x1), some (.inl x2), some (.inl x3), w] [.inl v, .inr (.inr (.inl 664))] M1 n (tQi n (fun z M' => (z = 0 ∨ z = 1) ∧ MP M' D ∧ ME M M')) := by
    intro M1 v w hv ho g1 q1 q2
    refine tb_X12_meet_38 (c := false) ?_
    simp only [kb_X12_meet_38, w_iv1, tfr_0, tfr_1, tfr_2, tfr_3, tfr_4, w_if_ne, w_ald_0, w_ild_1, w_bi, w_iv2, w_if_eq, w_ic, w_goto, true_and, and_true, Nat.reduceAdd, Nat.reduceSub, eq_self, tshm_14, tykm_14, tci_14]
    refine tc_i (D := 0) (fun d' hd' => o_fails (by omega)) (by omega) ?_
    rintro z M2 ⟨p1, rfl⟩
    try simp only [kb_X12_meet_38, w_iv1, tfr_0, tfr_1, tfr_2, tfr_3, tfr_4, w_if_ne, w_ald_0, w_ild_1, w_bi, w_iv2, w_if_eq, w_ic, w_goto, true_and, and_true, Nat.reduceAdd, Nat.reduceSub, eq_self, tshm_14, tykm_14, tci_14]
    have h4 := MP_3 (v := v) q1
    refine ⟨by omega, fun h => n58 _ _ h4.1 (ME_tr q2 h4.2), fun h => ?_⟩
    have ho2 : OB (tU M1 664 3 v) 60 := OB_same (fun k g => tU_nk (by unfold isB at g; omega)) (ho (by omega))
    refine tc_i (D := 2) (fun d' hd' => o_becomes_p h4.1 g1 (by omega) ho2 hd') (by omega) ?_
    rintro z2 M3 ⟨r1, r2, r3⟩
    try simp only [kb_X12_meet_38, w_iv1, tfr_0, tfr_1, tfr_2, tfr_3, tfr_4, w_if_ne, w_ald_0, w_ild_1, w_bi, w_iv2, w_if_eq, w_ic, w_goto, true_and, and_true, Nat.reduceAdd, Nat.reduceSub, eq_self, tshm_14, tykm_14, tci_14]
    exact ⟨by omega, fun h => n58 _ _ r2 (ME_tr q2 (ME_tr h4.2 r3)), fun h => n59 _ 1 _ (Or.inr rfl) r2 (ME_tr q2 (ME_tr h4.2 r3))⟩
  have n16 : ∀ M1 : tM, (0 ≤ x1 ∧ x1 ≤ 9) → (0 ≤ x2 ∧ x2 ≤ 9) → (0 ≤ x3 ∧ x3 ≤ 9) → MP M1 D → ME M M1 → tT e d 3654 16 [some (.inr (.inr (.inl 664))), some (.inl x1), some (.inl x2), some (.inl x3), none] [] M1 n (tQi n (fun z M' => (z = 0 ∨ z = 1) ∧ MP M' D ∧ ME M M')) := by
    intro M1 g1 g2 g3 q1 q2
    refine tb_X12_meet_16 (c := false) ?_
    simp only [kb_X12_meet_16, w_ald_0, w_bi, w_ild_2, w_ild_3, w_ic, w_iv4, tfr_0, tfr_1, tfr_2, tfr_3, tfr_4, w_ist4, tkl_n, tkl_i, tkl_l, tkl_r, w_ild4, w_if_eq, w_goto, true_and, and_true, Nat.reduceAdd, Nat.reduceSub, eq_self, tshm_14, tykm_14, tci_14]
    refine tc_i (D := 2) (fun d' hd' => o_joins q1 g2 g3 (Or.inr rfl) hd') (by omega) ?_
    rintro z M2 ⟨p1, p2, p3, p4⟩
    try simp only [kb_X12_meet_16, w_ald_0, w_bi, w_ild_2, w_ild_3, w_ic, w_iv4, tfr_0, tfr_1, tfr_2, tfr_3, tfr_4, w_ist4, tkl_n, tkl_i, tkl_l, tkl_r, w_ild4, w_if_eq, w_goto, true_and, and_true, Nat.reduceAdd, Nat.reduceSub, eq_self, tshm_14, tykm_14, tci_14]
    refine ⟨by omega, fun h => ?_, fun h => n38 _ 0 _ (Or.inl rfl) (fun _ => p2 (by omega)) g1 p3 (ME_tr q2 p4)⟩
    refine tb_X12_meet_37 (c := false) ?_
    simp only [kb_X12_meet_37, w_ic, w_nil, true_and, and_true, Nat.reduceAdd, Nat.reduceSub, eq_self]
    exact n38 _ 2 _ (Or.inr rfl) (fun g => absurd g (by decide)) g1 p3 (ME_tr q2 p4)
  refine tb_X12_meet_0 (c := false) ?_
  simp only [kb_X12_meet_0, w_ald_0, w_ild_1, w_ild_2, w_ild_3, w_iv3, tfr_0, tfr_1, tfr_2, tfr_3, tfr_4, w_iv1, w_if_eq, w_ic, w_ire, trg, true_and, and_true, Nat.reduceAdd, Nat.reduceSub, eq_self, tshm_14, tykm_14, tci_14]
  refine tc_i (D := 2) (fun d' hd' => o_noPair h1 h2 h3 hP.2.1 hd') (by omega) ?_
  rintro v M1 ⟨q1, rfl⟩
  try simp only [kb_X12_meet_0, w_ald_0, w_ild_1, w_ild_2, w_ild_3, w_iv3, tfr_0, tfr_1, tfr_2, tfr_3, tfr_4, w_iv1, w_if_eq, w_ic, w_ire, trg, true_and, and_true, Nat.reduceAdd, Nat.reduceSub, eq_self, tshm_14, tykm_14, tci_14]
  refine tc_i (D := 0) (fun d' hd' => o_fails (by omega)) (by omega) ?_
  rintro z M2 ⟨q2, rfl⟩
  try simp only [kb_X12_meet_0, w_ald_0, w_ild_1, w_ild_2, w_ild_3, w_iv3, tfr_0, tfr_1, tfr_2, tfr_3, tfr_4, w_iv1, w_if_eq, w_ic, w_ire, trg, true_and, and_true, Nat.reduceAdd, Nat.reduceSub, eq_self, tshm_14, tykm_14, tci_14]
  have h4 := MP_3 (v := v) hP
  refine ⟨by omega, fun h => n16 _ (by omega) (by omega) (by omega) h4.1 h4.2, fun h => ?_⟩
  exact ⟨by omega, 0, rfl, rfl, Or.inl rfl, h4.1, h4.2⟩
end MODEL
