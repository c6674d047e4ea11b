/-! THE MODEL: shelves compared. -/
section MODEL
variable {e : tE} {d n D : Nat} {M : tM}
theorem o_isLess {x y : Int} (hB : BI M) (hx : 0 ≤ x ∧ x < 700) (hy : 0 ≤ y ∧ y < 700) (hd : 1 ≤ d) : tC e d 3632 [.inr (.inr (.inl 664)), .inl x, .inl y] M n (tQi n (fun z M' => (z = 0 ∨ z = 1) ∧ M' = M)) := by
  refine tst_X12_isLess ?_
  have g1 := hB x hx.1 hx.2
  have g2 := hB y hy.1 hy.2
  unfold bcan at g1 g2
  have n35 : ∀ z : Int, (z = 0 ∨ z = 1) → tT e d 3632 35 [some (.inr (.inr (.inl 664))), some (.inl x), some (.inl y)] [.inl z] M n (tQi n (fun z M' => (z = 0 ∨ z = 1) ∧ M' = M)) := by
    intro z hz
    refine tb_X12_isLess_35 (c := false) ?_
    simp only [kb_X12_isLess_35, w_ire, trg, true_and, and_true, Nat.reduceAdd, Nat.reduceSub, eq_self]
    exact ⟨by omega, z, rfl, rfl, hz, rfl⟩
  refine tb_X12_isLess_0 (c := false) ?_
  simp only [kb_X12_isLess_0, w_ald_0, w_gf_14_8, tw_f, w_ild_1, w_la, w_lax, w_gf_14_9, w_gf_14_6, w_ild_2, w_gf_14_7, w_is4, tfr_0, tfr_1, tfr_2, tfr_3, tfr_4, w_if_ge, w_ic, w_goto, true_and, and_true, Nat.reduceAdd, Nat.reduceSub, eq_self, tshm_14, tykm_14, tci_14, tshm_667, tshm_668, tshm_669, tshm_670, tykm_33, tci_700]
  refine ⟨hx, hx, hy, hy, ?_⟩
  refine tc_i (D := 0) (fun d' hd' => c_order (by omega) (by omega) (by omega) (by omega)) (by omega) ?_
  rintro z M1 ⟨q1, rfl⟩
  try simp only [kb_X12_isLess_0, w_ald_0, w_gf_14_8, tw_f, w_ild_1, w_la, w_lax, w_gf_14_9, w_gf_14_6, w_ild_2, w_gf_14_7, w_is4, tfr_0, tfr_1, tfr_2, tfr_3, tfr_4, w_if_ge, w_ic, w_goto, true_and, and_true, Nat.reduceAdd, Nat.reduceSub, eq_self, tshm_14, tykm_14, tci_14, tshm_667, tshm_668, tshm_669, tshm_670, tykm_33, tci_700]
  have hz : -1 ≤ z ∧ z ≤ 1 := by rw [q1]; unfold cmpz; split <;> (try split) <;> omega
  refine ⟨by omega, fun h => ?_, fun h => n35 1 (by omega)⟩
  refine tb_X12_isLess_34 (c := false) ?_
  simp only [kb_X12_isLess_34, w_ic, w_nil, true_and, and_true, Nat.reduceAdd, Nat.reduceSub, eq_self]
  exact n35 0 (by omega)
theorem o_isWithinOf {x y : Int} (hB : BI M) (hx : 0 ≤ x ∧ x < 700) (hy : 0 ≤ y ∧ y < 700) (hd : 1 ≤ d) : tC e d 3638 [.inr (.inr (.inl 664)), .inl x, .inl y] M n (tQi n (fun z M' => (z = 0 ∨ z = 1) ∧ M' = M)) := by
  refine tst_X12_isWithinOf ?_
  have g1 := hB x hx.1 hx.2
  have g2 := hB y hy.1 hy.2
  unfold bcan at g1 g2
  have n65 : ∀ z : Int, (z = 0 ∨ z = 1) → tT e d 3638 65 [some (.inr (.inr (.inl 664))), some (.inl x), some (.inl y)] [.inl z] M n (tQi n (fun z M' => (z = 0 ∨ z = 1) ∧ M' = M)) := by
    intro z hz
    refine tb_X12_isWithinOf_65 (c := false) ?_
    simp only [kb_X12_isWithinOf_65, w_ire, trg, true_and, and_true, Nat.reduceAdd, Nat.reduceSub, eq_self]
    exact ⟨by omega, z, rfl, rfl, hz, rfl⟩
  have n64 : tT e d 3638 64 [some (.inr (.inr (.inl 664))), some (.inl x), some (.inl y)] [] M n (tQi n (fun z M' => (z = 0 ∨ z = 1) ∧ M' = M)) := by
    refine tb_X12_isWithinOf_64 (c := false) ?_
    simp only [kb_X12_isWithinOf_64, w_ic, w_nil, true_and, and_true, Nat.reduceAdd, Nat.reduceSub, eq_self]
    exact n65 0 (by omega)
  refine tb_X12_isWithinOf_0 (c := false) ?_
  simp only [kb_X12_isWithinOf_0, w_ald_0, w_gf_14_6, tw_f, w_ild_1, w_la, w_lax, w_gf_14_7, w_ild_2, w_is4, tfr_0, tfr_1, tfr_2, tfr_3, tfr_4, w_if_lt, w_gf_14_8, w_gf_14_9, w_if_gt, w_ic, w_goto, true_and, and_true, Nat.reduceAdd, Nat.reduceSub, eq_self, tshm_14, tykm_14, tci_14, tshm_667, tshm_668, tshm_669, tshm_670, tykm_33, tci_700]
  refine ⟨hx, hx, hy, hy, ?_⟩
  refine tc_i (D := 0) (fun d' hd' => c_order (by omega) (by omega) (by omega) (by omega)) (by omega) ?_
  rintro z M1 ⟨q1, rfl⟩
  try simp only [kb_X12_isWithinOf_0, w_ald_0, w_gf_14_6, tw_f, w_ild_1, w_la, w_lax, w_gf_14_7, w_ild_2, w_is4, tfr_0, tfr_1, tfr_2, tfr_3, tfr_4, w_if_lt, w_gf_14_8, w_gf_14_9, w_if_gt, w_ic, w_goto, true_and, and_true, Nat.reduceAdd, Nat.reduceSub, eq_self, tshm_14, tykm_14, tci_14, tshm_667, tshm_668, tshm_669, tshm_670, tykm_33, tci_700]
  have hz : -1 ≤ z ∧ z ≤ 1 := by rw [q1]; exact cmpz_r _ _
  refine ⟨by omega, fun h => n64, fun h => ⟨hx, hx, hy, hy, ?_⟩⟩
  refine tc_i (D := 0) (fun d' hd' => c_order (by omega) (by omega) (by omega) (by omega)) (by omega) ?_
  rintro z2 M1 ⟨q2, rfl⟩
  try simp only [kb_X12_isWithinOf_0, w_ald_0, w_gf_14_6, tw_f, w_ild_1, w_la, w_lax, w_gf_14_7, w_ild_2, w_is4, tfr_0, tfr_1, tfr_2, tfr_3, tfr_4, w_if_lt, w_gf_14_8, w_gf_14_9, w_if_gt, w_ic, w_goto, true_and, and_true, Nat.reduceAdd, Nat.reduceSub, eq_self, tshm_14, tykm_14, tci_14, tshm_667, tshm_668, tshm_669, tshm_670, tykm_33, tci_700]
  have hz : -1 ≤ z2 ∧ z2 ≤ 1 := by rw [q2]; exact cmpz_r _ _
  exact ⟨by omega, fun h => n64, fun h => n65 1 (by omega)⟩
theorem o_isWithin {x1 x2 : Int} (hP : MP M D) (h1 : -2147483648 ≤ x1 ∧ x1 < 2147483648) (h2 : -2147483648 ≤ x2 ∧ x2 < 2147483648) (hd : 3 ≤ d) : tC e d 3637 [.inr (.inr (.inl 664)), .inl x1, .inl x2] M n (tQi n (fun z M' => (z = 0 ∨ z = 1) ∧ MP M' D ∧ ME M M')) := by
  refine tst_X12_isWithin ?_
  have n28 : ∀ (M1 : tM) (z : Int), (z = 0 ∨ z = 1) → MP M1 D → ME M M1 → tT e d 3637 28 [some (.inr (.inr (.inl 664))), some (.inl x1), some (.inl x2)] [.inl z] M1 n (tQi n (fun z M' => (z = 0 ∨ z = 1) ∧ MP M' D ∧ ME M M')) := by
    intro M1 z q1 q2 q3
    refine tb_X12_isWithin_28 (c := false) ?_
    simp only [kb_X12_isWithin_28, w_ire, trg, true_and, and_true, Nat.reduceAdd, Nat.reduceSub, eq_self]
    exact ⟨by omega, z, rfl, rfl, q1, q2, q3⟩
  have n27 : ∀ M1 : tM, MP M1 D → ME M M1 → tT e d 3637 27 [some (.inr (.inr (.inl 664))), some (.inl x1), some (.inl x2)] [] M1 n (tQi n (fun z M' => (z = 0 ∨ z = 1) ∧ MP M' D ∧ ME M M')) := by
    intro M1 q2 q3
    refine tb_X12_isWithin_27 (c := false) ?_
    simp only [kb_X12_isWithin_27, w_ic, w_nil, true_and, and_true, Nat.reduceAdd, Nat.reduceSub, eq_self]
    exact n28 M1 0 (Or.inl rfl) q2 q3
  refine tb_X12_isWithin_0 (c := false) ?_
  simp only [kb_X12_isWithin_0, w_ald_0, w_ild_1, w_ild_2, w_iv3, tfr_0, tfr_1, tfr_2, tfr_3, tfr_4, w_iv1, w_if_ne, w_iv2, w_if_eq, w_ic, w_goto, true_and, and_true, Nat.reduceAdd, Nat.reduceSub, eq_self, tshm_14, tykm_14, tci_14, tshm_667, tshm_668, tshm_669, tshm_670, tykm_33, tci_700]
  refine tc_i (D := 2) (fun d' hd' => o_noPair h1 h1 h2 hP.2.1 hd') (by omega) ?_
  rintro v M1 ⟨q1, rfl⟩
  try simp only [kb_X12_isWithin_0, w_ald_0, w_ild_1, w_ild_2, w_iv3, tfr_0, tfr_1, tfr_2, tfr_3, tfr_4, w_iv1, w_if_ne, w_iv2, w_if_eq, w_ic, w_goto, true_and, and_true, Nat.reduceAdd, Nat.reduceSub, eq_self, tshm_14, tykm_14, tci_14, tshm_667, tshm_668, tshm_669, tshm_670, tykm_33, tci_700]
  refine tc_i (D := 0) (fun d' hd' => o_fails (by omega)) (by omega) ?_
  rintro z M2 ⟨q2, rfl⟩
  try simp only [kb_X12_isWithin_0, w_ald_0, w_ild_1, w_ild_2, w_iv3, tfr_0, tfr_1, tfr_2, tfr_3, tfr_4, w_iv1, w_if_ne, w_iv2, w_if_eq, w_ic, w_goto, true_and, and_true, Nat.reduceAdd, Nat.reduceSub, eq_self, tshm_14, tykm_14, tci_14, tshm_667, tshm_668, tshm_669, tshm_670, tykm_33, tci_700]
  have h4 := MP_3 (v := v) hP
  refine ⟨by omega, fun h => n27 _ h4.1 h4.2, fun h => ?_⟩
  refine tc_i (D := 1) (fun d' hd' => o_isWithinOf h4.1.1.2.2.2.2.1 (by omega) (by omega) hd') (by omega) ?_
  rintro z2 M3 ⟨p1, rfl⟩
  try simp only [kb_X12_isWithin_0, w_ald_0, w_ild_1, w_ild_2, w_iv3, tfr_0, tfr_1, tfr_2, tfr_3, tfr_4, w_iv1, w_if_ne, w_iv2, w_if_eq, w_ic, w_goto, true_and, and_true, Nat.reduceAdd, Nat.reduceSub, eq_self, tshm_14, tykm_14, tci_14, tshm_667, tshm_668, tshm_669, tshm_670, tykm_33, tci_700]
  exact ⟨by omega, fun h => n27 _ h4.1 h4.2, fun h => n28 _ 1 (Or.inr rfl) h4.1 h4.2⟩
theorem o_compare {x1 x2 : Int} (hP : MP M D) (h1 : -2147483648 ≤ x1 ∧ x1 < 2147483648) (h2 : -2147483648 ≤ x2 ∧ x2 < 2147483648) (hd : 3 ≤ d) : tC e d 3598 [.inr (.inr (.inl 664)), .inl x1, .inl x2] M n (tQi n (fun z M' => (-1 ≤ z ∧ z ≤ 2) ∧ MP M' D ∧ ME M M')) := by
  refine tst_X12_compare ?_
  have n103 : ∀ (M1 : tM) (z w : Int), (-1 ≤ z ∧ z ≤ 2) → MP M1 D → ME M M1 → tT e d 3598 103 [some (.inr (.inr (.inl 664))), some (.inl x1), some (.inl x2), some (.inl w)] [.inl z] M1 n (tQi n (fun z M' => (-1 ≤ z ∧ z ≤ 2) ∧ MP M' D ∧ ME M M')) := by
    intro M1 z w q1 q2 q3
    refine tb_X12_compare_103 (c := false) ?_
    simp only [kb_X12_compare_103, w_ire, trg, true_and, and_true, Nat.reduceAdd, Nat.reduceSub, eq_self]
    exact ⟨z, rfl, rfl, q1, q2, q3⟩
  have n67 : ∀ (M1 : tM) (w : Int), (0 ≤ w ∧ w ≤ 1) → (0 ≤ x1 ∧ x1 ≤ 9) → (0 ≤ x2 ∧ x2 ≤ 9) → MP M1 D → ME M M1 → tT e d 3598 67 [some (.inr (.inr (.inl 664))), some (.inl x1), some (.inl x2), none] [.inl w] M1 n (tQi n (fun z M' => (-1 ≤ z ∧ z ≤ 2) ∧ MP M' D ∧ ME M M')) := by
    intro M1 w hw g1 g2 q2 q3
    refine tb_X12_compare_67 (c := false) ?_
    simp only [kb_X12_compare_67, w_ist_3, tkl_n, tkl_i, tkl_l, tkl_r, w_ald_0, w_ild_1, w_ild_2, w_iv2, tfr_0, tfr_1, tfr_2, tfr_3, tfr_4, w_if_eq, w_ic, w_goto, true_and, and_true, Nat.reduceAdd, Nat.reduceSub, eq_self, tshm_14, tykm_14, tci_14, tshm_667, tshm_668, tshm_669, tshm_670, tykm_33, tci_700]
    refine tc_i (D := 1) (fun d' hd' => o_isLess q2.1.2.2.2.2.1 (by omega) (by omega) hd') (by omega) ?_
    rintro z2 M3 ⟨p1, rfl⟩
    try simp only [kb_X12_compare_67, w_ist_3, tkl_n, tkl_i, tkl_l, tkl_r, w_ald_0, w_ild_1, w_ild_2, w_iv2, tfr_0, tfr_1, tfr_2, tfr_3, tfr_4, w_if_eq, w_ic, w_goto, true_and, and_true, Nat.reduceAdd, Nat.reduceSub, eq_self, tshm_14, tykm_14, tci_14, tshm_667, tshm_668, tshm_669, tshm_670, tykm_33, tci_700]
    refine ⟨by omega, fun h => ?_, fun h => n103 _ (-1) w (by omega) q2 q3⟩
    refine tb_X12_compare_81 (c := false) ?_
    simp only [kb_X12_compare_81, w_ald_0, w_ild_2, w_ild_1, w_iv2, tfr_0, tfr_1, tfr_2, tfr_3, tfr_4, w_if_eq, w_ic, w_goto, true_and, and_true, Nat.reduceAdd, Nat.reduceSub, eq_self, tshm_14, tykm_14, tci_14, tshm_667, tshm_668, tshm_669, tshm_670, tykm_33, tci_700]
    refine tc_i (D := 1) (fun d' hd' => o_isLess q2.1.2.2.2.2.1 (by omega) (by omega) hd') (by omega) ?_
    rintro z3 M3 ⟨p2, rfl⟩
    try simp only [kb_X12_compare_81, w_ald_0, w_ild_2, w_ild_1, w_iv2, tfr_0, tfr_1, tfr_2, tfr_3, tfr_4, w_if_eq, w_ic, w_goto, true_and, and_true, Nat.reduceAdd, Nat.reduceSub, eq_self, tshm_14, tykm_14, tci_14, tshm_667, tshm_668, tshm_669, tshm_670, tykm_33, tci_700]
    refine ⟨by omega, fun h => ?_, fun h => n103 _ 1 w (by omega) q2 q3⟩
    refine tb_X12_compare_94 (c := false) ?_
    simp only [kb_X12_compare_94, w_ild_3, w_if_eq, w_ic, w_goto, true_and, and_true, Nat.reduceAdd, Nat.reduceSub, eq_self]
    refine ⟨by omega, fun h => ?_, fun h => n103 _ 0 w (by omega) q2 q3⟩
    refine tb_X12_compare_102 (c := false) ?_
    simp only [kb_X12_compare_102, w_ic, w_nil, true_and, and_true, Nat.reduceAdd, Nat.reduceSub, eq_self]
    exact n103 _ 2 w (by omega) q2 q3
  have n66 : ∀ M1 : tM, (0 ≤ x1 ∧ x1 ≤ 9) → (0 ≤ x2 ∧ x2 ≤ 9) → MP M1 D → ME M M1 → tT e d 3598 66 [some (.inr (.inr (.inl 664))), some (.inl x1), some (.inl x2), none] [] M1 n (tQi n (fun z M' => (-1 ≤ z ∧ z ≤ 2) ∧ MP M' D ∧ ME M M')) := by
    intro M1 g1 g2 q2 q3
    refine tb_X12_compare_66 (c := false) ?_
    simp only [kb_X12_compare_66, w_ic, w_nil, true_and, and_true, Nat.reduceAdd, Nat.reduceSub, eq_self]
    exact n67 M1 0 (by omega) g1 g2 q2 q3
  have n16 : ∀ M1 : tM, (0 ≤ x1 ∧ x1 ≤ 9) → (0 ≤ x2 ∧ x2 ≤ 9) → MP M1 D → ME M M1 → tT e d 3598 16 [some (.inr (.inr (.inl 664))), some (.inl x1), some (.inl x2), none] [] M1 n (tQi n (fun z M' => (-1 ≤ z ∧ z ≤ 2) ∧ MP M' D ∧ ME M M')) := by
    intro M1 g1 g2 q2 q3
    have hB := q2.1.2.2.2.2.1
    have b1 := hB x1 (by omega) (by omega)
    have b2 := hB x2 (by omega) (by omega)
    have c1 := b1
    have c2 := b2
    unfold bcan at c1 c2
    refine tb_X12_compare_16 (c := false) ?_
    simp only [kb_X12_compare_16, w_ald_0, w_ild_1, w_iv1, tfr_0, tfr_1, tfr_2, tfr_3, tfr_4, w_if_eq, w_ild_2, w_gf_14_6, tw_f, w_la, w_lax, w_gf_14_7, w_is4, w_if_ne, w_ic, w_goto, true_and, and_true, Nat.reduceAdd, Nat.reduceSub, eq_self, tshm_14, tykm_14, tci_14, tshm_667, tshm_668, tshm_669, tshm_670, tykm_33, tci_700]
    refine tc_i (D := 0) (fun d' hd' => c_isSingle (by omega) b1) (by omega) ?_
    rintro z2 M3 ⟨p1, rfl⟩
    try simp only [kb_X12_compare_16, w_ald_0, w_ild_1, w_iv1, tfr_0, tfr_1, tfr_2, tfr_3, tfr_4, w_if_eq, w_ild_2, w_gf_14_6, tw_f, w_la, w_lax, w_gf_14_7, w_is4, w_if_ne, w_ic, w_goto, true_and, and_true, Nat.reduceAdd, Nat.reduceSub, eq_self, tshm_14, tykm_14, tci_14, tshm_667, tshm_668, tshm_669, tshm_670, tykm_33, tci_700]
    refine ⟨by omega, fun h => n66 _ g1 g2 q2 q3, fun h => ?_⟩
    refine tc_i (D := 0) (fun d' hd' => c_isSingle (by omega) b2) (by omega) ?_
    rintro z3 M3 ⟨p2, rfl⟩
    try simp only [kb_X12_compare_16, w_ald_0, w_ild_1, w_iv1, tfr_0, tfr_1, tfr_2, tfr_3, tfr_4, w_if_eq, w_ild_2, w_gf_14_6, tw_f, w_la, w_lax, w_gf_14_7, w_is4, w_if_ne, w_ic, w_goto, true_and, and_true, Nat.reduceAdd, Nat.reduceSub, eq_self, tshm_14, tykm_14, tci_14, tshm_667, tshm_668, tshm_669, tshm_670, tykm_33, tci_700]
    refine ⟨by omega, fun h => n66 _ g1 g2 q2 q3, fun h => ⟨by omega, by omega, by omega, by omega, ?_⟩⟩
    refine tc_i (D := 0) (fun d' hd' => c_order (by omega) (by omega) (by omega) (by omega)) (by omega) ?_
    rintro z4 M3 ⟨p3, rfl⟩
    try simp only [kb_X12_compare_16, w_ald_0, w_ild_1, w_iv1, tfr_0, tfr_1, tfr_2, tfr_3, tfr_4, w_if_eq, w_ild_2, w_gf_14_6, tw_f, w_la, w_lax, w_gf_14_7, w_is4, w_if_ne, w_ic, w_goto, true_and, and_true, Nat.reduceAdd, Nat.reduceSub, eq_self, tshm_14, tykm_14, tci_14, tshm_667, tshm_668, tshm_669, tshm_670, tykm_33, tci_700]
    have hz : -1 ≤ z4 ∧ z4 ≤ 1 := by rw [p3]; exact cmpz_r _ _
    exact ⟨by omega, fun h => n66 _ g1 g2 q2 q3, fun h => n67 _ 1 (by omega) g1 g2 q2 q3⟩
  refine tb_X12_compare_0 (c := false) ?_
  simp only [kb_X12_compare_0, w_ald_0, w_ild_1, w_ild_2, w_iv3, tfr_0, tfr_1, tfr_2, tfr_3, tfr_4, w_iv1, w_if_eq, w_ic, w_ire, trg, true_and, and_true, Nat.reduceAdd, Nat.reduceSub, eq_self, tshm_14, tykm_14, tci_14, tshm_667, tshm_668, tshm_669, tshm_670, tykm_33, tci_700]
  refine tc_i (D := 2) (fun d' hd' => o_noPair h1 h1 h2 hP.2.1 hd') (by omega) ?_
  rintro v M1 ⟨q1, rfl⟩
  try simp only [kb_X12_compare_0, w_ald_0, w_ild_1, w_ild_2, w_iv3, tfr_0, tfr_1, tfr_2, tfr_3, tfr_4, w_iv1, w_if_eq, w_ic, w_ire, trg, true_and, and_true, Nat.reduceAdd, Nat.reduceSub, eq_self, tshm_14, tykm_14, tci_14, tshm_667, tshm_668, tshm_669, tshm_670, tykm_33, tci_700]
  refine tc_i (D := 0) (fun d' hd' => o_fails (by omega)) (by omega) ?_
  rintro z M2 ⟨q2, rfl⟩
  try simp only [kb_X12_compare_0, w_ald_0, w_ild_1, w_ild_2, w_iv3, tfr_0, tfr_1, tfr_2, tfr_3, tfr_4, w_iv1, w_if_eq, w_ic, w_ire, trg, true_and, and_true, Nat.reduceAdd, Nat.reduceSub, eq_self, tshm_14, tykm_14, tci_14, tshm_667, tshm_668, tshm_669, tshm_670, tykm_33, tci_700]
  have h4 := MP_3 (v := v) hP
  refine ⟨by omega, fun h => n16 _ (by omega) (by omega) h4.1 h4.2, fun h => ?_⟩
  exact ⟨0, rfl, rfl, by omega, h4.1, h4.2⟩
end MODEL
