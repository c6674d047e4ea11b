/-! THE MODEL: the text, sign by sign. -/

section MODEL
variable {e : tE} {d n D : Nat} {M : tM}
theorem o_type {x : Int} (hP : MF M D) (hx : 0 ≤ x ∧ x ≤ 65535) (hd : 1 ≤ d) : tC e d 3728 [.inr (.inr (.inl 664)), .inl x] M n (tQi n (fun _ M' => MF M' D ∧ MC M M')) := by
  refine tst_X12_type ?_
  have n31 : ∀ v : Int, (0 ≤ v ∧ v ≤ 2) → (v = 0 → M 664 17 ≠ 60) → tT e d 3728 31 [some (.inr (.inr (.inl 664))), some (.inl x)] [.inl v, .inr (.inr (.inl 664))] M n (tQi n (fun _ M' => MF M' D ∧ MC M M')) := by
    intro v hv hv0
    refine tb_X12_type_31 (c := false) ?_
    simp only [kb_X12_type_31, w_iv1, tfr_0, tfr_1, tfr_2, tfr_3, tfr_4, w_if_eq, w_ic, w_ire, trg, true_and, and_true, Nat.reduceAdd, Nat.reduceSub, eq_self, tshm_14, tykm_14, tci_14, tshm_667, tshm_668, tshm_669, tshm_670, tykm_33, tci_700, tsn_671, tyn_17, tcn_10, tzs_672, tzs_673, tzs_680, tzs_681, tzs_682, tzs_683, tzs_684, tzs_685, tzs_686, tzs_687, tzs_688, tzs_689, tzy_15, tzy_35, tzy_36, tzy_37, tzy_38, tzy_39, tzy_40, tzc_60, tzc_320, tzc_5, tzc_4, tzc_8]
    refine tc_i (D := 0) (fun d' hd' => o_fails (by omega)) (by omega) ?_
    rintro z M1 ⟨q1, rfl⟩
    try simp only [kb_X12_type_31, w_iv1, tfr_0, tfr_1, tfr_2, tfr_3, tfr_4, w_if_eq, w_ic, w_ire, trg, true_and, and_true, Nat.reduceAdd, Nat.reduceSub, eq_self, tshm_14, tykm_14, tci_14, tshm_667, tshm_668, tshm_669, tshm_670, tykm_33, tci_700, tsn_671, tyn_17, tcn_10, tzs_672, tzs_673, tzs_680, tzs_681, tzs_682, tzs_683, tzs_684, tzs_685, tzs_686, tzs_687, tzs_688, tzs_689, tzy_15, tzy_35, tzy_36, tzy_37, tzy_38, tzy_39, tzy_40, tzc_60, tzc_320, tzc_5, tzc_4, tzc_8]
    have hM1 := MF_3 (v := v) hP
    refine ⟨by omega, fun h => ?_, fun h => ⟨0, rfl, rfl, hM1⟩⟩
    have h17 := hP.2.1.1
    refine tb_X12_type_39 (c := false) ?_
    simp (disch := decide) only [kb_X12_type_39, w_ald_0, w_gf_14_15, tw_f, w_gf_14_17, w_ild_1, w_casz, w_dupi, w_dupr, w_ic, w_iadd, w_pf_14_17, w_ire, trg, true_and, and_true, Nat.reduceAdd, Nat.reduceSub, eq_self, tshm_14, tykm_14, tci_14, tshm_667, tshm_668, tshm_669, tshm_670, tykm_33, tci_700, tsn_671, tyn_17, tcn_10, tzs_672, tzs_673, tzs_680, tzs_681, tzs_682, tzs_683, tzs_684, tzs_685, tzs_686, tzs_687, tzs_688, tzs_689, tzy_15, tzy_35, tzy_36, tzy_37, tzy_38, tzy_39, tzy_40, tzc_60, tzc_320, tzc_5, tzc_4, tzc_8, tU_nk, tU_ni, tU_eq]
    refine ⟨by omega, by omega, _, rfl, rfl, ?_⟩
    have := MF_te (M' := tU (tU (tU M 664 3 v) 672 (M 664 17) x) 664 17 (M 664 17 + 1)) hP (TE_tr (TE_tr (TE_U (by omega)) (TE_U (by omega))) (TE_U (by omega))) (TX_l (TX_c (TX_o hP.2.1 (by decide)) hx) (by omega))
    exact this
  have n13 : tT e d 3728 13 [some (.inr (.inr (.inl 664))), some (.inl x)] [.inr (.inr (.inl 664))] M n (tQi n (fun _ M' => MF M' D ∧ MC M M')) := by
    refine tb_X12_type_13 (c := false) ?_
    simp only [kb_X12_type_13, w_ic, w_goto, true_and, and_true, Nat.reduceAdd, Nat.reduceSub, eq_self]
    exact n31 1 (by omega) (by omega)
  have h17 := hP.2.1.1
  refine tb_X12_type_0 (c := false) ?_
  simp only [kb_X12_type_0, w_ald_0, w_ild_1, w_bi, w_ic_lt, w_ic_le, w_nil, true_and, and_true, Nat.reduceAdd, Nat.reduceSub, eq_self]
  refine ⟨by omega, fun h => n13, fun h => ⟨by omega, fun h => ?_, fun h => n13⟩⟩
  refine tb_X12_type_17 (c := false) ?_
  simp only [kb_X12_type_17, w_ald_0, w_gf_14_17, tw_f, w_bi, w_ic_ne, w_ic, w_goto, true_and, and_true, Nat.reduceAdd, Nat.reduceSub, eq_self, tshm_14, tykm_14, tci_14, tshm_667, tshm_668, tshm_669, tshm_670, tykm_33, tci_700, tsn_671, tyn_17, tcn_10, tzs_672, tzs_673, tzs_680, tzs_681, tzs_682, tzs_683, tzs_684, tzs_685, tzs_686, tzs_687, tzs_688, tzs_689, tzy_15, tzy_35, tzy_36, tzy_37, tzy_38, tzy_39, tzy_40, tzc_60, tzc_320, tzc_5, tzc_4, tzc_8]
  refine ⟨by omega, fun h => ?_, fun h => n31 2 (by omega) (by omega)⟩
  refine tb_X12_type_30 (c := false) ?_
  simp only [kb_X12_type_30, w_ic, w_nil, true_and, and_true, Nat.reduceAdd, Nat.reduceSub, eq_self]
  exact n31 0 (by omega) (fun _ => h)
theorem o_erase (hP : MF M D) : tC e d 3612 [.inr (.inr (.inl 664))] M n (tQi n (fun _ M' => MF M' D ∧ MC M M')) := by
  refine tst_X12_erase ?_
  refine tb_X12_erase_0 (c := false) ?_
  simp (disch := decide) only [kb_X12_erase_0, w_ald_0, w_ic, w_pf_14_3, w_gf_14_17, tw_f, w_ist_1, tkl_n, tkl_i, tkl_l, tkl_r, w_pf_14_17, w_ild_1, w_ire, trg, true_and, and_true, Nat.reduceAdd, Nat.reduceSub, eq_self, tshm_14, tykm_14, tci_14, tshm_667, tshm_668, tshm_669, tshm_670, tykm_33, tci_700, tsn_671, tyn_17, tcn_10, tzs_672, tzs_673, tzs_680, tzs_681, tzs_682, tzs_683, tzs_684, tzs_685, tzs_686, tzs_687, tzs_688, tzs_689, tzy_15, tzy_35, tzy_36, tzy_37, tzy_38, tzy_39, tzy_40, tzc_60, tzc_320, tzc_5, tzc_4, tzc_8, tU_nk, tU_ni, tU_eq]
  refine ⟨_, rfl, rfl, ?_⟩
  exact MF_te hP (TE_tr (TE_U (by omega)) (TE_U (by omega))) (TX_l (TX_o hP.2.1 (by decide)) (by omega))
theorem o_signAt {x : Int} (hP : MF M D) (hx : (-2147483648 ≤ x ∧ x < 2147483648)) (hd : 1 ≤ d) : tC e d 3705 [.inr (.inr (.inl 664)), .inl x] M n (tQi n (fun _ M' => MF M' D ∧ MC M M')) := by
  refine tst_X12_signAt ?_
  have h17 := hP.2.1.1
  have n39 : ∀ (M1 : tM) (z : Int), (0 ≤ z ∧ z ≤ 65535) → MF M1 D ∧ MC M M1 → tT e d 3705 39 [some (.inr (.inr (.inl 664))), some (.inl x)] [.inl z] M1 n (tQi n (fun _ M' => MF M' D ∧ MC M M')) := by
    intro M1 z hz q
    refine tb_X12_signAt_39 (c := false) ?_
    simp only [kb_X12_signAt_39, w_ire, trg, true_and, and_true, Nat.reduceAdd, Nat.reduceSub, eq_self]
    exact ⟨hz, z, rfl, rfl, q⟩
  have n22 : ∀ v : Int, (v = 0 ∧ (0 ≤ x ∧ x ≤ M 664 17 - 1) ∨ v = 1) → tT e d 3705 22 [some (.inr (.inr (.inl 664))), some (.inl x)] [.inl v, .inr (.inr (.inl 664))] M n (tQi n (fun _ M' => MF M' D ∧ MC M M')) := by
    intro v hv
    refine tb_X12_signAt_22 (c := false) ?_
    simp only [kb_X12_signAt_22, w_iv1, tfr_0, tfr_1, tfr_2, tfr_3, tfr_4, w_if_eq, w_bi, w_goto, true_and, and_true, Nat.reduceAdd, Nat.reduceSub, eq_self, tshm_14, tykm_14, tci_14, tshm_667, tshm_668, tshm_669, tshm_670, tykm_33, tci_700, tsn_671, tyn_17, tcn_10, tzs_672, tzs_673, tzs_680, tzs_681, tzs_682, tzs_683, tzs_684, tzs_685, tzs_686, tzs_687, tzs_688, tzs_689, tzy_15, tzy_35, tzy_36, tzy_37, tzy_38, tzy_39, tzy_40, tzc_60, tzc_320, tzc_5, tzc_4, tzc_8]
    refine tc_i (D := 0) (fun d' hd' => o_fails (by omega)) (by omega) ?_
    rintro z M1 ⟨q1, rfl⟩
    try simp only [kb_X12_signAt_22, w_iv1, tfr_0, tfr_1, tfr_2, tfr_3, tfr_4, w_if_eq, w_bi, w_goto, true_and, and_true, Nat.reduceAdd, Nat.reduceSub, eq_self, tshm_14, tykm_14, tci_14, tshm_667, tshm_668, tshm_669, tshm_670, tykm_33, tci_700, tsn_671, tyn_17, tcn_10, tzs_672, tzs_673, tzs_680, tzs_681, tzs_682, tzs_683, tzs_684, tzs_685, tzs_686, tzs_687, tzs_688, tzs_689, tzy_15, tzy_35, tzy_36, tzy_37, tzy_38, tzy_39, tzy_40, tzc_60, tzc_320, tzc_5, tzc_4, tzc_8]
    have hM1 := MF_3 (v := v) hP
    refine ⟨by omega, fun h => ?_, fun h => n39 _ 32 (by omega) hM1⟩
    refine tb_X12_signAt_33 (c := false) ?_
    simp only [kb_X12_signAt_33, w_ald_0, w_gf_14_15, tw_f, w_ild_1, w_ca, w_nil, true_and, and_true, Nat.reduceAdd, Nat.reduceSub, eq_self, tshm_14, tykm_14, tci_14, tshm_667, tshm_668, tshm_669, tshm_670, tykm_33, tci_700, tsn_671, tyn_17, tcn_10, tzs_672, tzs_673, tzs_680, tzs_681, tzs_682, tzs_683, tzs_684, tzs_685, tzs_686, tzs_687, tzs_688, tzs_689, tzy_15, tzy_35, tzy_36, tzy_37, tzy_38, tzy_39, tzy_40, tzc_60, tzc_320, tzc_5, tzc_4, tzc_8]
    refine ⟨by omega, n39 _ _ ?_ hM1⟩
    rw [tU_nk (by decide)]
    exact hP.2.1.2.1 x (by omega) (by omega)
  refine tb_X12_signAt_0 (c := false) ?_
  simp only [kb_X12_signAt_0, w_ald_0, w_ild_1, w_i2l, w_lc0, w_gf_14_17, tw_f, w_ic, w_isub, w_is3, tfr_0, tfr_1, tfr_2, tfr_3, tfr_4, w_if_eq, w_goto, true_and, and_true, Nat.reduceAdd, Nat.reduceSub, eq_self, tshm_14, tykm_14, tci_14, tshm_667, tshm_668, tshm_669, tshm_670, tykm_33, tci_700, tsn_671, tyn_17, tcn_10, tzs_672, tzs_673, tzs_680, tzs_681, tzs_682, tzs_683, tzs_684, tzs_685, tzs_686, tzs_687, tzs_688, tzs_689, tzy_15, tzy_35, tzy_36, tzy_37, tzy_38, tzy_39, tzy_40, tzc_60, tzc_320, tzc_5, tzc_4, tzc_8]
  refine ⟨by omega, by omega, ?_⟩
  refine tc_i (D := 0) (fun d' hd' => c_in (by omega) (by omega) (by omega)) (by omega) ?_
  rintro z M1 ⟨q1, rfl⟩
  try simp only [kb_X12_signAt_0, w_ald_0, w_ild_1, w_i2l, w_lc0, w_gf_14_17, tw_f, w_ic, w_isub, w_is3, tfr_0, tfr_1, tfr_2, tfr_3, tfr_4, w_if_eq, w_goto, true_and, and_true, Nat.reduceAdd, Nat.reduceSub, eq_self, tshm_14, tykm_14, tci_14, tshm_667, tshm_668, tshm_669, tshm_670, tykm_33, tci_700, tsn_671, tyn_17, tcn_10, tzs_672, tzs_673, tzs_680, tzs_681, tzs_682, tzs_683, tzs_684, tzs_685, tzs_686, tzs_687, tzs_688, tzs_689, tzy_15, tzy_35, tzy_36, tzy_37, tzy_38, tzy_39, tzy_40, tzc_60, tzc_320, tzc_5, tzc_4, tzc_8]
  refine ⟨by omega, fun h => ?_, fun h => n22 0 (by omega)⟩
  refine tb_X12_signAt_21 (c := false) ?_
  simp only [kb_X12_signAt_21, w_ic, w_nil, true_and, and_true, Nat.reduceAdd, Nat.reduceSub, eq_self]
  exact n22 1 (by omega)
theorem o_isSound (hP : MF M D) : tC e d 3635 [.inr (.inr (.inl 664))] M n (tQi n (fun z M' => z = 1 ∧ MF M' D ∧ MC M M')) := by
  refine tst_X12_isSound ?_
  refine tb_X12_isSound_0 (c := false) ?_
  simp only [kb_X12_isSound_0, w_ald_0, w_ic, w_pf_14_3, w_ire, trg, true_and, and_true, Nat.reduceAdd, Nat.reduceSub, eq_self, tshm_14, tykm_14, tci_14, tshm_667, tshm_668, tshm_669, tshm_670, tykm_33, tci_700, tsn_671, tyn_17, tcn_10, tzs_672, tzs_673, tzs_680, tzs_681, tzs_682, tzs_683, tzs_684, tzs_685, tzs_686, tzs_687, tzs_688, tzs_689, tzy_15, tzy_35, tzy_36, tzy_37, tzy_38, tzy_39, tzy_40, tzc_60, tzc_320, tzc_5, tzc_4, tzc_8]
  exact ⟨by omega, 1, rfl, rfl, rfl, MF_3 hP⟩
theorem o_isDigit {x : Int} (hx : 0 ≤ x ∧ x ≤ 65535) : tC e d 3630 [.inl x] M n (tQi n (fun z M' => (z = 1 ∧ (48 ≤ x ∧ x ≤ 57) ∨ z = 0 ∧ ¬ (48 ≤ x ∧ x ≤ 57)) ∧ M' = M)) := by
  refine tst_X12_isDigit ?_
  have n17 : ∀ z : Int, (z = 1 ∧ (48 ≤ x ∧ x ≤ 57) ∨ z = 0 ∧ ¬ (48 ≤ x ∧ x ≤ 57)) → tT e d 3630 17 [some (.inl x)] [.inl z] M n (tQi n (fun z M' => (z = 1 ∧ (48 ≤ x ∧ x ≤ 57) ∨ z = 0 ∧ ¬ (48 ≤ x ∧ x ≤ 57)) ∧ M' = M)) := by
    intro z hz
    refine tb_X12_isDigit_17 (c := false) ?_
    simp only [kb_X12_isDigit_17, w_ire, trg, true_and, and_true, Nat.reduceAdd, Nat.reduceSub, eq_self]
    exact ⟨by omega, z, rfl, rfl, hz, rfl⟩
  have n16 : ¬ (48 ≤ x ∧ x ≤ 57) → tT e d 3630 16 [some (.inl x)] [] M n (tQi n (fun z M' => (z = 1 ∧ (48 ≤ x ∧ x ≤ 57) ∨ z = 0 ∧ ¬ (48 ≤ x ∧ x ≤ 57)) ∧ M' = M)) := by
    intro h
    refine tb_X12_isDigit_16 (c := false) ?_
    simp only [kb_X12_isDigit_16, w_ic, w_nil, true_and, and_true, Nat.reduceAdd, Nat.reduceSub, eq_self]
    exact n17 0 (Or.inr ⟨rfl, h⟩)
  refine tb_X12_isDigit_0 (c := false) ?_
  simp only [kb_X12_isDigit_0, w_ild_0, w_bi, w_ic_lt, w_ic_gt, w_ic, w_goto, true_and, and_true, Nat.reduceAdd, Nat.reduceSub, eq_self]
  exact ⟨by omega, fun h => n16 (by omega), fun h => ⟨by omega, fun h => n16 (by omega), fun h => n17 1 (by omega)⟩⟩
theorem o_sign (ht : TX M) (h : 0 ≤ M 664 34 ∧ M 664 34 < 2147483648) : tC e d 3704 [.inr (.inr (.inl 664))] M n (tQi n (fun z M' => (0 ≤ z ∧ z ≤ 65535) ∧ (z ≠ 32 → M 664 34 < M 664 17) ∧ M' = M)) := by
  refine tst_X12_sign ?_
  have n25 : ∀ z : Int, (0 ≤ z ∧ z ≤ 65535) → (z ≠ 32 → M 664 34 < M 664 17) → tT e d 3704 25 [some (.inr (.inr (.inl 664)))] [.inl z] M n (tQi n (fun z M' => (0 ≤ z ∧ z ≤ 65535) ∧ (z ≠ 32 → M 664 34 < M 664 17) ∧ M' = M)) := by
    intro z hz hz2
    refine tb_X12_sign_25 (c := false) ?_
    simp only [kb_X12_sign_25, w_ire, trg, true_and, and_true, Nat.reduceAdd, Nat.reduceSub, eq_self]
    exact ⟨hz, z, rfl, rfl, hz, hz2, rfl⟩
  have h17 := ht.1
  refine tb_X12_sign_0 (c := false) ?_
  simp only [kb_X12_sign_0, w_ald_0, w_gf_14_34, tw_f, w_gf_14_17, w_ic_ge, w_gf_14_15, w_ca, w_goto, true_and, and_true, Nat.reduceAdd, Nat.reduceSub, eq_self, tshm_14, tykm_14, tci_14, tshm_667, tshm_668, tshm_669, tshm_670, tykm_33, tci_700, tsn_671, tyn_17, tcn_10, tzs_672, tzs_673, tzs_680, tzs_681, tzs_682, tzs_683, tzs_684, tzs_685, tzs_686, tzs_687, tzs_688, tzs_689, tzy_15, tzy_35, tzy_36, tzy_37, tzy_38, tzy_39, tzy_40, tzc_60, tzc_320, tzc_5, tzc_4, tzc_8]
  refine ⟨by omega, fun h => ?_, fun h => ⟨by omega, n25 _ (ht.2.1 _ (by omega) (by omega)) (fun _ => by omega)⟩⟩
  refine tb_X12_sign_23 (c := false) ?_
  simp only [kb_X12_sign_23, w_bi, w_nil, true_and, and_true, Nat.reduceAdd, Nat.reduceSub, eq_self]
  exact n25 32 (by omega) (fun q => absurd rfl q)
theorem o_pieceKind {x : Int} (hP : MF M D) (hx : (-2147483648 ≤ x ∧ x < 2147483648)) (hd : 1 ≤ d) : tC e d 3678 [.inr (.inr (.inl 664)), .inl x] M n (tQi n (fun _ M' => MF M' D ∧ MC M M')) := by
  refine tst_X12_pieceKind ?_
  have h17 := hP.2.2.2.1
  have n39 : ∀ (M1 : tM) (z : Int), (0 ≤ z ∧ z ≤ 65535) → MF M1 D ∧ MC M M1 → tT e d 3678 39 [some (.inr (.inr (.inl 664))), some (.inl x)] [.inl z] M1 n (tQi n (fun _ M' => MF M' D ∧ MC M M')) := by
    intro M1 z hz q
    refine tb_X12_pieceKind_39 (c := false) ?_
    simp only [kb_X12_pieceKind_39, w_ire, trg, true_and, and_true, Nat.reduceAdd, Nat.reduceSub, eq_self]
    exact ⟨hz, z, rfl, rfl, q⟩
  have n22 : ∀ v : Int, (v = 0 ∧ (0 ≤ x ∧ x ≤ M 664 41 - 1) ∨ v = 1) → tT e d 3678 22 [some (.inr (.inr (.inl 664))), some (.inl x)] [.inl v, .inr (.inr (.inl 664))] M n (tQi n (fun _ M' => MF M' D ∧ MC M M')) := by
    intro v hv
    refine tb_X12_pieceKind_22 (c := false) ?_
    simp only [kb_X12_pieceKind_22, w_iv1, tfr_0, tfr_1, tfr_2, tfr_3, tfr_4, w_if_eq, w_bi, w_goto, true_and, and_true, Nat.reduceAdd, Nat.reduceSub, eq_self, tshm_14, tykm_14, tci_14, tshm_667, tshm_668, tshm_669, tshm_670, tykm_33, tci_700, tsn_671, tyn_17, tcn_10, tzs_672, tzs_673, tzs_680, tzs_681, tzs_682, tzs_683, tzs_684, tzs_685, tzs_686, tzs_687, tzs_688, tzs_689, tzy_15, tzy_35, tzy_36, tzy_37, tzy_38, tzy_39, tzy_40, tzc_60, tzc_320, tzc_5, tzc_4, tzc_8]
    refine tc_i (D := 0) (fun d' hd' => o_fails (by omega)) (by omega) ?_
    rintro z M1 ⟨q1, rfl⟩
    try simp only [kb_X12_pieceKind_22, w_iv1, tfr_0, tfr_1, tfr_2, tfr_3, tfr_4, w_if_eq, w_bi, w_goto, true_and, and_true, Nat.reduceAdd, Nat.reduceSub, eq_self, tshm_14, tykm_14, tci_14, tshm_667, tshm_668, tshm_669, tshm_670, tykm_33, tci_700, tsn_671, tyn_17, tcn_10, tzs_672, tzs_673, tzs_680, tzs_681, tzs_682, tzs_683, tzs_684, tzs_685, tzs_686, tzs_687, tzs_688, tzs_689, tzy_15, tzy_35, tzy_36, tzy_37, tzy_38, tzy_39, tzy_40, tzc_60, tzc_320, tzc_5, tzc_4, tzc_8]
    have hM1 := MF_3 (v := v) hP
    refine ⟨by omega, fun h => ?_, fun h => n39 _ 32 (by omega) hM1⟩
    refine tb_X12_pieceKind_33 (c := false) ?_
    simp only [kb_X12_pieceKind_33, w_ald_0, w_gf_14_39, tw_f, w_ild_1, w_ca, w_nil, true_and, and_true, Nat.reduceAdd, Nat.reduceSub, eq_self, tshm_14, tykm_14, tci_14, tshm_667, tshm_668, tshm_669, tshm_670, tykm_33, tci_700, tsn_671, tyn_17, tcn_10, tzs_672, tzs_673, tzs_680, tzs_681, tzs_682, tzs_683, tzs_684, tzs_685, tzs_686, tzs_687, tzs_688, tzs_689, tzy_15, tzy_35, tzy_36, tzy_37, tzy_38, tzy_39, tzy_40, tzc_60, tzc_320, tzc_5, tzc_4, tzc_8]
    refine ⟨by omega, n39 _ _ ?_ hM1⟩
    rw [tU_nk (by decide)]
    exact (hP.2.2.2.2 x (by omega) (by omega)).1
  refine tb_X12_pieceKind_0 (c := false) ?_
  simp only [kb_X12_pieceKind_0, w_ald_0, w_ild_1, w_i2l, w_lc0, w_gf_14_41, tw_f, w_ic, w_isub, w_is3, tfr_0, tfr_1, tfr_2, tfr_3, tfr_4, w_if_eq, w_goto, true_and, and_true, Nat.reduceAdd, Nat.reduceSub, eq_self, tshm_14, tykm_14, tci_14, tshm_667, tshm_668, tshm_669, tshm_670, tykm_33, tci_700, tsn_671, tyn_17, tcn_10, tzs_672, tzs_673, tzs_680, tzs_681, tzs_682, tzs_683, tzs_684, tzs_685, tzs_686, tzs_687, tzs_688, tzs_689, tzy_15, tzy_35, tzy_36, tzy_37, tzy_38, tzy_39, tzy_40, tzc_60, tzc_320, tzc_5, tzc_4, tzc_8]
  refine ⟨by omega, by omega, ?_⟩
  refine tc_i (D := 0) (fun d' hd' => c_in (by omega) (by omega) (by omega)) (by omega) ?_
  rintro z M1 ⟨q1, rfl⟩
  try simp only [kb_X12_pieceKind_0, w_ald_0, w_ild_1, w_i2l, w_lc0, w_gf_14_41, tw_f, w_ic, w_isub, w_is3, tfr_0, tfr_1, tfr_2, tfr_3, tfr_4, w_if_eq, w_goto, true_and, and_true, Nat.reduceAdd, Nat.reduceSub, eq_self, tshm_14, tykm_14, tci_14, tshm_667, tshm_668, tshm_669, tshm_670, tykm_33, tci_700, tsn_671, tyn_17, tcn_10, tzs_672, tzs_673, tzs_680, tzs_681, tzs_682, tzs_683, tzs_684, tzs_685, tzs_686, tzs_687, tzs_688, tzs_689, tzy_15, tzy_35, tzy_36, tzy_37, tzy_38, tzy_39, tzy_40, tzc_60, tzc_320, tzc_5, tzc_4, tzc_8]
  refine ⟨by omega, fun h => ?_, fun h => n22 0 (by omega)⟩
  refine tb_X12_pieceKind_21 (c := false) ?_
  simp only [kb_X12_pieceKind_21, w_ic, w_nil, true_and, and_true, Nat.reduceAdd, Nat.reduceSub, eq_self]
  exact n22 1 (by omega)
end MODEL
