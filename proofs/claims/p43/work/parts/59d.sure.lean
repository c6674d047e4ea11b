/-! THE MODEL: bounds told as texts, how wide a box is, its sure digits. -/

section MODEL
variable {e : tE} {d n D : Nat} {M : tM}
theorem o_spans {b : Int} (hb : 0 ≤ b ∧ b < 700) (hc : bcan M b) (hd : 1 ≤ d) : tC e d 3712 [.inr (.inr (.inl 664)), .inl b] M n (tQn n (fun M' => zb M' = zhi M b - zlo M b ∧ cb M' ∧ uE M M')) := by
  refine tst_X12_spans ?_
  obtain ⟨⟨c1, c2⟩, c3, c4⟩ := hc
  have n87 : ∀ M2 : tM, zb M2 = zhi M b - zlo M b → cb M2 → uE M M2 → tT e d 3712 87 [some (.inr (.inr (.inl 664))), some (.inl b)] [] M2 n (tQn n (fun M' => zb M' = zhi M b - zlo M b ∧ cb M' ∧ uE M M')) := by
    intro M2 a1 a2 a3
    refine tb_X12_spans_87 (c := false) ?_
    simp only [kb_X12_spans_87, w_re, true_and, and_true, Nat.reduceAdd, Nat.reduceSub, eq_self]
    exact ⟨rfl, rfl, a1, a2, a3⟩
  refine tb_X12_spans_0 (c := false) ?_
  simp (disch := decide) only [kb_X12_spans_0, w_ald_0, w_gf_14_6, tw_f, w_ild_1, w_la, w_lax, w_pf_14_4, w_gf_14_7, w_pf_14_5, w_iv0, tfr_0, tfr_1, tfr_2, tfr_3, tfr_4, w_dupi, w_dupr, w_gf_14_4, w_gf_14_8, w_ladd, w_gf_14_5, w_gf_14_9, w_ld2, w_lcmp, ne_eq, tlc_r, tlc_eq, tlc_lt, tlc_ge, tlc_gt, tlc_le, w_if_lt, w_lsub, w_lc1, w_nil, true_and, and_true, Nat.reduceAdd, Nat.reduceSub, eq_self, tshm_14, tykm_14, tci_14, tshm_667, tshm_668, tshm_669, tshm_670, tykm_33, tci_700, tsn_671, tyn_17, tcn_10, tzs_672, tzs_673, tzs_680, tzs_681, tzs_682, tzs_683, tzs_684, tzs_685, tzs_686, tzs_687, tzs_688, tzs_689, tzy_15, tzy_35, tzy_36, tzy_37, tzy_38, tzy_39, tzy_40, tzc_60, tzc_320, tzc_5, tzc_4, tzc_8, tU_nk, tU_ni, tU_eq]
  refine ⟨hb, hb, ?_⟩
  have e4 : tU (tU M 664 4 (M 667 b)) 664 5 (M 668 b) 664 4 = M 667 b := by simp (disch := decide) only [tU_nk, tU_ni, tU_eq]
  have e5 : tU (tU M 664 4 (M 667 b)) 664 5 (M 668 b) 664 5 = M 668 b := by simp (disch := decide) only [tU_nk, tU_ni, tU_eq]
  have e0 : uE M (tU (tU M 664 4 (M 667 b)) 664 5 (M 668 b)) := uE_tr uE_4 uE_5
  generalize tU (tU M 664 4 (M 667 b)) 664 5 (M 668 b) = M0 at e0 e4 e5 ⊢
  refine tc_n (D := 0) (fun d' hd' => c_turns (by unfold cb; omega) (by unfold zb; omega)) (by omega) ?_
  rintro M1 ⟨q1, q2, q3⟩
  have f9 : M1 669 b = M 669 b := (q3 669 b (by omega)).trans (e0 669 b (by omega))
  have f0 : M1 670 b = M 670 b := (q3 670 b (by omega)).trans (e0 670 b (by omega))
  try simp (disch := decide) only [kb_X12_spans_0, w_ald_0, w_gf_14_6, tw_f, w_ild_1, w_la, w_lax, w_pf_14_4, w_gf_14_7, w_pf_14_5, w_iv0, tfr_0, tfr_1, tfr_2, tfr_3, tfr_4, w_dupi, w_dupr, w_gf_14_4, w_gf_14_8, w_ladd, w_gf_14_5, w_gf_14_9, w_ld2, w_lcmp, ne_eq, tlc_r, tlc_eq, tlc_lt, tlc_ge, tlc_gt, tlc_le, w_if_lt, w_lsub, w_lc1, w_nil, true_and, and_true, Nat.reduceAdd, Nat.reduceSub, eq_self, tshm_14, tykm_14, tci_14, tshm_667, tshm_668, tshm_669, tshm_670, tykm_33, tci_700, tsn_671, tyn_17, tcn_10, tzs_672, tzs_673, tzs_680, tzs_681, tzs_682, tzs_683, tzs_684, tzs_685, tzs_686, tzs_687, tzs_688, tzs_689, tzy_15, tzy_35, tzy_36, tzy_37, tzy_38, tzy_39, tzy_40, tzc_60, tzc_320, tzc_5, tzc_4, tzc_8, f9, f0, tU_nk, tU_ni, tU_eq]
  unfold zb at q1
  unfold cb at q2
  unfold zhi zlo at n87 ⊢
  refine ⟨hb, hb, by omega, fun h => n87 _ ?_ ?_ (uE_tr (uE_tr e0 q3) (uE_tr uE_4 uE_5)), fun h => n87 _ ?_ ?_ (uE_tr (uE_tr (uE_tr e0 q3) (uE_tr uE_4 uE_5)) (uE_tr uE_5 uE_4))⟩
  · unfold zb; simp (disch := decide) only [tU_nk, tU_ni, tU_eq]; omega
  · unfold cb; simp (disch := decide) only [tU_nk, tU_ni, tU_eq]; omega
  · unfold zb; simp (disch := decide) only [tU_nk, tU_ni, tU_eq]; omega
  · unfold cb; simp (disch := decide) only [tU_nk, tU_ni, tU_eq]; omega
theorem o_low {x : Int} (hP : MF M D) (hx : (-2147483648 ≤ x ∧ x < 2147483648)) (hd : 3 ≤ d) : tC e d 3649 [.inr (.inr (.inl 664)), .inl x] M n (tQi n (fun _ M' => MF M' D ∧ MC M M')) := by
  refine tst_X12_low_ ?_
  have n32 : ∀ (M1 : tM) (z : Int), MF M1 D ∧ MC M M1 → tT e d 3649 32 [some (.inr (.inr (.inl 664))), some (.inl x)] [.inl z] M1 n (tQi n (fun _ M' => MF M' D ∧ MC M M')) := by
    intro M1 z q
    refine tb_X12_low__32 (c := false) ?_
    simp only [kb_X12_low__32, w_ire, trg, true_and, and_true, Nat.reduceAdd, Nat.reduceSub, eq_self]
    exact ⟨z, rfl, rfl, q⟩
  refine tb_X12_low__0 (c := false) ?_
  simp only [kb_X12_low__0, w_ald_0, w_ild_1, w_iv1, tfr_0, tfr_1, tfr_2, tfr_3, tfr_4, w_if_eq, w_ic, w_goto, true_and, and_true, Nat.reduceAdd, Nat.reduceSub, eq_self, tshm_14, tykm_14, tci_14, tshm_667, tshm_668, tshm_669, tshm_670, tykm_33, tci_700, tsn_671, tyn_17, tcn_10, tzs_672, tzs_673, tzs_680, tzs_681, tzs_682, tzs_683, tzs_684, tzs_685, tzs_686, tzs_687, tzs_688, tzs_689, tzy_15, tzy_35, tzy_36, tzy_37, tzy_38, tzy_39, tzy_40, tzc_60, tzc_320, tzc_5, tzc_4, tzc_8]
  refine tc_i (D := 2) (fun d' hd' => o_noBox hx hP.1.2.1 hd') (by omega) ?_
  rintro v M1 ⟨q1, rfl⟩
  try simp only [kb_X12_low__0, w_ald_0, w_ild_1, w_iv1, tfr_0, tfr_1, tfr_2, tfr_3, tfr_4, w_if_eq, w_ic, w_goto, true_and, and_true, Nat.reduceAdd, Nat.reduceSub, eq_self, tshm_14, tykm_14, tci_14, tshm_667, tshm_668, tshm_669, tshm_670, tykm_33, tci_700, tsn_671, tyn_17, tcn_10, tzs_672, tzs_673, tzs_680, tzs_681, tzs_682, tzs_683, tzs_684, tzs_685, tzs_686, tzs_687, tzs_688, tzs_689, tzy_15, tzy_35, tzy_36, tzy_37, tzy_38, tzy_39, tzy_40, tzc_60, tzc_320, tzc_5, tzc_4, tzc_8]
  refine tc_i (D := 0) (fun d' hd' => o_fails (by omega)) (by omega) ?_
  rintro z M2 ⟨q2, rfl⟩
  try simp only [kb_X12_low__0, w_ald_0, w_ild_1, w_iv1, tfr_0, tfr_1, tfr_2, tfr_3, tfr_4, w_if_eq, w_ic, w_goto, true_and, and_true, Nat.reduceAdd, Nat.reduceSub, eq_self, tshm_14, tykm_14, tci_14, tshm_667, tshm_668, tshm_669, tshm_670, tykm_33, tci_700, tsn_671, tyn_17, tcn_10, tzs_672, tzs_673, tzs_680, tzs_681, tzs_682, tzs_683, tzs_684, tzs_685, tzs_686, tzs_687, tzs_688, tzs_689, tzy_15, tzy_35, tzy_36, tzy_37, tzy_38, tzy_39, tzy_40, tzc_60, tzc_320, tzc_5, tzc_4, tzc_8]
  have h4 := MF_3 (v := v) hP
  refine ⟨by omega, fun h => ?_, fun h => n32 _ 0 h4⟩
  refine tb_X12_low__16 (c := false) ?_
  simp only [kb_X12_low__16, w_ald_0, w_gf_14_6, tw_f, w_ild_1, w_la, w_lax, w_gf_14_7, w_iv2, tfr_0, tfr_1, tfr_2, tfr_3, tfr_4, w_nil, true_and, and_true, Nat.reduceAdd, Nat.reduceSub, eq_self, tshm_14, tykm_14, tci_14, tshm_667, tshm_668, tshm_669, tshm_670, tykm_33, tci_700, tsn_671, tyn_17, tcn_10, tzs_672, tzs_673, tzs_680, tzs_681, tzs_682, tzs_683, tzs_684, tzs_685, tzs_686, tzs_687, tzs_688, tzs_689, tzy_15, tzy_35, tzy_36, tzy_37, tzy_38, tzy_39, tzy_40, tzc_60, tzc_320, tzc_5, tzc_4, tzc_8]
  have hb := h4.1.1.1.2.2.2.2.1 x (by omega) (by omega)
  unfold bcan at hb
  refine ⟨by omega, by omega, ?_⟩
  refine tc_i (D := 2) (fun d' hd' => o_writes h4.1 (by omega) (by omega) hd') (by omega) ?_
  rintro z2 M3 q3
  try simp only [kb_X12_low__16, w_ald_0, w_gf_14_6, tw_f, w_ild_1, w_la, w_lax, w_gf_14_7, w_iv2, tfr_0, tfr_1, tfr_2, tfr_3, tfr_4, w_nil, true_and, and_true, Nat.reduceAdd, Nat.reduceSub, eq_self, tshm_14, tykm_14, tci_14, tshm_667, tshm_668, tshm_669, tshm_670, tykm_33, tci_700, tsn_671, tyn_17, tcn_10, tzs_672, tzs_673, tzs_680, tzs_681, tzs_682, tzs_683, tzs_684, tzs_685, tzs_686, tzs_687, tzs_688, tzs_689, tzy_15, tzy_35, tzy_36, tzy_37, tzy_38, tzy_39, tzy_40, tzc_60, tzc_320, tzc_5, tzc_4, tzc_8]
  exact n32 M3 z2 ⟨q3.1, MC_tr h4.2 q3.2⟩
theorem o_high {x : Int} (hP : MF M D) (hx : (-2147483648 ≤ x ∧ x < 2147483648)) (hd : 3 ≤ d) : tC e d 3622 [.inr (.inr (.inl 664)), .inl x] M n (tQi n (fun _ M' => MF M' D ∧ MC M M')) := by
  refine tst_X12_high_ ?_
  have n32 : ∀ (M1 : tM) (z : Int), MF M1 D ∧ MC M M1 → tT e d 3622 32 [some (.inr (.inr (.inl 664))), some (.inl x)] [.inl z] M1 n (tQi n (fun _ M' => MF M' D ∧ MC M M')) := by
    intro M1 z q
    refine tb_X12_high__32 (c := false) ?_
    simp only [kb_X12_high__32, w_ire, trg, true_and, and_true, Nat.reduceAdd, Nat.reduceSub, eq_self]
    exact ⟨z, rfl, rfl, q⟩
  refine tb_X12_high__0 (c := false) ?_
  simp only [kb_X12_high__0, w_ald_0, w_ild_1, w_iv1, tfr_0, tfr_1, tfr_2, tfr_3, tfr_4, w_if_eq, w_ic, w_goto, true_and, and_true, Nat.reduceAdd, Nat.reduceSub, eq_self, tshm_14, tykm_14, tci_14, tshm_667, tshm_668, tshm_669, tshm_670, tykm_33, tci_700, tsn_671, tyn_17, tcn_10, tzs_672, tzs_673, tzs_680, tzs_681, tzs_682, tzs_683, tzs_684, tzs_685, tzs_686, tzs_687, tzs_688, tzs_689, tzy_15, tzy_35, tzy_36, tzy_37, tzy_38, tzy_39, tzy_40, tzc_60, tzc_320, tzc_5, tzc_4, tzc_8]
  refine tc_i (D := 2) (fun d' hd' => o_noBox hx hP.1.2.1 hd') (by omega) ?_
  rintro v M1 ⟨q1, rfl⟩
  try simp only [kb_X12_high__0, w_ald_0, w_ild_1, w_iv1, tfr_0, tfr_1, tfr_2, tfr_3, tfr_4, w_if_eq, w_ic, w_goto, true_and, and_true, Nat.reduceAdd, Nat.reduceSub, eq_self, tshm_14, tykm_14, tci_14, tshm_667, tshm_668, tshm_669, tshm_670, tykm_33, tci_700, tsn_671, tyn_17, tcn_10, tzs_672, tzs_673, tzs_680, tzs_681, tzs_682, tzs_683, tzs_684, tzs_685, tzs_686, tzs_687, tzs_688, tzs_689, tzy_15, tzy_35, tzy_36, tzy_37, tzy_38, tzy_39, tzy_40, tzc_60, tzc_320, tzc_5, tzc_4, tzc_8]
  refine tc_i (D := 0) (fun d' hd' => o_fails (by omega)) (by omega) ?_
  rintro z M2 ⟨q2, rfl⟩
  try simp only [kb_X12_high__0, w_ald_0, w_ild_1, w_iv1, tfr_0, tfr_1, tfr_2, tfr_3, tfr_4, w_if_eq, w_ic, w_goto, true_and, and_true, Nat.reduceAdd, Nat.reduceSub, eq_self, tshm_14, tykm_14, tci_14, tshm_667, tshm_668, tshm_669, tshm_670, tykm_33, tci_700, tsn_671, tyn_17, tcn_10, tzs_672, tzs_673, tzs_680, tzs_681, tzs_682, tzs_683, tzs_684, tzs_685, tzs_686, tzs_687, tzs_688, tzs_689, tzy_15, tzy_35, tzy_36, tzy_37, tzy_38, tzy_39, tzy_40, tzc_60, tzc_320, tzc_5, tzc_4, tzc_8]
  have h4 := MF_3 (v := v) hP
  refine ⟨by omega, fun h => ?_, fun h => n32 _ 0 h4⟩
  refine tb_X12_high__16 (c := false) ?_
  simp only [kb_X12_high__16, w_ald_0, w_gf_14_8, tw_f, w_ild_1, w_la, w_lax, w_gf_14_9, w_iv2, tfr_0, tfr_1, tfr_2, tfr_3, tfr_4, w_nil, true_and, and_true, Nat.reduceAdd, Nat.reduceSub, eq_self, tshm_14, tykm_14, tci_14, tshm_667, tshm_668, tshm_669, tshm_670, tykm_33, tci_700, tsn_671, tyn_17, tcn_10, tzs_672, tzs_673, tzs_680, tzs_681, tzs_682, tzs_683, tzs_684, tzs_685, tzs_686, tzs_687, tzs_688, tzs_689, tzy_15, tzy_35, tzy_36, tzy_37, tzy_38, tzy_39, tzy_40, tzc_60, tzc_320, tzc_5, tzc_4, tzc_8]
  have hb := h4.1.1.1.2.2.2.2.1 x (by omega) (by omega)
  unfold bcan at hb
  refine ⟨by omega, by omega, ?_⟩
  refine tc_i (D := 2) (fun d' hd' => o_writes h4.1 (by omega) (by omega) hd') (by omega) ?_
  rintro z2 M3 q3
  try simp only [kb_X12_high__16, w_ald_0, w_gf_14_8, tw_f, w_ild_1, w_la, w_lax, w_gf_14_9, w_iv2, tfr_0, tfr_1, tfr_2, tfr_3, tfr_4, w_nil, true_and, and_true, Nat.reduceAdd, Nat.reduceSub, eq_self, tshm_14, tykm_14, tci_14, tshm_667, tshm_668, tshm_669, tshm_670, tykm_33, tci_700, tsn_671, tyn_17, tcn_10, tzs_672, tzs_673, tzs_680, tzs_681, tzs_682, tzs_683, tzs_684, tzs_685, tzs_686, tzs_687, tzs_688, tzs_689, tzy_15, tzy_35, tzy_36, tzy_37, tzy_38, tzy_39, tzy_40, tzc_60, tzc_320, tzc_5, tzc_4, tzc_8]
  exact n32 M3 z2 ⟨q3.1, MC_tr h4.2 q3.2⟩
theorem o_width {x : Int} (hP : MF M D) (hx : (-2147483648 ≤ x ∧ x < 2147483648)) (hd : 3 ≤ d) : tC e d 3735 [.inr (.inr (.inl 664)), .inl x] M n (tQi n (fun _ M' => MF M' D ∧ MC M M')) := by
  refine tst_X12_width ?_
  refine tb_X12_width_0 (c := false) ?_
  simp only [kb_X12_width_0, w_ald_0, w_ild_1, w_iv1, tfr_0, tfr_1, tfr_2, tfr_3, tfr_4, w_if_eq, w_ic, w_ire, trg, true_and, and_true, Nat.reduceAdd, Nat.reduceSub, eq_self, tshm_14, tykm_14, tci_14, tshm_667, tshm_668, tshm_669, tshm_670, tykm_33, tci_700, tsn_671, tyn_17, tcn_10, tzs_672, tzs_673, tzs_680, tzs_681, tzs_682, tzs_683, tzs_684, tzs_685, tzs_686, tzs_687, tzs_688, tzs_689, tzy_15, tzy_35, tzy_36, tzy_37, tzy_38, tzy_39, tzy_40, tzc_60, tzc_320, tzc_5, tzc_4, tzc_8]
  refine tc_i (D := 2) (fun d' hd' => o_noBox hx hP.1.2.1 hd') (by omega) ?_
  rintro v M1 ⟨q1, rfl⟩
  try simp only [kb_X12_width_0, w_ald_0, w_ild_1, w_iv1, tfr_0, tfr_1, tfr_2, tfr_3, tfr_4, w_if_eq, w_ic, w_ire, trg, true_and, and_true, Nat.reduceAdd, Nat.reduceSub, eq_self, tshm_14, tykm_14, tci_14, tshm_667, tshm_668, tshm_669, tshm_670, tykm_33, tci_700, tsn_671, tyn_17, tcn_10, tzs_672, tzs_673, tzs_680, tzs_681, tzs_682, tzs_683, tzs_684, tzs_685, tzs_686, tzs_687, tzs_688, tzs_689, tzy_15, tzy_35, tzy_36, tzy_37, tzy_38, tzy_39, tzy_40, tzc_60, tzc_320, tzc_5, tzc_4, tzc_8]
  refine tc_i (D := 0) (fun d' hd' => o_fails (by omega)) (by omega) ?_
  rintro z M2 ⟨q2, rfl⟩
  try simp only [kb_X12_width_0, w_ald_0, w_ild_1, w_iv1, tfr_0, tfr_1, tfr_2, tfr_3, tfr_4, w_if_eq, w_ic, w_ire, trg, true_and, and_true, Nat.reduceAdd, Nat.reduceSub, eq_self, tshm_14, tykm_14, tci_14, tshm_667, tshm_668, tshm_669, tshm_670, tykm_33, tci_700, tsn_671, tyn_17, tcn_10, tzs_672, tzs_673, tzs_680, tzs_681, tzs_682, tzs_683, tzs_684, tzs_685, tzs_686, tzs_687, tzs_688, tzs_689, tzy_15, tzy_35, tzy_36, tzy_37, tzy_38, tzy_39, tzy_40, tzc_60, tzc_320, tzc_5, tzc_4, tzc_8]
  have h4 := MF_3 (v := v) hP
  refine ⟨by omega, fun h => ?_, fun h => ⟨0, rfl, rfl, h4⟩⟩
  refine tb_X12_width_14 (c := false) ?_
  simp only [kb_X12_width_14, w_ald_0, w_ild_1, w_iv1, tfr_0, tfr_1, tfr_2, tfr_3, tfr_4, w_gf_14_4, tw_f, w_gf_14_5, w_iv2, w_ire, trg, true_and, and_true, Nat.reduceAdd, Nat.reduceSub, eq_self, tshm_14, tykm_14, tci_14, tshm_667, tshm_668, tshm_669, tshm_670, tykm_33, tci_700, tsn_671, tyn_17, tcn_10, tzs_672, tzs_673, tzs_680, tzs_681, tzs_682, tzs_683, tzs_684, tzs_685, tzs_686, tzs_687, tzs_688, tzs_689, tzy_15, tzy_35, tzy_36, tzy_37, tzy_38, tzy_39, tzy_40, tzc_60, tzc_320, tzc_5, tzc_4, tzc_8]
  have hb := h4.1.1.1.2.2.2.2.1 x (by omega) (by omega)
  refine tc_n (D := 1) (fun d' hd' => o_spans (by omega) hb hd') (by omega) ?_
  rintro M3 ⟨q3, q4, q5⟩
  unfold bcan at hb
  unfold zb zhi zlo at q3
  unfold cb at q4
  have h5 := MF_te h4.1 (TE_u q5) (TX_same (fun k i g => q5 k i (by omega)) h4.1.2.1)
  try simp only [kb_X12_width_14, w_ald_0, w_ild_1, w_iv1, tfr_0, tfr_1, tfr_2, tfr_3, tfr_4, w_gf_14_4, tw_f, w_gf_14_5, w_iv2, w_ire, trg, true_and, and_true, Nat.reduceAdd, Nat.reduceSub, eq_self, tshm_14, tykm_14, tci_14, tshm_667, tshm_668, tshm_669, tshm_670, tykm_33, tci_700, tsn_671, tyn_17, tcn_10, tzs_672, tzs_673, tzs_680, tzs_681, tzs_682, tzs_683, tzs_684, tzs_685, tzs_686, tzs_687, tzs_688, tzs_689, tzy_15, tzy_35, tzy_36, tzy_37, tzy_38, tzy_39, tzy_40, tzc_60, tzc_320, tzc_5, tzc_4, tzc_8]
  refine tc_i (D := 2) (fun d' hd' => o_writes h5.1 (by omega) (by omega) hd') (by omega) ?_
  rintro z2 M4 q6
  try simp only [kb_X12_width_14, w_ald_0, w_ild_1, w_iv1, tfr_0, tfr_1, tfr_2, tfr_3, tfr_4, w_gf_14_4, tw_f, w_gf_14_5, w_iv2, w_ire, trg, true_and, and_true, Nat.reduceAdd, Nat.reduceSub, eq_self, tshm_14, tykm_14, tci_14, tshm_667, tshm_668, tshm_669, tshm_670, tykm_33, tci_700, tsn_671, tyn_17, tcn_10, tzs_672, tzs_673, tzs_680, tzs_681, tzs_682, tzs_683, tzs_684, tzs_685, tzs_686, tzs_687, tzs_688, tzs_689, tzy_15, tzy_35, tzy_36, tzy_37, tzy_38, tzy_39, tzy_40, tzc_60, tzc_320, tzc_5, tzc_4, tzc_8]
  exact ⟨z2, rfl, rfl, q6.1, MC_tr (MC_tr h4.2 h5.2) q6.2⟩
theorem o_sure {x : Int} (hP : MF M D) (hx : (-2147483648 ≤ x ∧ x < 2147483648)) (hd : 3 ≤ d) : tC e d 3717 [.inr (.inr (.inl 664)), .inl x] M n (tQi n (fun _ M' => MF M' D ∧ MC M M')) := by
  refine tst_X12_sure ?_
  have n17 : ∀ (fu : Nat) (M1 : tM) (k : Int) (A B C E : Option tV), (0 ≤ x ∧ x ≤ 9) → MF M1 D → MC M M1 → (-1 ≤ k ∧ k ≤ 10) → k < (fu : Int) → tT e d 3717 17 [some (.inr (.inr (.inl 664))), some (.inl x), some (.inl k), A, B, C, E] [] M1 n (tQi n (fun _ M' => MF M' D ∧ MC M M')) := by
    intro fu
    induction fu with
    | zero =>
      intro M1 k A B C E a1 a2 a3 a4 a5
      refine tb_X12_sure_17 (c := false) ?_
      simp only [kb_X12_sure_17, w_ild_2, w_if_lt, w_ald_0, w_gf_14_6, tw_f, w_ild_1, w_la, w_lax, w_pf_14_4, w_gf_14_7, w_pf_14_5, w_ic, w_iv2, tfr_0, tfr_1, tfr_2, tfr_3, tfr_4, w_gf_14_4, w_lst_3, tkl_n, tkl_i, tkl_l, tkl_r, w_gf_14_5, w_lst5, w_gf_14_8, w_gf_14_9, w_lld_3, w_lcmp, ne_eq, tlc_r, tlc_eq, tlc_lt, tlc_ge, tlc_gt, tlc_le, w_if_ne, w_lld5, w_ire, trg, true_and, and_true, Nat.reduceAdd, Nat.reduceSub, eq_self, tshm_14, tykm_14, tci_14, tshm_667, tshm_668, tshm_669, tshm_670, tykm_33, tci_700, tsn_671, tyn_17, tcn_10, tzs_672, tzs_673, tzs_680, tzs_681, tzs_682, tzs_683, tzs_684, tzs_685, tzs_686, tzs_687, tzs_688, tzs_689, tzy_15, tzy_35, tzy_36, tzy_37, tzy_38, tzy_39, tzy_40, tzc_60, tzc_320, tzc_5, tzc_4, tzc_8]
      refine ⟨by omega, fun h => ?_, fun h => by exfalso; omega⟩
      refine tb_X12_sure_111 (c := false) ?_
      simp only [kb_X12_sure_111, w_ic, w_ire, trg, true_and, and_true, Nat.reduceAdd, Nat.reduceSub, eq_self]
      exact ⟨_, rfl, rfl, a2, a3⟩
    | succ fu ih =>
      intro M1 k A B C E a1 a2 a3 a4 a5
      by_cases hk : k < 0
      · refine tb_X12_sure_17 (c := false) ?_
        simp only [kb_X12_sure_17, w_ild_2, w_if_lt, w_ald_0, w_gf_14_6, tw_f, w_ild_1, w_la, w_lax, w_pf_14_4, w_gf_14_7, w_pf_14_5, w_ic, w_iv2, tfr_0, tfr_1, tfr_2, tfr_3, tfr_4, w_gf_14_4, w_lst_3, tkl_n, tkl_i, tkl_l, tkl_r, w_gf_14_5, w_lst5, w_gf_14_8, w_gf_14_9, w_lld_3, w_lcmp, ne_eq, tlc_r, tlc_eq, tlc_lt, tlc_ge, tlc_gt, tlc_le, w_if_ne, w_lld5, w_ire, trg, true_and, and_true, Nat.reduceAdd, Nat.reduceSub, eq_self, tshm_14, tykm_14, tci_14, tshm_667, tshm_668, tshm_669, tshm_670, tykm_33, tci_700, tsn_671, tyn_17, tcn_10, tzs_672, tzs_673, tzs_680, tzs_681, tzs_682, tzs_683, tzs_684, tzs_685, tzs_686, tzs_687, tzs_688, tzs_689, tzy_15, tzy_35, tzy_36, tzy_37, tzy_38, tzy_39, tzy_40, tzc_60, tzc_320, tzc_5, tzc_4, tzc_8]
        refine ⟨by omega, fun h => ?_, fun h => by exfalso; omega⟩
        refine tb_X12_sure_111 (c := false) ?_
        simp only [kb_X12_sure_111, w_ic, w_ire, trg, true_and, and_true, Nat.reduceAdd, Nat.reduceSub, eq_self]
        exact ⟨_, rfl, rfl, a2, a3⟩
      obtain ⟨m, rfl⟩ : ∃ m : Nat, k = (m : Int) := ⟨k.toNat, by omega⟩
      have n105 : ∀ (M2 : tM) (A B C E : Option tV), MF M2 D → MC M M2 → tT e d 3717 105 [some (.inr (.inr (.inl 664))), some (.inl x), some (.inl (m : Int)), A, B, C, E] [] M2 n (tQi n (fun _ M' => MF M' D ∧ MC M M')) := by
        intro M2 A B C E b1 b2
        refine tb_X12_sure_105 (c := false) ?_
        simp only [kb_X12_sure_105, w_inc2, tkl_n, tkl_i, tkl_l, tkl_r, w_goto, true_and, and_true, Nat.reduceAdd, Nat.reduceSub, eq_self]
        exact ih M2 _ A B C E a1 b1 b2 (by omega) (by omega)
      have hb := a2.1.1.2.2.2.2.1 x (by omega) (by omega)
      unfold bcan at hb
      refine tb_X12_sure_17 (c := false) ?_
      simp (disch := decide) only [kb_X12_sure_17, w_ild_2, w_if_lt, w_ald_0, w_gf_14_6, tw_f, w_ild_1, w_la, w_lax, w_pf_14_4, w_gf_14_7, w_pf_14_5, w_ic, w_iv2, tfr_0, tfr_1, tfr_2, tfr_3, tfr_4, w_gf_14_4, w_lst_3, tkl_n, tkl_i, tkl_l, tkl_r, w_gf_14_5, w_lst5, w_gf_14_8, w_gf_14_9, w_lld_3, w_lcmp, ne_eq, tlc_r, tlc_eq, tlc_lt, tlc_ge, tlc_gt, tlc_le, w_if_ne, w_lld5, w_ire, trg, true_and, and_true, Nat.reduceAdd, Nat.reduceSub, eq_self, tshm_14, tykm_14, tci_14, tshm_667, tshm_668, tshm_669, tshm_670, tykm_33, tci_700, tsn_671, tyn_17, tcn_10, tzs_672, tzs_673, tzs_680, tzs_681, tzs_682, tzs_683, tzs_684, tzs_685, tzs_686, tzs_687, tzs_688, tzs_689, tzy_15, tzy_35, tzy_36, tzy_37, tzy_38, tzy_39, tzy_40, tzc_60, tzc_320, tzc_5, tzc_4, tzc_8, tU_nk, tU_ni, tU_eq]
      refine ⟨by omega, fun h => absurd h (by omega), fun h => ⟨by omega, by omega, ?_⟩⟩
      have e4 : tU (tU M1 664 4 (M1 667 x)) 664 5 (M1 668 x) 664 4 = M1 667 x := by simp (disch := decide) only [tU_nk, tU_ni, tU_eq]
      have e5 : tU (tU M1 664 4 (M1 667 x)) 664 5 (M1 668 x) 664 5 = M1 668 x := by simp (disch := decide) only [tU_nk, tU_ni, tU_eq]
      have e0 : uE M1 (tU (tU M1 664 4 (M1 667 x)) 664 5 (M1 668 x)) := uE_tr uE_4 uE_5
      generalize tU (tU M1 664 4 (M1 667 x)) 664 5 (M1 668 x) = M0 at e0 e4 e5 ⊢
      refine tc_n (D := 1) (fun d' hd' => c_rounds (by omega) (Or.inl rfl) (by unfold cb; omega) (by unfold zb; omega) hd') (by omega) ?_
      rintro M2 ⟨q1, q2, q3⟩
      have f9 : M2 669 x = M1 669 x := (q3 669 x (by omega)).trans (e0 669 x (by omega))
      have f0 : M2 670 x = M1 670 x := (q3 670 x (by omega)).trans (e0 670 x (by omega))
      try simp (disch := decide) only [kb_X12_sure_17, w_ild_2, w_if_lt, w_ald_0, w_gf_14_6, tw_f, w_ild_1, w_la, w_lax, w_pf_14_4, w_gf_14_7, w_pf_14_5, w_ic, w_iv2, tfr_0, tfr_1, tfr_2, tfr_3, tfr_4, w_gf_14_4, w_lst_3, tkl_n, tkl_i, tkl_l, tkl_r, w_gf_14_5, w_lst5, w_gf_14_8, w_gf_14_9, w_lld_3, w_lcmp, ne_eq, tlc_r, tlc_eq, tlc_lt, tlc_ge, tlc_gt, tlc_le, w_if_ne, w_lld5, w_ire, trg, true_and, and_true, Nat.reduceAdd, Nat.reduceSub, eq_self, tshm_14, tykm_14, tci_14, tshm_667, tshm_668, tshm_669, tshm_670, tykm_33, tci_700, tsn_671, tyn_17, tcn_10, tzs_672, tzs_673, tzs_680, tzs_681, tzs_682, tzs_683, tzs_684, tzs_685, tzs_686, tzs_687, tzs_688, tzs_689, tzy_15, tzy_35, tzy_36, tzy_37, tzy_38, tzy_39, tzy_40, tzc_60, tzc_320, tzc_5, tzc_4, tzc_8, f9, f0, tU_nk, tU_ni, tU_eq]
      refine ⟨by omega, by omega, ?_⟩
      have g4 : tU (tU M2 664 4 (M1 669 x)) 664 5 (M1 670 x) 664 4 = M1 669 x := by simp (disch := decide) only [tU_nk, tU_ni, tU_eq]
      have g5 : tU (tU M2 664 4 (M1 669 x)) 664 5 (M1 670 x) 664 5 = M1 670 x := by simp (disch := decide) only [tU_nk, tU_ni, tU_eq]
      have g0 : uE M2 (tU (tU M2 664 4 (M1 669 x)) 664 5 (M1 670 x)) := uE_tr uE_4 uE_5
      generalize tU (tU M2 664 4 (M1 669 x)) 664 5 (M1 670 x) = M3 at g0 g4 g5 ⊢
      refine tc_n (D := 1) (fun d' hd' => c_rounds (by omega) (Or.inl rfl) (by unfold cb; omega) (by unfold zb; omega) hd') (by omega) ?_
      rintro M4 ⟨p1, p2, p3⟩
      have hu : uE M1 M4 := uE_tr (uE_tr (uE_tr e0 q3) g0) p3
      have h5 := MF_te a2 (TE_u hu) (TX_same (fun k i g => hu k i (by omega)) a2.2.1)
      unfold cb at q2 p2
      try simp only [kb_X12_sure_17, w_ild_2, w_if_lt, w_ald_0, w_gf_14_6, tw_f, w_ild_1, w_la, w_lax, w_pf_14_4, w_gf_14_7, w_pf_14_5, w_ic, w_iv2, tfr_0, tfr_1, tfr_2, tfr_3, tfr_4, w_gf_14_4, w_lst_3, tkl_n, tkl_i, tkl_l, tkl_r, w_gf_14_5, w_lst5, w_gf_14_8, w_gf_14_9, w_lld_3, w_lcmp, ne_eq, tlc_r, tlc_eq, tlc_lt, tlc_ge, tlc_gt, tlc_le, w_if_ne, w_lld5, w_ire, trg, true_and, and_true, Nat.reduceAdd, Nat.reduceSub, eq_self, tshm_14, tykm_14, tci_14, tshm_667, tshm_668, tshm_669, tshm_670, tykm_33, tci_700, tsn_671, tyn_17, tcn_10, tzs_672, tzs_673, tzs_680, tzs_681, tzs_682, tzs_683, tzs_684, tzs_685, tzs_686, tzs_687, tzs_688, tzs_689, tzy_15, tzy_35, tzy_36, tzy_37, tzy_38, tzy_39, tzy_40, tzc_60, tzc_320, tzc_5, tzc_4, tzc_8]
      refine ⟨by omega, fun h => n105 _ _ _ _ _ h5.1 (MC_tr a3 h5.2), fun h => ⟨by omega, fun h => n105 _ _ _ _ _ h5.1 (MC_tr a3 h5.2), fun h => ?_⟩⟩
      exact ⟨_, rfl, rfl, h5.1, MC_tr a3 h5.2⟩
  refine tb_X12_sure_0 (c := false) ?_
  simp only [kb_X12_sure_0, w_ald_0, w_ild_1, w_iv1, tfr_0, tfr_1, tfr_2, tfr_3, tfr_4, w_if_eq, w_ic, w_ire, trg, true_and, and_true, Nat.reduceAdd, Nat.reduceSub, eq_self, tshm_14, tykm_14, tci_14, tshm_667, tshm_668, tshm_669, tshm_670, tykm_33, tci_700, tsn_671, tyn_17, tcn_10, tzs_672, tzs_673, tzs_680, tzs_681, tzs_682, tzs_683, tzs_684, tzs_685, tzs_686, tzs_687, tzs_688, tzs_689, tzy_15, tzy_35, tzy_36, tzy_37, tzy_38, tzy_39, tzy_40, tzc_60, tzc_320, tzc_5, tzc_4, tzc_8]
  refine tc_i (D := 2) (fun d' hd' => o_noBox hx hP.1.2.1 hd') (by omega) ?_
  rintro v M1 ⟨q1, rfl⟩
  try simp only [kb_X12_sure_0, w_ald_0, w_ild_1, w_iv1, tfr_0, tfr_1, tfr_2, tfr_3, tfr_4, w_if_eq, w_ic, w_ire, trg, true_and, and_true, Nat.reduceAdd, Nat.reduceSub, eq_self, tshm_14, tykm_14, tci_14, tshm_667, tshm_668, tshm_669, tshm_670, tykm_33, tci_700, tsn_671, tyn_17, tcn_10, tzs_672, tzs_673, tzs_680, tzs_681, tzs_682, tzs_683, tzs_684, tzs_685, tzs_686, tzs_687, tzs_688, tzs_689, tzy_15, tzy_35, tzy_36, tzy_37, tzy_38, tzy_39, tzy_40, tzc_60, tzc_320, tzc_5, tzc_4, tzc_8]
  refine tc_i (D := 0) (fun d' hd' => o_fails (by omega)) (by omega) ?_
  rintro z M2 ⟨q2, rfl⟩
  try simp only [kb_X12_sure_0, w_ald_0, w_ild_1, w_iv1, tfr_0, tfr_1, tfr_2, tfr_3, tfr_4, w_if_eq, w_ic, w_ire, trg, true_and, and_true, Nat.reduceAdd, Nat.reduceSub, eq_self, tshm_14, tykm_14, tci_14, tshm_667, tshm_668, tshm_669, tshm_670, tykm_33, tci_700, tsn_671, tyn_17, tcn_10, tzs_672, tzs_673, tzs_680, tzs_681, tzs_682, tzs_683, tzs_684, tzs_685, tzs_686, tzs_687, tzs_688, tzs_689, tzy_15, tzy_35, tzy_36, tzy_37, tzy_38, tzy_39, tzy_40, tzc_60, tzc_320, tzc_5, tzc_4, tzc_8]
  have h4 := MF_3 (v := v) hP
  refine ⟨by omega, fun h => ?_, fun h => ⟨0, rfl, rfl, h4⟩⟩
  refine tb_X12_sure_14 (c := false) ?_
  simp only [kb_X12_sure_14, w_bi, w_ist_2, tkl_n, tkl_i, tkl_l, tkl_r, w_nil, true_and, and_true, Nat.reduceAdd, Nat.reduceSub, eq_self]
  exact n17 11 _ 10 _ _ _ _ (by omega) h4.1 h4.2 (by omega) (by omega)
theorem o_spelledInto {s u l : Int} (hP : MF M D) (hl : 0 ≤ l ∧ l < 1000000000) (hu : -100000000000000 ≤ u ∧ u ≤ 100000000000000) (hd : 2 ≤ d) : tC e d 3713 [.inr (.inr (.inl 664)), .inr (.inl s), .inr (.inl u), .inr (.inl l)] M n (tQl n (fun _ M' => MF M' D ∧ TE M M')) := by
  refine tst_X12_spelledInto ?_
  refine tb_X12_spelledInto_0 (c := false) ?_
  simp only [kb_X12_spelledInto_0, w_ald_0, w_lld_3, w_lld5, w_iv2, tfr_0, tfr_1, tfr_2, tfr_3, tfr_4, w_lld_1, w_lst7, tkl_n, tkl_i, tkl_l, tkl_r, w_ic, w_ist9, w_nil, true_and, and_true, Nat.reduceAdd, Nat.reduceSub, eq_self, tshm_14, tykm_14, tci_14, tshm_667, tshm_668, tshm_669, tshm_670, tykm_33, tci_700, tsn_671, tyn_17, tcn_10, tzs_672, tzs_673, tzs_680, tzs_681, tzs_682, tzs_683, tzs_684, tzs_685, tzs_686, tzs_687, tzs_688, tzs_689, tzy_15, tzy_35, tzy_36, tzy_37, tzy_38, tzy_39, tzy_40, tzc_60, tzc_320, tzc_5, tzc_4, tzc_8]
  refine tc_n (D := 1) (fun d' hd' => o_spells hP.2.1 hl hu hd') (by omega) ?_
  rintro M1 ⟨q1, q2, q3⟩
  try simp only [kb_X12_spelledInto_0, w_ald_0, w_lld_3, w_lld5, w_iv2, tfr_0, tfr_1, tfr_2, tfr_3, tfr_4, w_lld_1, w_lst7, tkl_n, tkl_i, tkl_l, tkl_r, w_ic, w_ist9, w_nil, true_and, and_true, Nat.reduceAdd, Nat.reduceSub, eq_self, tshm_14, tykm_14, tci_14, tshm_667, tshm_668, tshm_669, tshm_670, tykm_33, tci_700, tsn_671, tyn_17, tcn_10, tzs_672, tzs_673, tzs_680, tzs_681, tzs_682, tzs_683, tzs_684, tzs_685, tzs_686, tzs_687, tzs_688, tzs_689, tzy_15, tzy_35, tzy_36, tzy_37, tzy_38, tzy_39, tzy_40, tzc_60, tzc_320, tzc_5, tzc_4, tzc_8]
  have n13 : ∀ (fu : Nat) (s2 k : Int), (0 ≤ k ∧ k ≤ M1 664 18) → M1 664 18 < k + (fu : Int) → tT e d 3713 13 [some (.inr (.inr (.inl 664))), some (.inr (.inl s)), none, some (.inr (.inl u)), none, some (.inr (.inl l)), none, some (.inr (.inl s2)), none, some (.inl k)] [] M1 n (tQl n (fun _ M' => MF M' D ∧ TE M M')) := by
    intro fu
    induction fu with
    | zero => intro s2 k a1 a2; exfalso; omega
    | succ fu ih =>
      intro s2 k a1 a2
      have g : k < M1 664 18 → 0 ≤ M1 673 k ∧ M1 673 k ≤ 65535 := fun h => q2.2.2 k (by omega) (by omega)
      refine tb_X12_spelledInto_13 (c := false) ?_
      simp only [kb_X12_spelledInto_13, w_ild9, w_ald_0, w_gf_14_18, tw_f, w_ic_ge, w_ld2, w_lld7, w_lmul, w_gf_14_16, w_ca, w_i2l, w_ladd, w_lst7, tkl_n, tkl_i, tkl_l, tkl_r, w_inc9, w_goto, true_and, and_true, Nat.reduceAdd, Nat.reduceSub, eq_self, tshm_14, tykm_14, tci_14, tshm_667, tshm_668, tshm_669, tshm_670, tykm_33, tci_700, tsn_671, tyn_17, tcn_10, tzs_672, tzs_673, tzs_680, tzs_681, tzs_682, tzs_683, tzs_684, tzs_685, tzs_686, tzs_687, tzs_688, tzs_689, tzy_15, tzy_35, tzy_36, tzy_37, tzy_38, tzy_39, tzy_40, tzc_60, tzc_320, tzc_5, tzc_4, tzc_8]
      refine ⟨by omega, fun h => ?_, fun h => ⟨by omega, by have := g (by omega); omega, ih _ (k + 1) (by omega) (by omega)⟩⟩
      refine tb_X12_spelledInto_45 (c := false) ?_
      simp only [kb_X12_spelledInto_45, w_lld7, w_lre, true_and, and_true, Nat.reduceAdd, Nat.reduceSub, eq_self]
      exact ⟨_, rfl, rfl, (MF_te hP q1 q2).1, q1⟩
  exact n13 41 s 0 (by omega) (by omega)
theorem o_checksum (hP : MF M D) (hd : 3 ≤ d) : tC e d 3597 [.inr (.inr (.inl 664))] M n (tQl n (fun _ M' => MF M' D ∧ MC M M')) := by
  refine tst_X12_checksum ?_
  have n100 : ∀ (fu : Nat) (M1 : tM) (s k : Int), MF M1 D → MC M M1 → (0 ≤ k ∧ k ≤ M1 664 17) → M1 664 17 < k + (fu : Int) → tT e d 3597 100 [some (.inr (.inr (.inl 664))), some (.inr (.inl s)), none, some (.inl k)] [] M1 n (tQl n (fun _ M' => MF M' D ∧ MC M M')) := by
    intro fu
    induction fu with
    | zero => intro M1 s k b1 b2 a1 a2; exfalso; omega
    | succ fu ih =>
      intro M1 s k b1 b2 a1 a2
      have g17 := b1.2.1.1
      have g : k < M1 664 17 → 0 ≤ M1 672 k ∧ M1 672 k ≤ 65535 := fun h => b1.2.1.2.1 k (by omega) (by omega)
      refine tb_X12_checksum_100 (c := false) ?_
      simp only [kb_X12_checksum_100, w_ild_3, w_ald_0, w_gf_14_17, tw_f, w_ic_ge, w_ld2, w_lld_1, w_lmul, w_gf_14_15, w_ca, w_i2l, w_ladd, w_lst_1, tkl_n, tkl_i, tkl_l, tkl_r, w_inc3, w_goto, true_and, and_true, Nat.reduceAdd, Nat.reduceSub, eq_self, tshm_14, tykm_14, tci_14, tshm_667, tshm_668, tshm_669, tshm_670, tykm_33, tci_700, tsn_671, tyn_17, tcn_10, tzs_672, tzs_673, tzs_680, tzs_681, tzs_682, tzs_683, tzs_684, tzs_685, tzs_686, tzs_687, tzs_688, tzs_689, tzy_15, tzy_35, tzy_36, tzy_37, tzy_38, tzy_39, tzy_40, tzc_60, tzc_320, tzc_5, tzc_4, tzc_8]
      refine ⟨by omega, fun h => ?_, fun h => ⟨by omega, by have := g (by omega); omega, ih M1 _ (k + 1) b1 b2 (by omega) (by omega)⟩⟩
      refine tb_X12_checksum_128 (c := false) ?_
      simp only [kb_X12_checksum_128, w_lld_1, w_lre, true_and, and_true, Nat.reduceAdd, Nat.reduceSub, eq_self]
      exact ⟨_, rfl, rfl, b1, b2⟩
  have n98 : ∀ (M1 : tM) (s : Int) (A : Option tV), MF M1 D → MC M M1 → tT e d 3597 98 [some (.inr (.inr (.inl 664))), some (.inr (.inl s)), none, A] [] M1 n (tQl n (fun _ M' => MF M' D ∧ MC M M')) := by
    intro M1 s A b1 b2
    have g17 := b1.2.1.1
    refine tb_X12_checksum_98 (c := false) ?_
    simp only [kb_X12_checksum_98, w_ic, w_ist_3, tkl_n, tkl_i, tkl_l, tkl_r, w_nil, true_and, and_true, Nat.reduceAdd, Nat.reduceSub, eq_self]
    exact n100 61 M1 s 0 b1 b2 (by omega) (by omega)
  have n17 : ∀ (fu : Nat) (M1 : tM) (s k : Int), MF M1 D → MC M M1 → (0 ≤ k ∧ k ≤ 10) → 10 < k + (fu : Int) → tT e d 3597 17 [some (.inr (.inr (.inl 664))), some (.inr (.inl s)), none, some (.inl k)] [] M1 n (tQl n (fun _ M' => MF M' D ∧ MC M M')) := by
    intro fu
    induction fu with
    | zero => intro M1 s k b1 b2 a1 a2; exfalso; omega
    | succ fu ih =>
      intro M1 s k b1 b2 a1 a2
      have n92 : ∀ (M2 : tM) (s : Int), k < 10 → MF M2 D → MC M M2 → tT e d 3597 92 [some (.inr (.inr (.inl 664))), some (.inr (.inl s)), none, some (.inl k)] [] M2 n (tQl n (fun _ M' => MF M' D ∧ MC M M')) := by
        intro M2 s h c1 c2
        refine tb_X12_checksum_92 (c := false) ?_
        simp only [kb_X12_checksum_92, w_inc3, tkl_n, tkl_i, tkl_l, tkl_r, w_goto, true_and, and_true, Nat.reduceAdd, Nat.reduceSub, eq_self]
        exact ih M2 s (k + 1) c1 c2 (by omega) (by omega)
      have n42 : ∀ v w : Int, k < 10 → tT e d 3597 42 [some (.inr (.inr (.inl 664))), some (.inr (.inl s)), none, some (.inl k)] [.inr (.inl v), .inr (.inl w)] M1 n (tQl n (fun _ M' => MF M' D ∧ MC M M')) := by
        intro v w h
        have g := b1.1.2.1.2.2 k (by omega) (by omega)
        have hb := b1.1.1.2.2.2.2.1 k (by omega) (by omega)
        unfold bcan at hb
        refine tb_X12_checksum_42 (c := false) ?_
        simp only [kb_X12_checksum_42, w_ladd, tw_f, w_lst_1, tkl_n, tkl_i, tkl_l, tkl_r, w_ald_0, w_gf_14_10, w_ild_3, w_ba, w_if_ne, w_goto, true_and, and_true, Nat.reduceAdd, Nat.reduceSub, eq_self, tshm_14, tykm_14, tci_14, tshm_667, tshm_668, tshm_669, tshm_670, tykm_33, tci_700, tsn_671, tyn_17, tcn_10, tzs_672, tzs_673, tzs_680, tzs_681, tzs_682, tzs_683, tzs_684, tzs_685, tzs_686, tzs_687, tzs_688, tzs_689, tzy_15, tzy_35, tzy_36, tzy_37, tzy_38, tzy_39, tzy_40, tzc_60, tzc_320, tzc_5, tzc_4, tzc_8]
        refine ⟨by omega, by omega, fun h => ?_, fun h => ?_⟩
        · refine tb_X12_checksum_56 (c := false) ?_
          simp only [kb_X12_checksum_56, w_ald_0, w_lld_1, w_gf_14_6, tw_f, w_ild_3, w_la, w_lax, w_gf_14_7, w_iv3, tfr_0, tfr_1, tfr_2, tfr_3, tfr_4, w_lst_1, tkl_n, tkl_i, tkl_l, tkl_r, w_gf_14_8, w_gf_14_9, w_nil, true_and, and_true, Nat.reduceAdd, Nat.reduceSub, eq_self, tshm_14, tykm_14, tci_14, tshm_667, tshm_668, tshm_669, tshm_670, tykm_33, tci_700, tsn_671, tyn_17, tcn_10, tzs_672, tzs_673, tzs_680, tzs_681, tzs_682, tzs_683, tzs_684, tzs_685, tzs_686, tzs_687, tzs_688, tzs_689, tzy_15, tzy_35, tzy_36, tzy_37, tzy_38, tzy_39, tzy_40, tzc_60, tzc_320, tzc_5, tzc_4, tzc_8]
          refine ⟨by omega, by omega, ?_⟩
          refine tc_l (D := 2) (fun d' hd' => o_spelledInto b1 (by omega) (by omega) hd') (by omega) ?_
          rintro s2 M2 ⟨p1, p2⟩
          have hb2 := p1.1.1.2.2.2.2.1 k (by omega) (by omega)
          unfold bcan at hb2
          try simp only [kb_X12_checksum_56, w_ald_0, w_lld_1, w_gf_14_6, tw_f, w_ild_3, w_la, w_lax, w_gf_14_7, w_iv3, tfr_0, tfr_1, tfr_2, tfr_3, tfr_4, w_lst_1, tkl_n, tkl_i, tkl_l, tkl_r, w_gf_14_8, w_gf_14_9, w_nil, true_and, and_true, Nat.reduceAdd, Nat.reduceSub, eq_self, tshm_14, tykm_14, tci_14, tshm_667, tshm_668, tshm_669, tshm_670, tykm_33, tci_700, tsn_671, tyn_17, tcn_10, tzs_672, tzs_673, tzs_680, tzs_681, tzs_682, tzs_683, tzs_684, tzs_685, tzs_686, tzs_687, tzs_688, tzs_689, tzy_15, tzy_35, tzy_36, tzy_37, tzy_38, tzy_39, tzy_40, tzc_60, tzc_320, tzc_5, tzc_4, tzc_8]
          refine ⟨by omega, by omega, ?_⟩
          refine tc_l (D := 2) (fun d' hd' => o_spelledInto p1 (by omega) (by omega) hd') (by omega) ?_
          rintro s3 M3 ⟨p3, p4⟩
          try simp only [kb_X12_checksum_56, w_ald_0, w_lld_1, w_gf_14_6, tw_f, w_ild_3, w_la, w_lax, w_gf_14_7, w_iv3, tfr_0, tfr_1, tfr_2, tfr_3, tfr_4, w_lst_1, tkl_n, tkl_i, tkl_l, tkl_r, w_gf_14_8, w_gf_14_9, w_nil, true_and, and_true, Nat.reduceAdd, Nat.reduceSub, eq_self, tshm_14, tykm_14, tci_14, tshm_667, tshm_668, tshm_669, tshm_670, tykm_33, tci_700, tsn_671, tyn_17, tcn_10, tzs_672, tzs_673, tzs_680, tzs_681, tzs_682, tzs_683, tzs_684, tzs_685, tzs_686, tzs_687, tzs_688, tzs_689, tzy_15, tzy_35, tzy_36, tzy_37, tzy_38, tzy_39, tzy_40, tzc_60, tzc_320, tzc_5, tzc_4, tzc_8]
          exact n92 M3 s3 (by omega) p3 (MC_tr b2 (MF_te b1 (TE_tr p2 p4) p3.2.1).2)
        · exact n92 M1 _ (by omega) b1 b2
      refine tb_X12_checksum_17 (c := false) ?_
      simp only [kb_X12_checksum_17, w_ild_3, w_bi, w_ic_ge, w_ld2, w_lld_1, w_lmul, tw_f, w_ald_0, w_gf_14_10, w_ba, w_if_eq, w_lc1, w_goto, true_and, and_true, Nat.reduceAdd, Nat.reduceSub, eq_self, tshm_14, tykm_14, tci_14, tshm_667, tshm_668, tshm_669, tshm_670, tykm_33, tci_700, tsn_671, tyn_17, tcn_10, tzs_672, tzs_673, tzs_680, tzs_681, tzs_682, tzs_683, tzs_684, tzs_685, tzs_686, tzs_687, tzs_688, tzs_689, tzy_15, tzy_35, tzy_36, tzy_37, tzy_38, tzy_39, tzy_40, tzc_60, tzc_320, tzc_5, tzc_4, tzc_8]
      refine ⟨by omega, fun h => n98 M1 s _ b1 b2, fun h => ?_⟩
      have g := b1.1.2.1.2.2 k (by omega) (by omega)
      refine ⟨by omega, by omega, fun h => ?_, fun h => ?_⟩
      · refine tb_X12_checksum_41 (c := false) ?_
        simp only [kb_X12_checksum_41, w_lc0, w_nil, true_and, and_true, Nat.reduceAdd, Nat.reduceSub, eq_self]
        exact n42 _ _ (by omega)
      · exact n42 _ _ (by omega)
  have hD := hP.1.1.1
  have h4 := MF_3 (v := 0) hP
  refine tb_X12_checksum_0 (c := false) ?_
  simp (disch := decide) only [kb_X12_checksum_0, w_ald_0, w_ic, w_pf_14_3, w_ld2, w_gf_14_2, tw_f, w_i2l, w_ladd, w_lst_1, tkl_n, tkl_i, tkl_l, tkl_r, w_ist_3, w_nil, true_and, and_true, Nat.reduceAdd, Nat.reduceSub, eq_self, tshm_14, tykm_14, tci_14, tshm_667, tshm_668, tshm_669, tshm_670, tykm_33, tci_700, tsn_671, tyn_17, tcn_10, tzs_672, tzs_673, tzs_680, tzs_681, tzs_682, tzs_683, tzs_684, tzs_685, tzs_686, tzs_687, tzs_688, tzs_689, tzy_15, tzy_35, tzy_36, tzy_37, tzy_38, tzy_39, tzy_40, tzc_60, tzc_320, tzc_5, tzc_4, tzc_8, tU_nk, tU_ni, tU_eq]
  refine ⟨by have := hP.1.1.2.1; omega, ?_⟩
  exact n17 11 _ _ 0 h4.1 h4.2 (by omega) (by omega)
end MODEL
