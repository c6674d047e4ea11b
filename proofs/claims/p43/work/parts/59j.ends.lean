/-! THE MODEL: boxes joined, halved, moved outward; ends; crossed products. -/

section MODEL
variable {e : tE} {d n D : Nat} {M : tM}
theorem o_signOf {u l : Int} (hu : -9223372036854775808 ≤ u ∧ u < 9223372036854775808) (hl : -9223372036854775808 ≤ l ∧ l < 9223372036854775808) : tC e d 3706 [.inr (.inl u), .inr (.inl l)] M n (tQi n (fun z M' => (-1 ≤ z ∧ z ≤ 1) ∧ M' = M)) := by
  refine tst_X12_signOf ?_
  have n27 : ∀ (L : tL) (z : Int), (-1 ≤ z ∧ z ≤ 1) → tT e d 3706 27 L [.inl z] M n (tQi n (fun z M' => (-1 ≤ z ∧ z ≤ 1) ∧ M' = M)) := by
    intro L z hz
    refine tb_X12_signOf_27 (c := false) ?_
    simp only [kb_X12_signOf_27, w_ire, trg, true_and, and_true, Nat.reduceAdd, Nat.reduceSub, eq_self]
    exact ⟨z, rfl, rfl, hz, rfl⟩
  have n26 : tT e d 3706 26 [some (.inr (.inl (u))), none, some (.inr (.inl (l))), none] [] M n (tQi n (fun z M' => (-1 ≤ z ∧ z ≤ 1) ∧ M' = M)) := by
    refine tb_X12_signOf_26 (c := false) ?_
    simp only [kb_X12_signOf_26, w_ic, w_nil, true_and, and_true, Nat.reduceAdd, Nat.reduceSub, eq_self]
    exact n27 _ 1 (by omega)
  refine tb_X12_signOf_0 (c := false) ?_
  simp only [kb_X12_signOf_0, w_lld_0, w_lc0, w_lcmp, ne_eq, tlc_r, tlc_eq, tlc_lt, tlc_ge, tlc_gt, tlc_le, w_if_ge, w_ic, w_goto, true_and, and_true, Nat.reduceAdd, Nat.reduceSub, eq_self]
  refine ⟨by omega, fun h => ?_, fun h => n27 _ (-1) (by omega)⟩
  refine tb_X12_signOf_10 (c := false) ?_
  simp only [kb_X12_signOf_10, w_lld_0, w_lc0, w_lcmp, ne_eq, tlc_r, tlc_eq, tlc_lt, tlc_ge, tlc_gt, tlc_le, w_if_ne, w_lld_2, w_ic, w_goto, true_and, and_true, Nat.reduceAdd, Nat.reduceSub, eq_self]
  exact ⟨by omega, fun h => n26, fun h => ⟨by omega, fun h => n26, fun h => n27 _ 0 (by omega)⟩⟩
theorem o_ends {v w : Int} (hB : BI M) (hv : 0 ≤ v ∧ v < 700) (hw : 0 ≤ w ∧ w < 700) (hd : 1 ≤ d) : tC e d 3611 [.inr (.inr (.inl 664)), .inl v, .inl w] M n (tQi n (fun z M' => (0 ≤ z ∧ z ≤ 65535) ∧ M' = M)) := by
  refine tst_X12_ends ?_
  have bv := hB v hv.1 hv.2
  have bw := hB w hw.1 hw.2
  have cv := bv
  have cw := bw
  unfold bcan at cv cw
  have n160 : ∀ (L : tL) (z : Int), (0 ≤ z ∧ z ≤ 65535) → tT e d 3611 160 L [.inl z] M n (tQi n (fun z M' => (0 ≤ z ∧ z ≤ 65535) ∧ M' = M)) := by
    intro L z hz
    refine tb_X12_ends_160 (c := false) ?_
    simp only [kb_X12_ends_160, w_ire, trg, true_and, and_true, Nat.reduceAdd, Nat.reduceSub, eq_self]
    exact ⟨hz, z, rfl, rfl, hz, rfl⟩
  have n132 : ∀ a b c z : Int, (a = 0 ∨ a = 1) → (b = 0 ∨ b = 1) → (c = 0 ∨ c = 1) → (z = 0 ∨ z = 1) → tT e d 3611 132 [some (.inr (.inr (.inl 664))), some (.inl (v)), some (.inl (w)), some (.inl (a)), some (.inl (b)), some (.inl (c)), none] [.inl z] M n (tQi n (fun z M' => (0 ≤ z ∧ z ≤ 65535) ∧ M' = M)) := by
    intro a b c z ha hb hc hz
    have n153 : tT e d 3611 153 [some (.inr (.inr (.inl 664))), some (.inl (v)), some (.inl (w)), some (.inl (a)), some (.inl (b)), some (.inl (c)), some (.inl (z))] [] M n (tQi n (fun z M' => (0 ≤ z ∧ z ≤ 65535) ∧ M' = M)) := by
      refine tb_X12_ends_153 (c := false) ?_
      simp only [kb_X12_ends_153, w_bi, w_goto, true_and, and_true, Nat.reduceAdd, Nat.reduceSub, eq_self]
      exact n160 _ 49 (by omega)
    have n158 : tT e d 3611 158 [some (.inr (.inr (.inl 664))), some (.inl (v)), some (.inl (w)), some (.inl (a)), some (.inl (b)), some (.inl (c)), some (.inl (z))] [] M n (tQi n (fun z M' => (0 ≤ z ∧ z ≤ 65535) ∧ M' = M)) := by
      refine tb_X12_ends_158 (c := false) ?_
      simp only [kb_X12_ends_158, w_bi, w_nil, true_and, and_true, Nat.reduceAdd, Nat.reduceSub, eq_self]
      exact n160 _ 63 (by omega)
    have n143 : tT e d 3611 143 [some (.inr (.inr (.inl 664))), some (.inl (v)), some (.inl (w)), some (.inl (a)), some (.inl (b)), some (.inl (c)), some (.inl (z))] [] M n (tQi n (fun z M' => (0 ≤ z ∧ z ≤ 65535) ∧ M' = M)) := by
      refine tb_X12_ends_143 (c := false) ?_
      simp only [kb_X12_ends_143, w_ild4, w_if_eq, w_ild5, w_nil, true_and, and_true, Nat.reduceAdd, Nat.reduceSub, eq_self]
      exact ⟨by omega, fun h => n158, fun h => ⟨by omega, fun h => n158, fun h => n153⟩⟩
    refine tb_X12_ends_132 (c := false) ?_
    simp only [kb_X12_ends_132, w_ist6, tkl_n, tkl_i, tkl_l, tkl_r, w_ild_3, w_if_eq, w_ild6, w_if_ne, w_nil, true_and, and_true, Nat.reduceAdd, Nat.reduceSub, eq_self]
    exact ⟨by omega, fun h => n143, fun h => ⟨by omega, fun h => n153, fun h => n143⟩⟩
  have n107 : ∀ a b z : Int, (a = 0 ∨ a = 1) → (b = 0 ∨ b = 1) → (z = 0 ∨ z = 1) → tT e d 3611 107 [some (.inr (.inr (.inl 664))), some (.inl (v)), some (.inl (w)), some (.inl (a)), some (.inl (b)), none, none] [.inl z] M n (tQi n (fun z M' => (0 ≤ z ∧ z ≤ 65535) ∧ M' = M)) := by
    intro a b z ha hb hz
    refine tb_X12_ends_107 (c := false) ?_
    simp only [kb_X12_ends_107, w_ist5, tkl_n, tkl_i, tkl_l, tkl_r, w_ald_0, w_gf_14_6, tw_f, w_ild_2, w_la, w_lax, w_gf_14_7, w_is2, tfr_0, tfr_1, tfr_2, tfr_3, tfr_4, w_if_lt, w_ic, w_goto, true_and, and_true, Nat.reduceAdd, Nat.reduceSub, eq_self, tshm_14, tshm_31, tshm_32, tykm_31, tykm_32, tci_15, tci_960, tykm_14, tci_14, tshm_667, tshm_668, tshm_669, tshm_670, tykm_33, tci_700, tsn_671, tyn_17, tcn_10, tzs_672, tzs_673, tzs_680, tzs_681, tzs_682, tzs_683, tzs_684, tzs_685, tzs_686, tzs_687, tzs_688, tzs_689, tzy_15, tzy_35, tzy_36, tzy_37, tzy_38, tzy_39, tzy_40, tzc_60, tzc_320, tzc_5, tzc_4, tzc_8]
    refine ⟨hw, hw, ?_⟩
    refine tc_i (D := 0) (fun d' hd' => o_signOf (by omega) (by omega)) (by omega) ?_
    rintro z2 M2 ⟨q, rfl⟩
    try simp only [kb_X12_ends_107, w_ist5, tkl_n, tkl_i, tkl_l, tkl_r, w_ald_0, w_gf_14_6, tw_f, w_ild_2, w_la, w_lax, w_gf_14_7, w_is2, tfr_0, tfr_1, tfr_2, tfr_3, tfr_4, w_if_lt, w_ic, w_goto, true_and, and_true, Nat.reduceAdd, Nat.reduceSub, eq_self, tshm_14, tshm_31, tshm_32, tykm_31, tykm_32, tci_15, tci_960, tykm_14, tci_14, tshm_667, tshm_668, tshm_669, tshm_670, tykm_33, tci_700, tsn_671, tyn_17, tcn_10, tzs_672, tzs_673, tzs_680, tzs_681, tzs_682, tzs_683, tzs_684, tzs_685, tzs_686, tzs_687, tzs_688, tzs_689, tzy_15, tzy_35, tzy_36, tzy_37, tzy_38, tzy_39, tzy_40, tzc_60, tzc_320, tzc_5, tzc_4, tzc_8]
    refine ⟨by omega, fun h => ?_, fun h => n132 a b z 1 ha hb hz (Or.inr rfl)⟩
    refine tb_X12_ends_131 (c := false) ?_
    simp only [kb_X12_ends_131, w_ic, w_nil, true_and, and_true, Nat.reduceAdd, Nat.reduceSub, eq_self]
    exact n132 a b z 0 ha hb hz (Or.inl rfl)
  have n82 : ∀ a z : Int, (a = 0 ∨ a = 1) → (z = 0 ∨ z = 1) → tT e d 3611 82 [some (.inr (.inr (.inl 664))), some (.inl (v)), some (.inl (w)), some (.inl (a)), none, none, none] [.inl z] M n (tQi n (fun z M' => (0 ≤ z ∧ z ≤ 65535) ∧ M' = M)) := by
    intro a z ha hz
    refine tb_X12_ends_82 (c := false) ?_
    simp only [kb_X12_ends_82, w_ist4, tkl_n, tkl_i, tkl_l, tkl_r, w_ald_0, w_gf_14_6, tw_f, w_ild_1, w_la, w_lax, w_gf_14_7, w_is2, tfr_0, tfr_1, tfr_2, tfr_3, tfr_4, w_if_lt, w_ic, w_goto, true_and, and_true, Nat.reduceAdd, Nat.reduceSub, eq_self, tshm_14, tshm_31, tshm_32, tykm_31, tykm_32, tci_15, tci_960, tykm_14, tci_14, tshm_667, tshm_668, tshm_669, tshm_670, tykm_33, tci_700, tsn_671, tyn_17, tcn_10, tzs_672, tzs_673, tzs_680, tzs_681, tzs_682, tzs_683, tzs_684, tzs_685, tzs_686, tzs_687, tzs_688, tzs_689, tzy_15, tzy_35, tzy_36, tzy_37, tzy_38, tzy_39, tzy_40, tzc_60, tzc_320, tzc_5, tzc_4, tzc_8]
    refine ⟨hv, hv, ?_⟩
    refine tc_i (D := 0) (fun d' hd' => o_signOf (by omega) (by omega)) (by omega) ?_
    rintro z2 M2 ⟨q, rfl⟩
    try simp only [kb_X12_ends_82, w_ist4, tkl_n, tkl_i, tkl_l, tkl_r, w_ald_0, w_gf_14_6, tw_f, w_ild_1, w_la, w_lax, w_gf_14_7, w_is2, tfr_0, tfr_1, tfr_2, tfr_3, tfr_4, w_if_lt, w_ic, w_goto, true_and, and_true, Nat.reduceAdd, Nat.reduceSub, eq_self, tshm_14, tshm_31, tshm_32, tykm_31, tykm_32, tci_15, tci_960, tykm_14, tci_14, tshm_667, tshm_668, tshm_669, tshm_670, tykm_33, tci_700, tsn_671, tyn_17, tcn_10, tzs_672, tzs_673, tzs_680, tzs_681, tzs_682, tzs_683, tzs_684, tzs_685, tzs_686, tzs_687, tzs_688, tzs_689, tzy_15, tzy_35, tzy_36, tzy_37, tzy_38, tzy_39, tzy_40, tzc_60, tzc_320, tzc_5, tzc_4, tzc_8]
    refine ⟨by omega, fun h => ?_, fun h => n107 a z 1 ha hz (Or.inr rfl)⟩
    refine tb_X12_ends_106 (c := false) ?_
    simp only [kb_X12_ends_106, w_ic, w_nil, true_and, and_true, Nat.reduceAdd, Nat.reduceSub, eq_self]
    exact n107 a z 0 ha hz (Or.inl rfl)
  have n58 : ∀ z : Int, (z = 0 ∨ z = 1) → tT e d 3611 58 [some (.inr (.inr (.inl 664))), some (.inl (v)), some (.inl (w)), none, none, none, none] [.inl z] M n (tQi n (fun z M' => (0 ≤ z ∧ z ≤ 65535) ∧ M' = M)) := by
    intro z hz
    refine tb_X12_ends_58 (c := false) ?_
    simp only [kb_X12_ends_58, w_ist_3, tkl_n, tkl_i, tkl_l, tkl_r, w_ald_0, w_gf_14_8, tw_f, w_ild_2, w_la, w_lax, w_gf_14_9, w_is2, tfr_0, tfr_1, tfr_2, tfr_3, tfr_4, w_if_gt, w_ic, w_goto, true_and, and_true, Nat.reduceAdd, Nat.reduceSub, eq_self, tshm_14, tshm_31, tshm_32, tykm_31, tykm_32, tci_15, tci_960, tykm_14, tci_14, tshm_667, tshm_668, tshm_669, tshm_670, tykm_33, tci_700, tsn_671, tyn_17, tcn_10, tzs_672, tzs_673, tzs_680, tzs_681, tzs_682, tzs_683, tzs_684, tzs_685, tzs_686, tzs_687, tzs_688, tzs_689, tzy_15, tzy_35, tzy_36, tzy_37, tzy_38, tzy_39, tzy_40, tzc_60, tzc_320, tzc_5, tzc_4, tzc_8]
    refine ⟨hw, hw, ?_⟩
    refine tc_i (D := 0) (fun d' hd' => o_signOf (by omega) (by omega)) (by omega) ?_
    rintro z2 M2 ⟨q, rfl⟩
    try simp only [kb_X12_ends_58, w_ist_3, tkl_n, tkl_i, tkl_l, tkl_r, w_ald_0, w_gf_14_8, tw_f, w_ild_2, w_la, w_lax, w_gf_14_9, w_is2, tfr_0, tfr_1, tfr_2, tfr_3, tfr_4, w_if_gt, w_ic, w_goto, true_and, and_true, Nat.reduceAdd, Nat.reduceSub, eq_self, tshm_14, tshm_31, tshm_32, tykm_31, tykm_32, tci_15, tci_960, tykm_14, tci_14, tshm_667, tshm_668, tshm_669, tshm_670, tykm_33, tci_700, tsn_671, tyn_17, tcn_10, tzs_672, tzs_673, tzs_680, tzs_681, tzs_682, tzs_683, tzs_684, tzs_685, tzs_686, tzs_687, tzs_688, tzs_689, tzy_15, tzy_35, tzy_36, tzy_37, tzy_38, tzy_39, tzy_40, tzc_60, tzc_320, tzc_5, tzc_4, tzc_8]
    refine ⟨by omega, fun h => ?_, fun h => n82 z 1 hz (Or.inr rfl)⟩
    refine tb_X12_ends_81 (c := false) ?_
    simp only [kb_X12_ends_81, w_ic, w_nil, true_and, and_true, Nat.reduceAdd, Nat.reduceSub, eq_self]
    exact n82 z 0 hz (Or.inl rfl)
  have n35 : tT e d 3611 35 [some (.inr (.inr (.inl 664))), some (.inl (v)), some (.inl (w)), none, none, none, none] [] M n (tQi n (fun z M' => (0 ≤ z ∧ z ≤ 65535) ∧ M' = M)) := by
    refine tb_X12_ends_35 (c := false) ?_
    simp only [kb_X12_ends_35, w_ald_0, w_gf_14_8, tw_f, w_ild_1, w_la, w_lax, w_gf_14_9, w_is2, tfr_0, tfr_1, tfr_2, tfr_3, tfr_4, w_if_gt, w_ic, w_goto, true_and, and_true, Nat.reduceAdd, Nat.reduceSub, eq_self, tshm_14, tshm_31, tshm_32, tykm_31, tykm_32, tci_15, tci_960, tykm_14, tci_14, tshm_667, tshm_668, tshm_669, tshm_670, tykm_33, tci_700, tsn_671, tyn_17, tcn_10, tzs_672, tzs_673, tzs_680, tzs_681, tzs_682, tzs_683, tzs_684, tzs_685, tzs_686, tzs_687, tzs_688, tzs_689, tzy_15, tzy_35, tzy_36, tzy_37, tzy_38, tzy_39, tzy_40, tzc_60, tzc_320, tzc_5, tzc_4, tzc_8]
    refine ⟨hv, hv, ?_⟩
    refine tc_i (D := 0) (fun d' hd' => o_signOf (by omega) (by omega)) (by omega) ?_
    rintro z2 M2 ⟨q, rfl⟩
    try simp only [kb_X12_ends_35, w_ald_0, w_gf_14_8, tw_f, w_ild_1, w_la, w_lax, w_gf_14_9, w_is2, tfr_0, tfr_1, tfr_2, tfr_3, tfr_4, w_if_gt, w_ic, w_goto, true_and, and_true, Nat.reduceAdd, Nat.reduceSub, eq_self, tshm_14, tshm_31, tshm_32, tykm_31, tykm_32, tci_15, tci_960, tykm_14, tci_14, tshm_667, tshm_668, tshm_669, tshm_670, tykm_33, tci_700, tsn_671, tyn_17, tcn_10, tzs_672, tzs_673, tzs_680, tzs_681, tzs_682, tzs_683, tzs_684, tzs_685, tzs_686, tzs_687, tzs_688, tzs_689, tzy_15, tzy_35, tzy_36, tzy_37, tzy_38, tzy_39, tzy_40, tzc_60, tzc_320, tzc_5, tzc_4, tzc_8]
    refine ⟨by omega, fun h => ?_, fun h => n58 1 (Or.inr rfl)⟩
    refine tb_X12_ends_57 (c := false) ?_
    simp only [kb_X12_ends_57, w_ic, w_nil, true_and, and_true, Nat.reduceAdd, Nat.reduceSub, eq_self]
    exact n58 0 (Or.inl rfl)
  have n32 : tT e d 3611 32 [some (.inr (.inr (.inl 664))), some (.inl (v)), some (.inl (w)), none, none, none, none] [] M n (tQi n (fun z M' => (0 ≤ z ∧ z ≤ 65535) ∧ M' = M)) := by
    refine tb_X12_ends_32 (c := false) ?_
    simp only [kb_X12_ends_32, w_bi, w_ire, trg, true_and, and_true, Nat.reduceAdd, Nat.reduceSub, eq_self]
    exact ⟨by omega, 32, rfl, rfl, by omega, rfl⟩
  have n16 : tT e d 3611 16 [some (.inr (.inr (.inl 664))), some (.inl (v)), some (.inl (w)), none, none, none, none] [] M n (tQi n (fun z M' => (0 ≤ z ∧ z ≤ 65535) ∧ M' = M)) := by
    refine tb_X12_ends_16 (c := false) ?_
    simp only [kb_X12_ends_16, w_ald_0, w_ild_1, w_iv1, tfr_0, tfr_1, tfr_2, tfr_3, tfr_4, w_if_eq, w_ild_2, w_nil, true_and, and_true, Nat.reduceAdd, Nat.reduceSub, eq_self, tshm_14, tshm_31, tshm_32, tykm_31, tykm_32, tci_15, tci_960, tykm_14, tci_14, tshm_667, tshm_668, tshm_669, tshm_670, tykm_33, tci_700, tsn_671, tyn_17, tcn_10, tzs_672, tzs_673, tzs_680, tzs_681, tzs_682, tzs_683, tzs_684, tzs_685, tzs_686, tzs_687, tzs_688, tzs_689, tzy_15, tzy_35, tzy_36, tzy_37, tzy_38, tzy_39, tzy_40, tzc_60, tzc_320, tzc_5, tzc_4, tzc_8]
    refine tc_i (D := 0) (fun d' hd' => c_isBelow0 hv bv) (by omega) ?_
    rintro z2 M2 ⟨q, rfl⟩
    try simp only [kb_X12_ends_16, w_ald_0, w_ild_1, w_iv1, tfr_0, tfr_1, tfr_2, tfr_3, tfr_4, w_if_eq, w_ild_2, w_nil, true_and, and_true, Nat.reduceAdd, Nat.reduceSub, eq_self, tshm_14, tshm_31, tshm_32, tykm_31, tykm_32, tci_15, tci_960, tykm_14, tci_14, tshm_667, tshm_668, tshm_669, tshm_670, tykm_33, tci_700, tsn_671, tyn_17, tcn_10, tzs_672, tzs_673, tzs_680, tzs_681, tzs_682, tzs_683, tzs_684, tzs_685, tzs_686, tzs_687, tzs_688, tzs_689, tzy_15, tzy_35, tzy_36, tzy_37, tzy_38, tzy_39, tzy_40, tzc_60, tzc_320, tzc_5, tzc_4, tzc_8]
    refine ⟨by omega, fun h => n35, fun h => ?_⟩
    refine tc_i (D := 0) (fun d' hd' => c_isBelow0 hw bw) (by omega) ?_
    rintro z2 M2 ⟨q, rfl⟩
    try simp only [kb_X12_ends_16, w_ald_0, w_ild_1, w_iv1, tfr_0, tfr_1, tfr_2, tfr_3, tfr_4, w_if_eq, w_ild_2, w_nil, true_and, and_true, Nat.reduceAdd, Nat.reduceSub, eq_self, tshm_14, tshm_31, tshm_32, tykm_31, tykm_32, tci_15, tci_960, tykm_14, tci_14, tshm_667, tshm_668, tshm_669, tshm_670, tykm_33, tci_700, tsn_671, tyn_17, tcn_10, tzs_672, tzs_673, tzs_680, tzs_681, tzs_682, tzs_683, tzs_684, tzs_685, tzs_686, tzs_687, tzs_688, tzs_689, tzy_15, tzy_35, tzy_36, tzy_37, tzy_38, tzy_39, tzy_40, tzc_60, tzc_320, tzc_5, tzc_4, tzc_8]
    exact ⟨by omega, fun h => n35, fun h => n32⟩
  refine tb_X12_ends_0 (c := false) ?_
  simp only [kb_X12_ends_0, w_ald_0, w_ild_1, w_iv1, tfr_0, tfr_1, tfr_2, tfr_3, tfr_4, w_if_eq, w_ild_2, w_if_ne, w_nil, true_and, and_true, Nat.reduceAdd, Nat.reduceSub, eq_self, tshm_14, tshm_31, tshm_32, tykm_31, tykm_32, tci_15, tci_960, tykm_14, tci_14, tshm_667, tshm_668, tshm_669, tshm_670, tykm_33, tci_700, tsn_671, tyn_17, tcn_10, tzs_672, tzs_673, tzs_680, tzs_681, tzs_682, tzs_683, tzs_684, tzs_685, tzs_686, tzs_687, tzs_688, tzs_689, tzy_15, tzy_35, tzy_36, tzy_37, tzy_38, tzy_39, tzy_40, tzc_60, tzc_320, tzc_5, tzc_4, tzc_8]
  refine tc_i (D := 0) (fun d' hd' => c_isAbove0 hv bv) (by omega) ?_
  rintro z2 M2 ⟨q, rfl⟩
  try simp only [kb_X12_ends_0, w_ald_0, w_ild_1, w_iv1, tfr_0, tfr_1, tfr_2, tfr_3, tfr_4, w_if_eq, w_ild_2, w_if_ne, w_nil, true_and, and_true, Nat.reduceAdd, Nat.reduceSub, eq_self, tshm_14, tshm_31, tshm_32, tykm_31, tykm_32, tci_15, tci_960, tykm_14, tci_14, tshm_667, tshm_668, tshm_669, tshm_670, tykm_33, tci_700, tsn_671, tyn_17, tcn_10, tzs_672, tzs_673, tzs_680, tzs_681, tzs_682, tzs_683, tzs_684, tzs_685, tzs_686, tzs_687, tzs_688, tzs_689, tzy_15, tzy_35, tzy_36, tzy_37, tzy_38, tzy_39, tzy_40, tzc_60, tzc_320, tzc_5, tzc_4, tzc_8]
  refine ⟨by omega, fun h => n16, fun h => ?_⟩
  refine tc_i (D := 0) (fun d' hd' => c_isAbove0 hw bw) (by omega) ?_
  rintro z2 M2 ⟨q, rfl⟩
  try simp only [kb_X12_ends_0, w_ald_0, w_ild_1, w_iv1, tfr_0, tfr_1, tfr_2, tfr_3, tfr_4, w_if_eq, w_ild_2, w_if_ne, w_nil, true_and, and_true, Nat.reduceAdd, Nat.reduceSub, eq_self, tshm_14, tshm_31, tshm_32, tykm_31, tykm_32, tci_15, tci_960, tykm_14, tci_14, tshm_667, tshm_668, tshm_669, tshm_670, tykm_33, tci_700, tsn_671, tyn_17, tcn_10, tzs_672, tzs_673, tzs_680, tzs_681, tzs_682, tzs_683, tzs_684, tzs_685, tzs_686, tzs_687, tzs_688, tzs_689, tzy_15, tzy_35, tzy_36, tzy_37, tzy_38, tzy_39, tzy_40, tzc_60, tzc_320, tzc_5, tzc_4, tzc_8]
  exact ⟨by omega, fun h => n32, fun h => n16⟩
end MODEL
