/-! THE MODEL: formulas read, whole. -/

section MODEL
variable {e : tE}
theorem RQ_le {M M1 M2 : tM} {z : Int} (h1 : RP 0 M M1) (h2 : RQ M1 M2 z) : RQ M M2 z := by
  obtain ⟨a1, a2, a3, a4⟩ := h1
  obtain ⟨⟨b1, b2, b3, b4⟩, b5⟩ := h2
  exact ⟨⟨b1, dE_tr a2 b2, by omega, by omega⟩, by omega⟩
theorem RQ_no {M M1 : tM} {c : Int} (h1 : RP c M M1) (hc : 0 ≤ c) : RQ M M1 (-1) := ⟨RP_le h1 hc, Or.inl rfl⟩
def RA (e : tE) (fu : Nat) : Prop := ∀ {M : tM} {d n : Nat}, DI M → M 664 17 - M 664 34 ≤ (fu : Int) → 4 * fu + 6 ≤ d → tC e d 3687 [.inr (.inr (.inl 664))] M n (tQi n (fun z M' => RQ M M' z))
theorem o_readPower {fu : Nat} (hA : RA e fu) {M : tM} {d n : Nat} (h : DI M) (hl : M 664 17 - M 664 34 ≤ (fu : Int)) (hd : 4 * fu + 7 ≤ d) : tC e d 3689 [.inr (.inr (.inl 664))] M n (tQi n (fun z M' => RQ M M' z)) := by
  refine tst_X12_readPower ?_
  refine tb_X12_readPower_0 (c := false) ?_
  simp only [kb_X12_readPower_0, w_ald_0, w_iv0, tfr_0, tfr_1, tfr_2, tfr_3, tfr_4, w_ist_1, tkl_n, tkl_i, tkl_l, tkl_r, w_ild_1, w_if_lt, w_bi, w_ic_eq, w_nil, true_and, and_true, Nat.reduceAdd, Nat.reduceSub, eq_self, tshm_14, tshm_31, tshm_32, tykm_31, tykm_32, tci_15, tci_960, tykm_14, tci_14, tshm_667, tshm_668, tshm_669, tshm_670, tykm_33, tci_700, tsn_671, tyn_17, tcn_10, tzs_672, tzs_673, tzs_680, tzs_681, tzs_682, tzs_683, tzs_684, tzs_685, tzs_686, tzs_687, tzs_688, tzs_689, tzy_15, tzy_35, tzy_36, tzy_37, tzy_38, tzy_39, tzy_40, tzc_60, tzc_320, tzc_5, tzc_4, tzc_8]
  refine tc_i (D := 4 * fu + 6) (fun d' hd' => hA h hl hd') (by omega) ?_
  rintro z M1 ⟨r1, q1⟩
  have D1 := r1.1
  have s1 := D1.2.2.1
  have l1 := D1.1.1
  have a1 := D1.2.1
  have hzr : -1 ≤ z ∧ z ≤ 400 := by omega
  try simp only [kb_X12_readPower_0, w_ald_0, w_iv0, tfr_0, tfr_1, tfr_2, tfr_3, tfr_4, w_ist_1, tkl_n, tkl_i, tkl_l, tkl_r, w_ild_1, w_if_lt, w_bi, w_ic_eq, w_nil, true_and, and_true, Nat.reduceAdd, Nat.reduceSub, eq_self, tshm_14, tshm_31, tshm_32, tykm_31, tykm_32, tci_15, tci_960, tykm_14, tci_14, tshm_667, tshm_668, tshm_669, tshm_670, tykm_33, tci_700, tsn_671, tyn_17, tcn_10, tzs_672, tzs_673, tzs_680, tzs_681, tzs_682, tzs_683, tzs_684, tzs_685, tzs_686, tzs_687, tzs_688, tzs_689, tzy_15, tzy_35, tzy_36, tzy_37, tzy_38, tzy_39, tzy_40, tzc_60, tzc_320, tzc_5, tzc_4, tzc_8]
  have n18 : tT e d 3689 18 [some (.inr (.inr (.inl 664))), some (.inl (z)), none] [] M1 n (tQi n (fun z M' => RQ M M' z)) := by
    refine tb_X12_readPower_18 (c := false) ?_
    simp only [kb_X12_readPower_18, w_ild_1, w_ire, trg, true_and, and_true, Nat.reduceAdd, Nat.reduceSub, eq_self]
    exact ⟨z, rfl, rfl, r1, q1⟩
  refine ⟨by omega, fun q => n18, fun q => ?_⟩
  refine tc_i (D := 0) (fun d' hd' => o_sg D1) (by omega) ?_
  rintro z2 M2 ⟨⟨⟨k1, k2⟩, k3⟩, rfl⟩
  try simp only [kb_X12_readPower_0, w_ald_0, w_iv0, tfr_0, tfr_1, tfr_2, tfr_3, tfr_4, w_ist_1, tkl_n, tkl_i, tkl_l, tkl_r, w_ild_1, w_if_lt, w_bi, w_ic_eq, w_nil, true_and, and_true, Nat.reduceAdd, Nat.reduceSub, eq_self, tshm_14, tshm_31, tshm_32, tykm_31, tykm_32, tci_15, tci_960, tykm_14, tci_14, tshm_667, tshm_668, tshm_669, tshm_670, tykm_33, tci_700, tsn_671, tyn_17, tcn_10, tzs_672, tzs_673, tzs_680, tzs_681, tzs_682, tzs_683, tzs_684, tzs_685, tzs_686, tzs_687, tzs_688, tzs_689, tzy_15, tzy_35, tzy_36, tzy_37, tzy_38, tzy_39, tzy_40, tzc_60, tzc_320, tzc_5, tzc_4, tzc_8]
  refine ⟨by omega, fun q2 => ?_, fun q2 => n18⟩
  have ra := RP_at D1 (k3 (by omega))
  have rb := RP_tr ra (RP_parts (v := tU M2 664 34 (M2 664 34 + 1) 664 35 + 1) ra.1)
  refine tb_X12_readPower_20 (c := false) ?_
  simp only [kb_X12_readPower_20, w_ald_0, w_dupi, w_dupr, w_gf_14_34, tw_f, w_ic, w_iadd, w_pf_14_34, w_gf_14_35, w_pf_14_35, w_iv0, tfr_0, tfr_1, tfr_2, tfr_3, tfr_4, w_is1, w_if_ne, w_ire, trg, true_and, and_true, Nat.reduceAdd, Nat.reduceSub, eq_self, tshm_14, tshm_31, tshm_32, tykm_31, tykm_32, tci_15, tci_960, tykm_14, tci_14, tshm_667, tshm_668, tshm_669, tshm_670, tykm_33, tci_700, tsn_671, tyn_17, tcn_10, tzs_672, tzs_673, tzs_680, tzs_681, tzs_682, tzs_683, tzs_684, tzs_685, tzs_686, tzs_687, tzs_688, tzs_689, tzy_15, tzy_35, tzy_36, tzy_37, tzy_38, tzy_39, tzy_40, tzc_60, tzc_320, tzc_5, tzc_4, tzc_8]
  have e35 : tU M2 664 34 (M2 664 34 + 1) 664 35 = M2 664 35 := tU_ni (by decide)
  rw [e35] at rb ⊢
  generalize tU (tU M2 664 34 (M2 664 34 + 1)) 664 35 (M2 664 35 + 1) = M3 at rb ⊢
  have D3 := rb.1
  have s3 := D3.2.2.1
  refine tc_i (D := 0) (fun d' hd' => o_sg D3) (by omega) ?_
  rintro z3 M4 ⟨⟨⟨g1, g2⟩, g3⟩, rfl⟩
  try simp only [kb_X12_readPower_20, w_ald_0, w_dupi, w_dupr, w_gf_14_34, tw_f, w_ic, w_iadd, w_pf_14_34, w_gf_14_35, w_pf_14_35, w_iv0, tfr_0, tfr_1, tfr_2, tfr_3, tfr_4, w_is1, w_if_ne, w_ire, trg, true_and, and_true, Nat.reduceAdd, Nat.reduceSub, eq_self, tshm_14, tshm_31, tshm_32, tykm_31, tykm_32, tci_15, tci_960, tykm_14, tci_14, tshm_667, tshm_668, tshm_669, tshm_670, tykm_33, tci_700, tsn_671, tyn_17, tcn_10, tzs_672, tzs_673, tzs_680, tzs_681, tzs_682, tzs_683, tzs_684, tzs_685, tzs_686, tzs_687, tzs_688, tzs_689, tzy_15, tzy_35, tzy_36, tzy_37, tzy_38, tzy_39, tzy_40, tzc_60, tzc_320, tzc_5, tzc_4, tzc_8]
  refine tc_i (D := 0) (fun d' hd' => o_isDigit g2) (by omega) ?_
  rintro z4 M5 ⟨g4, rfl⟩
  try simp only [kb_X12_readPower_20, w_ald_0, w_dupi, w_dupr, w_gf_14_34, tw_f, w_ic, w_iadd, w_pf_14_34, w_gf_14_35, w_pf_14_35, w_iv0, tfr_0, tfr_1, tfr_2, tfr_3, tfr_4, w_is1, w_if_ne, w_ire, trg, true_and, and_true, Nat.reduceAdd, Nat.reduceSub, eq_self, tshm_14, tshm_31, tshm_32, tykm_31, tykm_32, tci_15, tci_960, tykm_14, tci_14, tshm_667, tshm_668, tshm_669, tshm_670, tykm_33, tci_700, tsn_671, tyn_17, tcn_10, tzs_672, tzs_673, tzs_680, tzs_681, tzs_682, tzs_683, tzs_684, tzs_685, tzs_686, tzs_687, tzs_688, tzs_689, tzy_15, tzy_35, tzy_36, tzy_37, tzy_38, tzy_39, tzy_40, tzc_60, tzc_320, tzc_5, tzc_4, tzc_8]
  refine ⟨by omega, fun q3 => ?_, fun q3 => ?_⟩
  · refine tb_X12_readPower_55 (c := false) ?_
    simp only [kb_X12_readPower_55, w_ald_0, w_bi, w_ild_1, w_iv0, tfr_0, tfr_1, tfr_2, tfr_3, tfr_4, w_isub, w_iv3, w_ist_2, tkl_n, tkl_i, tkl_l, tkl_r, w_dupi, w_dupr, w_gf_14_34, tw_f, w_ic, w_iadd, w_pf_14_34, w_ild_2, w_ire, trg, true_and, and_true, Nat.reduceAdd, Nat.reduceSub, eq_self, tshm_14, tshm_31, tshm_32, tykm_31, tykm_32, tci_15, tci_960, tykm_14, tci_14, tshm_667, tshm_668, tshm_669, tshm_670, tykm_33, tci_700, tsn_671, tyn_17, tcn_10, tzs_672, tzs_673, tzs_680, tzs_681, tzs_682, tzs_683, tzs_684, tzs_685, tzs_686, tzs_687, tzs_688, tzs_689, tzy_15, tzy_35, tzy_36, tzy_37, tzy_38, tzy_39, tzy_40, tzc_60, tzc_320, tzc_5, tzc_4, tzc_8]
    refine tc_i (D := 0) (fun d' hd' => o_sg D3) (by omega) ?_
    rintro z5 M5 ⟨⟨⟨w1, w2⟩, w3⟩, rfl⟩
    try simp only [kb_X12_readPower_55, w_ald_0, w_bi, w_ild_1, w_iv0, tfr_0, tfr_1, tfr_2, tfr_3, tfr_4, w_isub, w_iv3, w_ist_2, tkl_n, tkl_i, tkl_l, tkl_r, w_dupi, w_dupr, w_gf_14_34, tw_f, w_ic, w_iadd, w_pf_14_34, w_ild_2, w_ire, trg, true_and, and_true, Nat.reduceAdd, Nat.reduceSub, eq_self, tshm_14, tshm_31, tshm_32, tykm_31, tykm_32, tci_15, tci_960, tykm_14, tci_14, tshm_667, tshm_668, tshm_669, tshm_670, tykm_33, tci_700, tsn_671, tyn_17, tcn_10, tzs_672, tzs_673, tzs_680, tzs_681, tzs_682, tzs_683, tzs_684, tzs_685, tzs_686, tzs_687, tzs_688, tzs_689, tzy_15, tzy_35, tzy_36, tzy_37, tzy_38, tzy_39, tzy_40, tzc_60, tzc_320, tzc_5, tzc_4, tzc_8]
    refine tc_i (D := 0) (fun d' hd' => o_part D3 (by omega)) (by omega) ?_
    rintro z6 M6 ⟨rfl, rfl⟩
    have t1 := rb.2.2.1
    have t2 := rb.2.2.2
    have rp := RP_part (M := M5) (k := 94) (l := z) (r := z5 - 48) D3 (by omega) (FN_part s3.1 (by omega))
    have rc := RP_at rp.1 (by
      have x1 : PM M5 94 z (z5 - 48) 664 34 = M5 664 34 := PM_k (by decide) (by omega)
      have x2 : PM M5 94 z (z5 - 48) 664 17 = M5 664 17 := PM_k (by decide) (by omega)
      rw [x1, x2]
      exact w3 (by omega))
    have pv := (PM_v (M := M5) (k := 94) (l := z) (r := z5 - 48)).1
    try simp only [kb_X12_readPower_55, w_ald_0, w_bi, w_ild_1, w_iv0, tfr_0, tfr_1, tfr_2, tfr_3, tfr_4, w_isub, w_iv3, w_ist_2, tkl_n, tkl_i, tkl_l, tkl_r, w_dupi, w_dupr, w_gf_14_34, tw_f, w_ic, w_iadd, w_pf_14_34, w_ild_2, w_ire, trg, true_and, and_true, Nat.reduceAdd, Nat.reduceSub, eq_self, tshm_14, tshm_31, tshm_32, tykm_31, tykm_32, tci_15, tci_960, tykm_14, tci_14, tshm_667, tshm_668, tshm_669, tshm_670, tykm_33, tci_700, tsn_671, tyn_17, tcn_10, tzs_672, tzs_673, tzs_680, tzs_681, tzs_682, tzs_683, tzs_684, tzs_685, tzs_686, tzs_687, tzs_688, tzs_689, tzy_15, tzy_35, tzy_36, tzy_37, tzy_38, tzy_39, tzy_40, tzc_60, tzc_320, tzc_5, tzc_4, tzc_8]
    have tot := RP_tr r1 (RP_tr rb (RP_tr rp rc))
    refine ⟨_, rfl, rfl, RP_le tot (by omega), Or.inr ⟨?_, ?_⟩⟩
    · rw [tU_nk (by decide), pv]; omega
    · have := tot.2.2.2
      have := tot.2.2.1
      omega
  · refine tc_i (D := 0) (fun d' hd' => o_faults D3) (by omega) ?_
    rintro z5 M5 ⟨rfl, w1⟩
    try simp only [kb_X12_readPower_20, w_ald_0, w_dupi, w_dupr, w_gf_14_34, tw_f, w_ic, w_iadd, w_pf_14_34, w_gf_14_35, w_pf_14_35, w_iv0, tfr_0, tfr_1, tfr_2, tfr_3, tfr_4, w_is1, w_if_ne, w_ire, trg, true_and, and_true, Nat.reduceAdd, Nat.reduceSub, eq_self, tshm_14, tshm_31, tshm_32, tykm_31, tykm_32, tci_15, tci_960, tykm_14, tci_14, tshm_667, tshm_668, tshm_669, tshm_670, tykm_33, tci_700, tsn_671, tyn_17, tcn_10, tzs_672, tzs_673, tzs_680, tzs_681, tzs_682, tzs_683, tzs_684, tzs_685, tzs_686, tzs_687, tzs_688, tzs_689, tzy_15, tzy_35, tzy_36, tzy_37, tzy_38, tzy_39, tzy_40, tzc_60, tzc_320, tzc_5, tzc_4, tzc_8]
    exact ⟨-1, rfl, rfl, RQ_no (RP_tr r1 (RP_tr rb w1)) (by omega)⟩
theorem o_readProduct {fu : Nat} (hA : RA e fu) {M : tM} {d n : Nat} (h : DI M) (hl : M 664 17 - M 664 34 ≤ (fu : Int)) (hd : 4 * fu + 8 ≤ d) : tC e d 3690 [.inr (.inr (.inl 664))] M n (tQi n (fun z M' => RQ M M' z)) := by
  refine tst_X12_readProduct ?_
  have n5 : ∀ (f2 : Nat) (M1 : tM) (z : Int) (A B : Option tV), RQ M M1 z → M1 664 17 - M1 664 34 < (f2 : Int) → tT e d 3690 5 [some (.inr (.inr (.inl 664))), some (.inl (z)), A, B] [] M1 n (tQi n (fun z M' => RQ M M' z)) := by
    intro f2
    induction f2 with
    | zero =>
      intro M1 z A B h1 h2
      have := h1.1.1.2.1
      exfalso; omega
    | succ f2 ih =>
      intro M1 z A B h1 h2
      obtain ⟨r1, q1⟩ := id h1
      have D1 := r1.1
      have s1 := D1.2.2.1
      have l1 := D1.1.1
      have a1 := D1.2.1
      have ln := RP_len r1
      have t1 := r1.2.2.1
      have t2 := r1.2.2.2
      have hzr : -1 ≤ z ∧ z ≤ 400 := by omega
      have n76 : tT e d 3690 76 [some (.inr (.inr (.inl 664))), some (.inl (z)), A, B] [] M1 n (tQi n (fun z M' => RQ M M' z)) := by
        refine tb_X12_readProduct_76 (c := false) ?_
        simp only [kb_X12_readProduct_76, w_ild_1, w_ire, trg, true_and, and_true, Nat.reduceAdd, Nat.reduceSub, eq_self]
        exact ⟨z, rfl, rfl, h1⟩
      have n27 : 0 ≤ z → (sg M1 = 42 ∨ sg M1 = 47) → M1 664 34 < M1 664 17 → tT e d 3690 27 [some (.inr (.inr (.inl 664))), some (.inl (z)), A, B] [] M1 n (tQi n (fun z M' => RQ M M' z)) := by
        intro hz hc hat
        have ra := RP_at D1 hat
        have rb := RP_tr ra (RP_parts (v := M1 664 35 + 1) ra.1)
        have lb := RP_len rb
        refine tb_X12_readProduct_27 (c := false) ?_
        simp only [kb_X12_readProduct_27, w_ald_0, w_iv0, tfr_0, tfr_1, tfr_2, tfr_3, tfr_4, w_ist_2, tkl_n, tkl_i, tkl_l, tkl_r, w_dupi, w_dupr, w_gf_14_34, tw_f, w_ic, w_iadd, w_pf_14_34, w_gf_14_35, w_pf_14_35, w_ist_3, w_ild_3, w_if_ge, w_goto, true_and, and_true, Nat.reduceAdd, Nat.reduceSub, eq_self, tshm_14, tshm_31, tshm_32, tykm_31, tykm_32, tci_15, tci_960, tykm_14, tci_14, tshm_667, tshm_668, tshm_669, tshm_670, tykm_33, tci_700, tsn_671, tyn_17, tcn_10, tzs_672, tzs_673, tzs_680, tzs_681, tzs_682, tzs_683, tzs_684, tzs_685, tzs_686, tzs_687, tzs_688, tzs_689, tzy_15, tzy_35, tzy_36, tzy_37, tzy_38, tzy_39, tzy_40, tzc_60, tzc_320, tzc_5, tzc_4, tzc_8]
        refine tc_i (D := 0) (fun d' hd' => o_sg D1) (by omega) ?_
        rintro c M9 ⟨⟨⟨b1, b2⟩, b3⟩, rfl⟩
        try simp only [kb_X12_readProduct_27, w_ald_0, w_iv0, tfr_0, tfr_1, tfr_2, tfr_3, tfr_4, w_ist_2, tkl_n, tkl_i, tkl_l, tkl_r, w_dupi, w_dupr, w_gf_14_34, tw_f, w_ic, w_iadd, w_pf_14_34, w_gf_14_35, w_pf_14_35, w_ist_3, w_ild_3, w_if_ge, w_goto, true_and, and_true, Nat.reduceAdd, Nat.reduceSub, eq_self, tshm_14, tshm_31, tshm_32, tykm_31, tykm_32, tci_15, tci_960, tykm_14, tci_14, tshm_667, tshm_668, tshm_669, tshm_670, tykm_33, tci_700, tsn_671, tyn_17, tcn_10, tzs_672, tzs_673, tzs_680, tzs_681, tzs_682, tzs_683, tzs_684, tzs_685, tzs_686, tzs_687, tzs_688, tzs_689, tzy_15, tzy_35, tzy_36, tzy_37, tzy_38, tzy_39, tzy_40, tzc_60, tzc_320, tzc_5, tzc_4, tzc_8]
        rw [← b1] at hc
        have e35 : tU M9 664 34 (M9 664 34 + 1) 664 35 = M9 664 35 := tU_ni (by decide)
        rw [e35]
        generalize tU (tU M9 664 34 (M9 664 34 + 1)) 664 35 (M9 664 35 + 1) = M2 at rb lb ⊢
        have D2 := rb.1
        have u1 := rb.2.2.1
        have u2 := rb.2.2.2
        refine tc_i (D := 4 * fu + 7) (fun d' hd' => o_readPower hA D2 (by omega) hd') (by omega) ?_
        rintro z3 M3 ⟨w1, w2⟩
        have D3 := w1.1
        have s3 := D3.2.2.1
        have a3 := D3.2.1
        have l3 := D3.1.1
        have v1 := w1.2.2.1
        have v2 := w1.2.2.2
        have hzr3 : -1 ≤ z3 ∧ z3 ≤ 400 := by omega
        have l9 := RP_len w1
        try simp only [kb_X12_readProduct_27, w_ald_0, w_iv0, tfr_0, tfr_1, tfr_2, tfr_3, tfr_4, w_ist_2, tkl_n, tkl_i, tkl_l, tkl_r, w_dupi, w_dupr, w_gf_14_34, tw_f, w_ic, w_iadd, w_pf_14_34, w_gf_14_35, w_pf_14_35, w_ist_3, w_ild_3, w_if_ge, w_goto, true_and, and_true, Nat.reduceAdd, Nat.reduceSub, eq_self, tshm_14, tshm_31, tshm_32, tykm_31, tykm_32, tci_15, tci_960, tykm_14, tci_14, tshm_667, tshm_668, tshm_669, tshm_670, tykm_33, tci_700, tsn_671, tyn_17, tcn_10, tzs_672, tzs_673, tzs_680, tzs_681, tzs_682, tzs_683, tzs_684, tzs_685, tzs_686, tzs_687, tzs_688, tzs_689, tzy_15, tzy_35, tzy_36, tzy_37, tzy_38, tzy_39, tzy_40, tzc_60, tzc_320, tzc_5, tzc_4, tzc_8]
        refine ⟨by omega, fun q => ?_, fun q => ?_⟩
        · refine tb_X12_readProduct_65 (c := false) ?_
          simp only [kb_X12_readProduct_65, w_ald_0, w_ild_2, w_ild_1, w_ild_3, w_iv3, tfr_0, tfr_1, tfr_2, tfr_3, tfr_4, w_nil, true_and, and_true, Nat.reduceAdd, Nat.reduceSub, eq_self, tshm_14, tshm_31, tshm_32, tykm_31, tykm_32, tci_15, tci_960, tykm_14, tci_14, tshm_667, tshm_668, tshm_669, tshm_670, tykm_33, tci_700, tsn_671, tyn_17, tcn_10, tzs_672, tzs_673, tzs_680, tzs_681, tzs_682, tzs_683, tzs_684, tzs_685, tzs_686, tzs_687, tzs_688, tzs_689, tzy_15, tzy_35, tzy_36, tzy_37, tzy_38, tzy_39, tzy_40, tzc_60, tzc_320, tzc_5, tzc_4, tzc_8]
          refine tc_i (D := 0) (fun d' hd' => o_part D3 b2) (by omega) ?_
          rintro z6 M6 ⟨rfl, rfl⟩
          have rp := RP_part (M := M3) (k := c) (l := z) (r := z3) D3 (by omega) (FN_part s3.1 (Or.inr (Or.inr (Or.inr ⟨by omega, by omega, by omega⟩))))
          have pv := (PM_v (M := M3) (k := c) (l := z) (r := z3)).1
          have x1 : PM M3 c z z3 664 34 = M3 664 34 := PM_k (by decide) (by omega)
          have x2 : PM M3 c z z3 664 17 = M3 664 17 := PM_k (by decide) (by omega)
          try simp only [kb_X12_readProduct_65, w_ald_0, w_ild_2, w_ild_1, w_ild_3, w_iv3, tfr_0, tfr_1, tfr_2, tfr_3, tfr_4, w_nil, true_and, and_true, Nat.reduceAdd, Nat.reduceSub, eq_self, tshm_14, tshm_31, tshm_32, tykm_31, tykm_32, tci_15, tci_960, tykm_14, tci_14, tshm_667, tshm_668, tshm_669, tshm_670, tykm_33, tci_700, tsn_671, tyn_17, tcn_10, tzs_672, tzs_673, tzs_680, tzs_681, tzs_682, tzs_683, tzs_684, tzs_685, tzs_686, tzs_687, tzs_688, tzs_689, tzy_15, tzy_35, tzy_36, tzy_37, tzy_38, tzy_39, tzy_40, tzc_60, tzc_320, tzc_5, tzc_4, tzc_8]
          refine tb_X12_readProduct_72 (c := false) ?_
          simp only [kb_X12_readProduct_72, w_ist_1, tkl_n, tkl_i, tkl_l, tkl_r, w_goto, true_and, and_true, Nat.reduceAdd, Nat.reduceSub, eq_self]
          exact ih _ _ _ _ ⟨RP_le (RP_tr r1 (RP_tr rb (RP_tr w1 rp))) (by omega), Or.inr ⟨by omega, by omega⟩⟩ (by omega)
        · refine tb_X12_readProduct_72 (c := false) ?_
          simp only [kb_X12_readProduct_72, w_ist_1, tkl_n, tkl_i, tkl_l, tkl_r, w_goto, true_and, and_true, Nat.reduceAdd, Nat.reduceSub, eq_self]
          exact ih _ (-1) _ _ (RQ_no (RP_tr r1 (RP_tr rb w1)) (by omega)) (by omega)
      refine tb_X12_readProduct_5 (c := false) ?_
      simp only [kb_X12_readProduct_5, w_ild_1, w_if_lt, w_ald_0, w_iv0, tfr_0, tfr_1, tfr_2, tfr_3, tfr_4, w_bi, w_ic_eq, w_ic_ne, w_nil, true_and, and_true, Nat.reduceAdd, Nat.reduceSub, eq_self, tshm_14, tshm_31, tshm_32, tykm_31, tykm_32, tci_15, tci_960, tykm_14, tci_14, tshm_667, tshm_668, tshm_669, tshm_670, tykm_33, tci_700, tsn_671, tyn_17, tcn_10, tzs_672, tzs_673, tzs_680, tzs_681, tzs_682, tzs_683, tzs_684, tzs_685, tzs_686, tzs_687, tzs_688, tzs_689, tzy_15, tzy_35, tzy_36, tzy_37, tzy_38, tzy_39, tzy_40, tzc_60, tzc_320, tzc_5, tzc_4, tzc_8]
      refine ⟨by omega, fun q => n76, fun q => ?_⟩
      refine tc_i (D := 0) (fun d' hd' => o_sg D1) (by omega) ?_
      rintro c M9 ⟨⟨⟨b1, b2⟩, b3⟩, rfl⟩
      try simp only [kb_X12_readProduct_5, w_ild_1, w_if_lt, w_ald_0, w_iv0, tfr_0, tfr_1, tfr_2, tfr_3, tfr_4, w_bi, w_ic_eq, w_ic_ne, w_nil, true_and, and_true, Nat.reduceAdd, Nat.reduceSub, eq_self, tshm_14, tshm_31, tshm_32, tykm_31, tykm_32, tci_15, tci_960, tykm_14, tci_14, tshm_667, tshm_668, tshm_669, tshm_670, tykm_33, tci_700, tsn_671, tyn_17, tcn_10, tzs_672, tzs_673, tzs_680, tzs_681, tzs_682, tzs_683, tzs_684, tzs_685, tzs_686, tzs_687, tzs_688, tzs_689, tzy_15, tzy_35, tzy_36, tzy_37, tzy_38, tzy_39, tzy_40, tzc_60, tzc_320, tzc_5, tzc_4, tzc_8]
      refine ⟨by omega, fun q2 => n27 (by omega) (by omega) (b3 (by omega)), fun q2 => ?_⟩
      refine tc_i (D := 0) (fun d' hd' => o_sg D1) (by omega) ?_
      rintro c2 M8 ⟨⟨⟨b4, b5⟩, b6⟩, rfl⟩
      try simp only [kb_X12_readProduct_5, w_ild_1, w_if_lt, w_ald_0, w_iv0, tfr_0, tfr_1, tfr_2, tfr_3, tfr_4, w_bi, w_ic_eq, w_ic_ne, w_nil, true_and, and_true, Nat.reduceAdd, Nat.reduceSub, eq_self, tshm_14, tshm_31, tshm_32, tykm_31, tykm_32, tci_15, tci_960, tykm_14, tci_14, tshm_667, tshm_668, tshm_669, tshm_670, tykm_33, tci_700, tsn_671, tyn_17, tcn_10, tzs_672, tzs_673, tzs_680, tzs_681, tzs_682, tzs_683, tzs_684, tzs_685, tzs_686, tzs_687, tzs_688, tzs_689, tzy_15, tzy_35, tzy_36, tzy_37, tzy_38, tzy_39, tzy_40, tzc_60, tzc_320, tzc_5, tzc_4, tzc_8]
      exact ⟨by omega, fun q3 => n76, fun q3 => n27 (by omega) (by omega) (b6 (by omega))⟩
  refine tb_X12_readProduct_0 (c := false) ?_
  simp only [kb_X12_readProduct_0, w_ald_0, w_iv0, tfr_0, tfr_1, tfr_2, tfr_3, tfr_4, w_ist_1, tkl_n, tkl_i, tkl_l, tkl_r, w_nil, true_and, and_true, Nat.reduceAdd, Nat.reduceSub, eq_self, tshm_14, tshm_31, tshm_32, tykm_31, tykm_32, tci_15, tci_960, tykm_14, tci_14, tshm_667, tshm_668, tshm_669, tshm_670, tykm_33, tci_700, tsn_671, tyn_17, tcn_10, tzs_672, tzs_673, tzs_680, tzs_681, tzs_682, tzs_683, tzs_684, tzs_685, tzs_686, tzs_687, tzs_688, tzs_689, tzy_15, tzy_35, tzy_36, tzy_37, tzy_38, tzy_39, tzy_40, tzc_60, tzc_320, tzc_5, tzc_4, tzc_8]
  refine tc_i (D := 4 * fu + 7) (fun d' hd' => o_readPower hA h hl hd') (by omega) ?_
  rintro z M1 w1
  have D1 := w1.1.1
  have l1 := D1.1.1
  have a1 := D1.2.1
  try simp only [kb_X12_readProduct_0, w_ald_0, w_iv0, tfr_0, tfr_1, tfr_2, tfr_3, tfr_4, w_ist_1, tkl_n, tkl_i, tkl_l, tkl_r, w_nil, true_and, and_true, Nat.reduceAdd, Nat.reduceSub, eq_self, tshm_14, tshm_31, tshm_32, tykm_31, tykm_32, tci_15, tci_960, tykm_14, tci_14, tshm_667, tshm_668, tshm_669, tshm_670, tykm_33, tci_700, tsn_671, tyn_17, tcn_10, tzs_672, tzs_673, tzs_680, tzs_681, tzs_682, tzs_683, tzs_684, tzs_685, tzs_686, tzs_687, tzs_688, tzs_689, tzy_15, tzy_35, tzy_36, tzy_37, tzy_38, tzy_39, tzy_40, tzc_60, tzc_320, tzc_5, tzc_4, tzc_8]
  exact n5 61 M1 z _ _ w1 (by omega)
theorem o_readSum {fu : Nat} (hA : RA e fu) {M : tM} {d n : Nat} (h : DI M) (hl : M 664 17 - M 664 34 ≤ (fu : Int)) (hd : 4 * fu + 9 ≤ d) : tC e d 3691 [.inr (.inr (.inl 664))] M n (tQi n (fun z M' => RQ M M' z)) := by
  refine tst_X12_readSum ?_
  have n5 : ∀ (f2 : Nat) (M1 : tM) (z : Int) (A B : Option tV), RQ M M1 z → M1 664 17 - M1 664 34 < (f2 : Int) → tT e d 3691 5 [some (.inr (.inr (.inl 664))), some (.inl (z)), A, B] [] M1 n (tQi n (fun z M' => RQ M M' z)) := by
    intro f2
    induction f2 with
    | zero =>
      intro M1 z A B h1 h2
      have := h1.1.1.2.1
      exfalso; omega
    | succ f2 ih =>
      intro M1 z A B h1 h2
      obtain ⟨r1, q1⟩ := id h1
      have D1 := r1.1
      have s1 := D1.2.2.1
      have l1 := D1.1.1
      have a1 := D1.2.1
      have ln := RP_len r1
      have t1 := r1.2.2.1
      have t2 := r1.2.2.2
      have hzr : -1 ≤ z ∧ z ≤ 400 := by omega
      have n76 : tT e d 3691 76 [some (.inr (.inr (.inl 664))), some (.inl (z)), A, B] [] M1 n (tQi n (fun z M' => RQ M M' z)) := by
        refine tb_X12_readSum_76 (c := false) ?_
        simp only [kb_X12_readSum_76, w_ild_1, w_ire, trg, true_and, and_true, Nat.reduceAdd, Nat.reduceSub, eq_self]
        exact ⟨z, rfl, rfl, h1⟩
      have n27 : 0 ≤ z → (sg M1 = 43 ∨ sg M1 = 45) → M1 664 34 < M1 664 17 → tT e d 3691 27 [some (.inr (.inr (.inl 664))), some (.inl (z)), A, B] [] M1 n (tQi n (fun z M' => RQ M M' z)) := by
        intro hz hc hat
        have ra := RP_at D1 hat
        have rb := RP_tr ra (RP_parts (v := M1 664 35 + 1) ra.1)
        have lb := RP_len rb
        refine tb_X12_readSum_27 (c := false) ?_
        simp only [kb_X12_readSum_27, w_ald_0, w_iv0, tfr_0, tfr_1, tfr_2, tfr_3, tfr_4, w_ist_2, tkl_n, tkl_i, tkl_l, tkl_r, w_dupi, w_dupr, w_gf_14_34, tw_f, w_ic, w_iadd, w_pf_14_34, w_gf_14_35, w_pf_14_35, w_ist_3, w_ild_3, w_if_ge, w_goto, true_and, and_true, Nat.reduceAdd, Nat.reduceSub, eq_self, tshm_14, tshm_31, tshm_32, tykm_31, tykm_32, tci_15, tci_960, tykm_14, tci_14, tshm_667, tshm_668, tshm_669, tshm_670, tykm_33, tci_700, tsn_671, tyn_17, tcn_10, tzs_672, tzs_673, tzs_680, tzs_681, tzs_682, tzs_683, tzs_684, tzs_685, tzs_686, tzs_687, tzs_688, tzs_689, tzy_15, tzy_35, tzy_36, tzy_37, tzy_38, tzy_39, tzy_40, tzc_60, tzc_320, tzc_5, tzc_4, tzc_8]
        refine tc_i (D := 0) (fun d' hd' => o_sg D1) (by omega) ?_
        rintro c M9 ⟨⟨⟨b1, b2⟩, b3⟩, rfl⟩
        try simp only [kb_X12_readSum_27, w_ald_0, w_iv0, tfr_0, tfr_1, tfr_2, tfr_3, tfr_4, w_ist_2, tkl_n, tkl_i, tkl_l, tkl_r, w_dupi, w_dupr, w_gf_14_34, tw_f, w_ic, w_iadd, w_pf_14_34, w_gf_14_35, w_pf_14_35, w_ist_3, w_ild_3, w_if_ge, w_goto, true_and, and_true, Nat.reduceAdd, Nat.reduceSub, eq_self, tshm_14, tshm_31, tshm_32, tykm_31, tykm_32, tci_15, tci_960, tykm_14, tci_14, tshm_667, tshm_668, tshm_669, tshm_670, tykm_33, tci_700, tsn_671, tyn_17, tcn_10, tzs_672, tzs_673, tzs_680, tzs_681, tzs_682, tzs_683, tzs_684, tzs_685, tzs_686, tzs_687, tzs_688, tzs_689, tzy_15, tzy_35, tzy_36, tzy_37, tzy_38, tzy_39, tzy_40, tzc_60, tzc_320, tzc_5, tzc_4, tzc_8]
        rw [← b1] at hc
        have e35 : tU M9 664 34 (M9 664 34 + 1) 664 35 = M9 664 35 := tU_ni (by decide)
        rw [e35]
        generalize tU (tU M9 664 34 (M9 664 34 + 1)) 664 35 (M9 664 35 + 1) = M2 at rb lb ⊢
        have D2 := rb.1
        have u1 := rb.2.2.1
        have u2 := rb.2.2.2
        refine tc_i (D := 4 * fu + 8) (fun d' hd' => o_readProduct hA D2 (by omega) hd') (by omega) ?_
        rintro z3 M3 ⟨w1, w2⟩
        have D3 := w1.1
        have s3 := D3.2.2.1
        have a3 := D3.2.1
        have l3 := D3.1.1
        have v1 := w1.2.2.1
        have v2 := w1.2.2.2
        have hzr3 : -1 ≤ z3 ∧ z3 ≤ 400 := by omega
        have l9 := RP_len w1
        try simp only [kb_X12_readSum_27, w_ald_0, w_iv0, tfr_0, tfr_1, tfr_2, tfr_3, tfr_4, w_ist_2, tkl_n, tkl_i, tkl_l, tkl_r, w_dupi, w_dupr, w_gf_14_34, tw_f, w_ic, w_iadd, w_pf_14_34, w_gf_14_35, w_pf_14_35, w_ist_3, w_ild_3, w_if_ge, w_goto, true_and, and_true, Nat.reduceAdd, Nat.reduceSub, eq_self, tshm_14, tshm_31, tshm_32, tykm_31, tykm_32, tci_15, tci_960, tykm_14, tci_14, tshm_667, tshm_668, tshm_669, tshm_670, tykm_33, tci_700, tsn_671, tyn_17, tcn_10, tzs_672, tzs_673, tzs_680, tzs_681, tzs_682, tzs_683, tzs_684, tzs_685, tzs_686, tzs_687, tzs_688, tzs_689, tzy_15, tzy_35, tzy_36, tzy_37, tzy_38, tzy_39, tzy_40, tzc_60, tzc_320, tzc_5, tzc_4, tzc_8]
        refine ⟨by omega, fun q => ?_, fun q => ?_⟩
        · refine tb_X12_readSum_65 (c := false) ?_
          simp only [kb_X12_readSum_65, w_ald_0, w_ild_2, w_ild_1, w_ild_3, w_iv3, tfr_0, tfr_1, tfr_2, tfr_3, tfr_4, w_nil, true_and, and_true, Nat.reduceAdd, Nat.reduceSub, eq_self, tshm_14, tshm_31, tshm_32, tykm_31, tykm_32, tci_15, tci_960, tykm_14, tci_14, tshm_667, tshm_668, tshm_669, tshm_670, tykm_33, tci_700, tsn_671, tyn_17, tcn_10, tzs_672, tzs_673, tzs_680, tzs_681, tzs_682, tzs_683, tzs_684, tzs_685, tzs_686, tzs_687, tzs_688, tzs_689, tzy_15, tzy_35, tzy_36, tzy_37, tzy_38, tzy_39, tzy_40, tzc_60, tzc_320, tzc_5, tzc_4, tzc_8]
          refine tc_i (D := 0) (fun d' hd' => o_part D3 b2) (by omega) ?_
          rintro z6 M6 ⟨rfl, rfl⟩
          have rp := RP_part (M := M3) (k := c) (l := z) (r := z3) D3 (by omega) (FN_part s3.1 (Or.inr (Or.inr (Or.inr ⟨by omega, by omega, by omega⟩))))
          have pv := (PM_v (M := M3) (k := c) (l := z) (r := z3)).1
          have x1 : PM M3 c z z3 664 34 = M3 664 34 := PM_k (by decide) (by omega)
          have x2 : PM M3 c z z3 664 17 = M3 664 17 := PM_k (by decide) (by omega)
          try simp only [kb_X12_readSum_65, w_ald_0, w_ild_2, w_ild_1, w_ild_3, w_iv3, tfr_0, tfr_1, tfr_2, tfr_3, tfr_4, w_nil, true_and, and_true, Nat.reduceAdd, Nat.reduceSub, eq_self, tshm_14, tshm_31, tshm_32, tykm_31, tykm_32, tci_15, tci_960, tykm_14, tci_14, tshm_667, tshm_668, tshm_669, tshm_670, tykm_33, tci_700, tsn_671, tyn_17, tcn_10, tzs_672, tzs_673, tzs_680, tzs_681, tzs_682, tzs_683, tzs_684, tzs_685, tzs_686, tzs_687, tzs_688, tzs_689, tzy_15, tzy_35, tzy_36, tzy_37, tzy_38, tzy_39, tzy_40, tzc_60, tzc_320, tzc_5, tzc_4, tzc_8]
          refine tb_X12_readSum_72 (c := false) ?_
          simp only [kb_X12_readSum_72, w_ist_1, tkl_n, tkl_i, tkl_l, tkl_r, w_goto, true_and, and_true, Nat.reduceAdd, Nat.reduceSub, eq_self]
          exact ih _ _ _ _ ⟨RP_le (RP_tr r1 (RP_tr rb (RP_tr w1 rp))) (by omega), Or.inr ⟨by omega, by omega⟩⟩ (by omega)
        · refine tb_X12_readSum_72 (c := false) ?_
          simp only [kb_X12_readSum_72, w_ist_1, tkl_n, tkl_i, tkl_l, tkl_r, w_goto, true_and, and_true, Nat.reduceAdd, Nat.reduceSub, eq_self]
          exact ih _ (-1) _ _ (RQ_no (RP_tr r1 (RP_tr rb w1)) (by omega)) (by omega)
      refine tb_X12_readSum_5 (c := false) ?_
      simp only [kb_X12_readSum_5, w_ild_1, w_if_lt, w_ald_0, w_iv0, tfr_0, tfr_1, tfr_2, tfr_3, tfr_4, w_bi, w_ic_eq, w_ic_ne, w_nil, true_and, and_true, Nat.reduceAdd, Nat.reduceSub, eq_self, tshm_14, tshm_31, tshm_32, tykm_31, tykm_32, tci_15, tci_960, tykm_14, tci_14, tshm_667, tshm_668, tshm_669, tshm_670, tykm_33, tci_700, tsn_671, tyn_17, tcn_10, tzs_672, tzs_673, tzs_680, tzs_681, tzs_682, tzs_683, tzs_684, tzs_685, tzs_686, tzs_687, tzs_688, tzs_689, tzy_15, tzy_35, tzy_36, tzy_37, tzy_38, tzy_39, tzy_40, tzc_60, tzc_320, tzc_5, tzc_4, tzc_8]
      refine ⟨by omega, fun q => n76, fun q => ?_⟩
      refine tc_i (D := 0) (fun d' hd' => o_sg D1) (by omega) ?_
      rintro c M9 ⟨⟨⟨b1, b2⟩, b3⟩, rfl⟩
      try simp only [kb_X12_readSum_5, w_ild_1, w_if_lt, w_ald_0, w_iv0, tfr_0, tfr_1, tfr_2, tfr_3, tfr_4, w_bi, w_ic_eq, w_ic_ne, w_nil, true_and, and_true, Nat.reduceAdd, Nat.reduceSub, eq_self, tshm_14, tshm_31, tshm_32, tykm_31, tykm_32, tci_15, tci_960, tykm_14, tci_14, tshm_667, tshm_668, tshm_669, tshm_670, tykm_33, tci_700, tsn_671, tyn_17, tcn_10, tzs_672, tzs_673, tzs_680, tzs_681, tzs_682, tzs_683, tzs_684, tzs_685, tzs_686, tzs_687, tzs_688, tzs_689, tzy_15, tzy_35, tzy_36, tzy_37, tzy_38, tzy_39, tzy_40, tzc_60, tzc_320, tzc_5, tzc_4, tzc_8]
      refine ⟨by omega, fun q2 => n27 (by omega) (by omega) (b3 (by omega)), fun q2 => ?_⟩
      refine tc_i (D := 0) (fun d' hd' => o_sg D1) (by omega) ?_
      rintro c2 M8 ⟨⟨⟨b4, b5⟩, b6⟩, rfl⟩
      try simp only [kb_X12_readSum_5, w_ild_1, w_if_lt, w_ald_0, w_iv0, tfr_0, tfr_1, tfr_2, tfr_3, tfr_4, w_bi, w_ic_eq, w_ic_ne, w_nil, true_and, and_true, Nat.reduceAdd, Nat.reduceSub, eq_self, tshm_14, tshm_31, tshm_32, tykm_31, tykm_32, tci_15, tci_960, tykm_14, tci_14, tshm_667, tshm_668, tshm_669, tshm_670, tykm_33, tci_700, tsn_671, tyn_17, tcn_10, tzs_672, tzs_673, tzs_680, tzs_681, tzs_682, tzs_683, tzs_684, tzs_685, tzs_686, tzs_687, tzs_688, tzs_689, tzy_15, tzy_35, tzy_36, tzy_37, tzy_38, tzy_39, tzy_40, tzc_60, tzc_320, tzc_5, tzc_4, tzc_8]
      exact ⟨by omega, fun q3 => n76, fun q3 => n27 (by omega) (by omega) (b6 (by omega))⟩
  refine tb_X12_readSum_0 (c := false) ?_
  simp only [kb_X12_readSum_0, w_ald_0, w_iv0, tfr_0, tfr_1, tfr_2, tfr_3, tfr_4, w_ist_1, tkl_n, tkl_i, tkl_l, tkl_r, w_nil, true_and, and_true, Nat.reduceAdd, Nat.reduceSub, eq_self, tshm_14, tshm_31, tshm_32, tykm_31, tykm_32, tci_15, tci_960, tykm_14, tci_14, tshm_667, tshm_668, tshm_669, tshm_670, tykm_33, tci_700, tsn_671, tyn_17, tcn_10, tzs_672, tzs_673, tzs_680, tzs_681, tzs_682, tzs_683, tzs_684, tzs_685, tzs_686, tzs_687, tzs_688, tzs_689, tzy_15, tzy_35, tzy_36, tzy_37, tzy_38, tzy_39, tzy_40, tzc_60, tzc_320, tzc_5, tzc_4, tzc_8]
  refine tc_i (D := 4 * fu + 8) (fun d' hd' => o_readProduct hA h hl hd') (by omega) ?_
  rintro z M1 w1
  have D1 := w1.1.1
  have l1 := D1.1.1
  have a1 := D1.2.1
  try simp only [kb_X12_readSum_0, w_ald_0, w_iv0, tfr_0, tfr_1, tfr_2, tfr_3, tfr_4, w_ist_1, tkl_n, tkl_i, tkl_l, tkl_r, w_nil, true_and, and_true, Nat.reduceAdd, Nat.reduceSub, eq_self, tshm_14, tshm_31, tshm_32, tykm_31, tykm_32, tci_15, tci_960, tykm_14, tci_14, tshm_667, tshm_668, tshm_669, tshm_670, tykm_33, tci_700, tsn_671, tyn_17, tcn_10, tzs_672, tzs_673, tzs_680, tzs_681, tzs_682, tzs_683, tzs_684, tzs_685, tzs_686, tzs_687, tzs_688, tzs_689, tzy_15, tzy_35, tzy_36, tzy_37, tzy_38, tzy_39, tzy_40, tzc_60, tzc_320, tzc_5, tzc_4, tzc_8]
  exact n5 61 M1 z _ _ w1 (by omega)
theorem o_readAtom : ∀ fu : Nat, RA e fu := by
  intro fu
  induction fu with
  | zero =>
    intro M d n h hl hd
    have a1 := h.2.1
    refine tst_X12_readAtom ?_
    refine tb_X12_readAtom_0 (c := false) ?_
    simp only [kb_X12_readAtom_0, w_ald_0, w_iv0, tfr_0, tfr_1, tfr_2, tfr_3, tfr_4, w_ist_1, tkl_n, tkl_i, tkl_l, tkl_r, w_ild_1, w_is1, w_if_eq, w_ire, trg, true_and, and_true, Nat.reduceAdd, Nat.reduceSub, eq_self, tshm_14, tshm_31, tshm_32, tykm_31, tykm_32, tci_15, tci_960, tykm_14, tci_14, tshm_667, tshm_668, tshm_669, tshm_670, tykm_33, tci_700, tsn_671, tyn_17, tcn_10, tzs_672, tzs_673, tzs_680, tzs_681, tzs_682, tzs_683, tzs_684, tzs_685, tzs_686, tzs_687, tzs_688, tzs_689, tzy_15, tzy_35, tzy_36, tzy_37, tzy_38, tzy_39, tzy_40, tzc_60, tzc_320, tzc_5, tzc_4, tzc_8]
    refine tc_i (D := 0) (fun d' hd' => o_sg h) (by omega) ?_
    rintro z M1 ⟨⟨⟨k1, k2⟩, k3⟩, rfl⟩
    have hz : z = 32 := by
      apply Classical.byContradiction
      intro q
      have := k3 q
      omega
    try simp only [kb_X12_readAtom_0, w_ald_0, w_iv0, tfr_0, tfr_1, tfr_2, tfr_3, tfr_4, w_ist_1, tkl_n, tkl_i, tkl_l, tkl_r, w_ild_1, w_is1, w_if_eq, w_ire, trg, true_and, and_true, Nat.reduceAdd, Nat.reduceSub, eq_self, tshm_14, tshm_31, tshm_32, tykm_31, tykm_32, tci_15, tci_960, tykm_14, tci_14, tshm_667, tshm_668, tshm_669, tshm_670, tykm_33, tci_700, tsn_671, tyn_17, tcn_10, tzs_672, tzs_673, tzs_680, tzs_681, tzs_682, tzs_683, tzs_684, tzs_685, tzs_686, tzs_687, tzs_688, tzs_689, tzy_15, tzy_35, tzy_36, tzy_37, tzy_38, tzy_39, tzy_40, tzc_60, tzc_320, tzc_5, tzc_4, tzc_8]
    refine tc_i (D := 0) (fun d' hd' => o_isDigit k2) (by omega) ?_
    rintro z4 M5 ⟨g4, rfl⟩
    try simp only [kb_X12_readAtom_0, w_ald_0, w_iv0, tfr_0, tfr_1, tfr_2, tfr_3, tfr_4, w_ist_1, tkl_n, tkl_i, tkl_l, tkl_r, w_ild_1, w_is1, w_if_eq, w_ire, trg, true_and, and_true, Nat.reduceAdd, Nat.reduceSub, eq_self, tshm_14, tshm_31, tshm_32, tykm_31, tykm_32, tci_15, tci_960, tykm_14, tci_14, tshm_667, tshm_668, tshm_669, tshm_670, tykm_33, tci_700, tsn_671, tyn_17, tcn_10, tzs_672, tzs_673, tzs_680, tzs_681, tzs_682, tzs_683, tzs_684, tzs_685, tzs_686, tzs_687, tzs_688, tzs_689, tzy_15, tzy_35, tzy_36, tzy_37, tzy_38, tzy_39, tzy_40, tzc_60, tzc_320, tzc_5, tzc_4, tzc_8]
    refine ⟨by omega, fun q => ?_, fun q => by exfalso; omega⟩
    refine tb_X12_readAtom_17 (c := false) ?_
    simp only [kb_X12_readAtom_17, w_ild_1, w_bi, w_ic_eq, w_ic_ne, w_nil, true_and, and_true, Nat.reduceAdd, Nat.reduceSub, eq_self]
    refine ⟨by omega, fun q => by exfalso; omega, fun q => ⟨by omega, fun q => by exfalso; omega, fun q => ⟨by omega, fun q => ?_, fun q => by exfalso; omega⟩⟩⟩
    refine tb_X12_readAtom_63 (c := false) ?_
    simp only [kb_X12_readAtom_63, w_ild_1, w_bi, w_ic_eq, w_ic_ne, w_nil, true_and, and_true, Nat.reduceAdd, Nat.reduceSub, eq_self]
    refine ⟨by omega, fun q => by exfalso; omega, fun q => ⟨by omega, fun q => by exfalso; omega, fun q => ⟨by omega, fun q => by exfalso; omega, fun q => ⟨by omega, fun q => by exfalso; omega, fun q => ⟨by omega, fun q => ?_, fun q => by exfalso; omega⟩⟩⟩⟩⟩
    refine tb_X12_readAtom_145 (c := false) ?_
    simp only [kb_X12_readAtom_145, w_ild_1, w_bi, w_ic_eq, w_ald_0, w_iv0, tfr_0, tfr_1, tfr_2, tfr_3, tfr_4, w_ire, trg, true_and, and_true, Nat.reduceAdd, Nat.reduceSub, eq_self, tshm_14, tshm_31, tshm_32, tykm_31, tykm_32, tci_15, tci_960, tykm_14, tci_14, tshm_667, tshm_668, tshm_669, tshm_670, tykm_33, tci_700, tsn_671, tyn_17, tcn_10, tzs_672, tzs_673, tzs_680, tzs_681, tzs_682, tzs_683, tzs_684, tzs_685, tzs_686, tzs_687, tzs_688, tzs_689, tzy_15, tzy_35, tzy_36, tzy_37, tzy_38, tzy_39, tzy_40, tzc_60, tzc_320, tzc_5, tzc_4, tzc_8]
    refine ⟨by omega, fun q => by exfalso; omega, fun q => ?_⟩
    refine tc_i (D := 0) (fun d' hd' => o_faults h) (by omega) ?_
    rintro z5 M5 ⟨rfl, w1⟩
    try simp only [kb_X12_readAtom_145, w_ild_1, w_bi, w_ic_eq, w_ald_0, w_iv0, tfr_0, tfr_1, tfr_2, tfr_3, tfr_4, w_ire, trg, true_and, and_true, Nat.reduceAdd, Nat.reduceSub, eq_self, tshm_14, tshm_31, tshm_32, tykm_31, tykm_32, tci_15, tci_960, tykm_14, tci_14, tshm_667, tshm_668, tshm_669, tshm_670, tykm_33, tci_700, tsn_671, tyn_17, tcn_10, tzs_672, tzs_673, tzs_680, tzs_681, tzs_682, tzs_683, tzs_684, tzs_685, tzs_686, tzs_687, tzs_688, tzs_689, tzy_15, tzy_35, tzy_36, tzy_37, tzy_38, tzy_39, tzy_40, tzc_60, tzc_320, tzc_5, tzc_4, tzc_8]
    exact ⟨-1, rfl, rfl, RQ_no w1 (by omega)⟩
  | succ fu ih =>
    intro M d n h hl hd
    have a1 := h.2.1
    have s1 := h.2.2.1
    have l1 := h.1.1
    refine tst_X12_readAtom ?_
    refine tb_X12_readAtom_0 (c := false) ?_
    simp only [kb_X12_readAtom_0, w_ald_0, w_iv0, tfr_0, tfr_1, tfr_2, tfr_3, tfr_4, w_ist_1, tkl_n, tkl_i, tkl_l, tkl_r, w_ild_1, w_is1, w_if_eq, w_ire, trg, true_and, and_true, Nat.reduceAdd, Nat.reduceSub, eq_self, tshm_14, tshm_31, tshm_32, tykm_31, tykm_32, tci_15, tci_960, tykm_14, tci_14, tshm_667, tshm_668, tshm_669, tshm_670, tykm_33, tci_700, tsn_671, tyn_17, tcn_10, tzs_672, tzs_673, tzs_680, tzs_681, tzs_682, tzs_683, tzs_684, tzs_685, tzs_686, tzs_687, tzs_688, tzs_689, tzy_15, tzy_35, tzy_36, tzy_37, tzy_38, tzy_39, tzy_40, tzc_60, tzc_320, tzc_5, tzc_4, tzc_8]
    refine tc_i (D := 0) (fun d' hd' => o_sg h) (by omega) ?_
    rintro z M9 ⟨⟨⟨k1, k2⟩, k3⟩, rfl⟩
    try simp only [kb_X12_readAtom_0, w_ald_0, w_iv0, tfr_0, tfr_1, tfr_2, tfr_3, tfr_4, w_ist_1, tkl_n, tkl_i, tkl_l, tkl_r, w_ild_1, w_is1, w_if_eq, w_ire, trg, true_and, and_true, Nat.reduceAdd, Nat.reduceSub, eq_self, tshm_14, tshm_31, tshm_32, tykm_31, tykm_32, tci_15, tci_960, tykm_14, tci_14, tshm_667, tshm_668, tshm_669, tshm_670, tykm_33, tci_700, tsn_671, tyn_17, tcn_10, tzs_672, tzs_673, tzs_680, tzs_681, tzs_682, tzs_683, tzs_684, tzs_685, tzs_686, tzs_687, tzs_688, tzs_689, tzy_15, tzy_35, tzy_36, tzy_37, tzy_38, tzy_39, tzy_40, tzc_60, tzc_320, tzc_5, tzc_4, tzc_8]
    refine tc_i (D := 0) (fun d' hd' => o_isDigit k2) (by omega) ?_
    rintro z4 M1 ⟨g4, rfl⟩
    try simp only [kb_X12_readAtom_0, w_ald_0, w_iv0, tfr_0, tfr_1, tfr_2, tfr_3, tfr_4, w_ist_1, tkl_n, tkl_i, tkl_l, tkl_r, w_ild_1, w_is1, w_if_eq, w_ire, trg, true_and, and_true, Nat.reduceAdd, Nat.reduceSub, eq_self, tshm_14, tshm_31, tshm_32, tykm_31, tykm_32, tci_15, tci_960, tykm_14, tci_14, tshm_667, tshm_668, tshm_669, tshm_670, tykm_33, tci_700, tsn_671, tyn_17, tcn_10, tzs_672, tzs_673, tzs_680, tzs_681, tzs_682, tzs_683, tzs_684, tzs_685, tzs_686, tzs_687, tzs_688, tzs_689, tzy_15, tzy_35, tzy_36, tzy_37, tzy_38, tzy_39, tzy_40, tzc_60, tzc_320, tzc_5, tzc_4, tzc_8]
    have ra : z ≠ 32 → RP 1 M1 (tU M1 664 34 (M1 664 34 + 1)) := fun q => RP_at h (k3 q)
    have hlen : tU M1 664 34 (M1 664 34 + 1) 664 17 = M1 664 17 := tU_ni (by decide)
    have hat : tU M1 664 34 (M1 664 34 + 1) 664 34 = M1 664 34 + 1 := tU_eq ..
    have e35 : tU M1 664 34 (M1 664 34 + 1) 664 35 = M1 664 35 := tU_ni (by decide)
    have n35 : (z = 120 ∨ z = 121 ∨ z = 112) → tT e d 3687 35 [some (.inr (.inr (.inl 664))), some (.inl (z)), none] [] M1 n (tQi n (fun z M' => RQ M1 M' z)) := by
      intro hz
      have ra := ra (by omega)
      have rb := RP_tr ra (RP_parts (v := M1 664 35 + 1) ra.1)
      refine tb_X12_readAtom_35 (c := false) ?_
      simp only [kb_X12_readAtom_35, w_ald_0, w_dupi, w_dupr, w_gf_14_34, tw_f, w_ic, w_iadd, w_pf_14_34, w_gf_14_35, w_pf_14_35, w_ild_1, w_iv3, tfr_0, tfr_1, tfr_2, tfr_3, tfr_4, w_ire, trg, true_and, and_true, Nat.reduceAdd, Nat.reduceSub, eq_self, tshm_14, tshm_31, tshm_32, tykm_31, tykm_32, tci_15, tci_960, tykm_14, tci_14, tshm_667, tshm_668, tshm_669, tshm_670, tykm_33, tci_700, tsn_671, tyn_17, tcn_10, tzs_672, tzs_673, tzs_680, tzs_681, tzs_682, tzs_683, tzs_684, tzs_685, tzs_686, tzs_687, tzs_688, tzs_689, tzy_15, tzy_35, tzy_36, tzy_37, tzy_38, tzy_39, tzy_40, tzc_60, tzc_320, tzc_5, tzc_4, tzc_8]
      rw [e35]
      generalize tU (tU M1 664 34 (M1 664 34 + 1)) 664 35 (M1 664 35 + 1) = M2 at rb ⊢
      have D2 := rb.1
      have s2 := D2.2.2.1
      have t1 := rb.2.2.1
      have t2 := rb.2.2.2
      refine tc_i (D := 0) (fun d' hd' => o_part D2 k2) (by omega) ?_
      rintro z6 M6 ⟨rfl, rfl⟩
      have rp := RP_part (M := M2) (k := z) (l := 0) (r := 0) D2 (by omega) (FN_part s2.1 (by omega))
      have pv := (PM_v (M := M2) (k := z) (l := 0) (r := 0)).1
      have x1 : PM M2 z 0 0 664 34 = M2 664 34 := PM_k (by decide) (by omega)
      try simp only [kb_X12_readAtom_35, w_ald_0, w_dupi, w_dupr, w_gf_14_34, tw_f, w_ic, w_iadd, w_pf_14_34, w_gf_14_35, w_pf_14_35, w_ild_1, w_iv3, tfr_0, tfr_1, tfr_2, tfr_3, tfr_4, w_ire, trg, true_and, and_true, Nat.reduceAdd, Nat.reduceSub, eq_self, tshm_14, tshm_31, tshm_32, tykm_31, tykm_32, tci_15, tci_960, tykm_14, tci_14, tshm_667, tshm_668, tshm_669, tshm_670, tykm_33, tci_700, tsn_671, tyn_17, tcn_10, tzs_672, tzs_673, tzs_680, tzs_681, tzs_682, tzs_683, tzs_684, tzs_685, tzs_686, tzs_687, tzs_688, tzs_689, tzy_15, tzy_35, tzy_36, tzy_37, tzy_38, tzy_39, tzy_40, tzc_60, tzc_320, tzc_5, tzc_4, tzc_8]
      exact ⟨_, rfl, rfl, RP_le (RP_tr rb rp) (by omega), Or.inr ⟨by omega, by omega⟩⟩
    have n93 : (z = 45 ∨ z = 114 ∨ z = 101 ∨ z = 108 ∨ z = 97) → tT e d 3687 93 [some (.inr (.inr (.inl 664))), some (.inl (z)), none] [] M1 n (tQi n (fun z M' => RQ M1 M' z)) := by
      intro hz
      have ra := ra (by omega)
      have rb := RP_tr ra (RP_parts (v := M1 664 35 + 1) ra.1)
      have lb := RP_len rb
      refine tb_X12_readAtom_93 (c := false) ?_
      simp only [kb_X12_readAtom_93, w_ald_0, w_dupi, w_dupr, w_gf_14_34, tw_f, w_ic, w_iadd, w_pf_14_34, w_gf_14_35, w_pf_14_35, w_iv0, tfr_0, tfr_1, tfr_2, tfr_3, tfr_4, w_ist_2, tkl_n, tkl_i, tkl_l, tkl_r, w_ild_2, w_if_ge, w_goto, true_and, and_true, Nat.reduceAdd, Nat.reduceSub, eq_self, tshm_14, tshm_31, tshm_32, tykm_31, tykm_32, tci_15, tci_960, tykm_14, tci_14, tshm_667, tshm_668, tshm_669, tshm_670, tykm_33, tci_700, tsn_671, tyn_17, tcn_10, tzs_672, tzs_673, tzs_680, tzs_681, tzs_682, tzs_683, tzs_684, tzs_685, tzs_686, tzs_687, tzs_688, tzs_689, tzy_15, tzy_35, tzy_36, tzy_37, tzy_38, tzy_39, tzy_40, tzc_60, tzc_320, tzc_5, tzc_4, tzc_8]
      rw [e35]
      generalize tU (tU M1 664 34 (M1 664 34 + 1)) 664 35 (M1 664 35 + 1) = M2 at rb lb ⊢
      have D2 := rb.1
      have s2 := D2.2.2.1
      have t1 := rb.2.2.1
      have t2 := rb.2.2.2
      refine tc_i (D := 4 * fu + 6) (fun d' hd' => ih D2 (by omega) hd') (by omega) ?_
      rintro z6 M6 ⟨w1, w2⟩
      have D6 := w1.1
      have s6 := D6.2.2.1
      have a6 := D6.2.1
      have l6 := D6.1.1
      have u1 := w1.2.2.1
      have u2 := w1.2.2.2
      have hzr : -1 ≤ z6 ∧ z6 ≤ 400 := by omega
      try simp only [kb_X12_readAtom_93, w_ald_0, w_dupi, w_dupr, w_gf_14_34, tw_f, w_ic, w_iadd, w_pf_14_34, w_gf_14_35, w_pf_14_35, w_iv0, tfr_0, tfr_1, tfr_2, tfr_3, tfr_4, w_ist_2, tkl_n, tkl_i, tkl_l, tkl_r, w_ild_2, w_if_ge, w_goto, true_and, and_true, Nat.reduceAdd, Nat.reduceSub, eq_self, tshm_14, tshm_31, tshm_32, tykm_31, tykm_32, tci_15, tci_960, tykm_14, tci_14, tshm_667, tshm_668, tshm_669, tshm_670, tykm_33, tci_700, tsn_671, tyn_17, tcn_10, tzs_672, tzs_673, tzs_680, tzs_681, tzs_682, tzs_683, tzs_684, tzs_685, tzs_686, tzs_687, tzs_688, tzs_689, tzy_15, tzy_35, tzy_36, tzy_37, tzy_38, tzy_39, tzy_40, tzc_60, tzc_320, tzc_5, tzc_4, tzc_8]
      refine ⟨by omega, fun q => ?_, fun q => ?_⟩
      · have n139 : ∀ c : Int, (c = 110 ∨ c = 114 ∨ c = 101 ∨ c = 108 ∨ c = 97) → tT e d 3687 139 [some (.inr (.inr (.inl 664))), some (.inl (z)), some (.inl (z6))] [.inl c, .inr (.inr (.inl 664))] M6 n (tQi n (fun z M' => RQ M1 M' z)) := by
          intro c hc
          refine tb_X12_readAtom_139 (c := false) ?_
          simp only [kb_X12_readAtom_139, w_ild_2, w_ic, w_iv3, tfr_0, tfr_1, tfr_2, tfr_3, tfr_4, w_nil, true_and, and_true, Nat.reduceAdd, Nat.reduceSub, eq_self, tshm_14, tshm_31, tshm_32, tykm_31, tykm_32, tci_15, tci_960, tykm_14, tci_14, tshm_667, tshm_668, tshm_669, tshm_670, tykm_33, tci_700, tsn_671, tyn_17, tcn_10, tzs_672, tzs_673, tzs_680, tzs_681, tzs_682, tzs_683, tzs_684, tzs_685, tzs_686, tzs_687, tzs_688, tzs_689, tzy_15, tzy_35, tzy_36, tzy_37, tzy_38, tzy_39, tzy_40, tzc_60, tzc_320, tzc_5, tzc_4, tzc_8]
          refine tc_i (D := 0) (fun d' hd' => o_part D6 (by omega)) (by omega) ?_
          rintro z7 M7 ⟨rfl, rfl⟩
          have rp := RP_part (M := M6) (k := c) (l := z6) (r := 0) D6 (by omega) (FN_part s6.1 (Or.inr (Or.inr (Or.inl ⟨hc, by omega⟩))))
          have pv := (PM_v (M := M6) (k := c) (l := z6) (r := 0)).1
          have x1 : PM M6 c z6 0 664 34 = M6 664 34 := PM_k (by decide) (by omega)
          try simp only [kb_X12_readAtom_139, w_ild_2, w_ic, w_iv3, tfr_0, tfr_1, tfr_2, tfr_3, tfr_4, w_nil, true_and, and_true, Nat.reduceAdd, Nat.reduceSub, eq_self, tshm_14, tshm_31, tshm_32, tykm_31, tykm_32, tci_15, tci_960, tykm_14, tci_14, tshm_667, tshm_668, tshm_669, tshm_670, tykm_33, tci_700, tsn_671, tyn_17, tcn_10, tzs_672, tzs_673, tzs_680, tzs_681, tzs_682, tzs_683, tzs_684, tzs_685, tzs_686, tzs_687, tzs_688, tzs_689, tzy_15, tzy_35, tzy_36, tzy_37, tzy_38, tzy_39, tzy_40, tzc_60, tzc_320, tzc_5, tzc_4, tzc_8]
          refine tb_X12_readAtom_144 (c := false) ?_
          simp only [kb_X12_readAtom_144, w_ire, trg, true_and, and_true, Nat.reduceAdd, Nat.reduceSub, eq_self]
          exact ⟨_, rfl, rfl, RP_le (RP_tr rb (RP_tr w1 rp)) (by omega), Or.inr ⟨by omega, by omega⟩⟩
        refine tb_X12_readAtom_126 (c := false) ?_
        simp only [kb_X12_readAtom_126, w_ald_0, w_ild_1, w_bi, w_ic_ne, w_goto, true_and, and_true, Nat.reduceAdd, Nat.reduceSub, eq_self]
        refine ⟨by omega, fun q2 => ?_, fun q2 => n139 110 (by omega)⟩
        refine tb_X12_readAtom_138 (c := false) ?_
        simp only [kb_X12_readAtom_138, w_ild_1, w_nil, true_and, and_true, Nat.reduceAdd, Nat.reduceSub, eq_self]
        exact n139 z (by omega)
      · refine tb_X12_readAtom_144 (c := false) ?_
        simp only [kb_X12_readAtom_144, w_ire, trg, true_and, and_true, Nat.reduceAdd, Nat.reduceSub, eq_self]
        exact ⟨-1, rfl, rfl, RQ_no (RP_tr rb w1) (by omega)⟩
    refine ⟨by omega, fun q => ?_, fun q => ?_⟩
    · refine tb_X12_readAtom_17 (c := false) ?_
      simp only [kb_X12_readAtom_17, w_ild_1, w_bi, w_ic_eq, w_ic_ne, w_nil, true_and, and_true, Nat.reduceAdd, Nat.reduceSub, eq_self]
      have n63 : ¬ z = 120 → ¬ z = 121 → z ≠ 112 → tT e d 3687 63 [some (.inr (.inr (.inl 664))), some (.inl (z)), none] [] M1 n (tQi n (fun z M' => RQ M1 M' z)) := by
        intro _ _ _
        have n145 : tT e d 3687 145 [some (.inr (.inr (.inl 664))), some (.inl (z)), none] [] M1 n (tQi n (fun z M' => RQ M1 M' z)) := by
          refine tb_X12_readAtom_145 (c := false) ?_
          simp only [kb_X12_readAtom_145, w_ild_1, w_bi, w_ic_eq, w_ald_0, w_iv0, tfr_0, tfr_1, tfr_2, tfr_3, tfr_4, w_ire, trg, true_and, and_true, Nat.reduceAdd, Nat.reduceSub, eq_self, tshm_14, tshm_31, tshm_32, tykm_31, tykm_32, tci_15, tci_960, tykm_14, tci_14, tshm_667, tshm_668, tshm_669, tshm_670, tykm_33, tci_700, tsn_671, tyn_17, tcn_10, tzs_672, tzs_673, tzs_680, tzs_681, tzs_682, tzs_683, tzs_684, tzs_685, tzs_686, tzs_687, tzs_688, tzs_689, tzy_15, tzy_35, tzy_36, tzy_37, tzy_38, tzy_39, tzy_40, tzc_60, tzc_320, tzc_5, tzc_4, tzc_8]
          refine ⟨by omega, fun q => ?_, fun q => ?_⟩
          · have ra := ra (by omega)
            refine tb_X12_readAtom_156 (c := false) ?_
            simp only [kb_X12_readAtom_156, w_ald_0, w_dupi, w_dupr, w_gf_14_34, tw_f, w_ic, w_iadd, w_pf_14_34, w_iv0, tfr_0, tfr_1, tfr_2, tfr_3, tfr_4, w_ist_2, tkl_n, tkl_i, tkl_l, tkl_r, w_ild_2, w_if_ge, w_ire, trg, true_and, and_true, Nat.reduceAdd, Nat.reduceSub, eq_self, tshm_14, tshm_31, tshm_32, tykm_31, tykm_32, tci_15, tci_960, tykm_14, tci_14, tshm_667, tshm_668, tshm_669, tshm_670, tykm_33, tci_700, tsn_671, tyn_17, tcn_10, tzs_672, tzs_673, tzs_680, tzs_681, tzs_682, tzs_683, tzs_684, tzs_685, tzs_686, tzs_687, tzs_688, tzs_689, tzy_15, tzy_35, tzy_36, tzy_37, tzy_38, tzy_39, tzy_40, tzc_60, tzc_320, tzc_5, tzc_4, tzc_8]
            generalize tU M1 664 34 (M1 664 34 + 1) = M2 at ra hlen hat ⊢
            have D2 := ra.1
            refine tc_i (D := 4 * fu + 9) (fun d' hd' => o_readSum ih D2 (by omega) hd') (by omega) ?_
            rintro z6 M6 ⟨w1, w2⟩
            have D6 := w1.1
            have s6 := D6.2.2.1
            have a6 := D6.2.1
            have l6 := D6.1.1
            have u1 := w1.2.2.1
            have u2 := w1.2.2.2
            have tot := RP_tr ra w1
            have hzr : -1 ≤ z6 ∧ z6 ≤ 400 := by omega
            try simp only [kb_X12_readAtom_156, w_ald_0, w_dupi, w_dupr, w_gf_14_34, tw_f, w_ic, w_iadd, w_pf_14_34, w_iv0, tfr_0, tfr_1, tfr_2, tfr_3, tfr_4, w_ist_2, tkl_n, tkl_i, tkl_l, tkl_r, w_ild_2, w_if_ge, w_ire, trg, true_and, and_true, Nat.reduceAdd, Nat.reduceSub, eq_self, tshm_14, tshm_31, tshm_32, tykm_31, tykm_32, tci_15, tci_960, tykm_14, tci_14, tshm_667, tshm_668, tshm_669, tshm_670, tykm_33, tci_700, tsn_671, tyn_17, tcn_10, tzs_672, tzs_673, tzs_680, tzs_681, tzs_682, tzs_683, tzs_684, tzs_685, tzs_686, tzs_687, tzs_688, tzs_689, tzy_15, tzy_35, tzy_36, tzy_37, tzy_38, tzy_39, tzy_40, tzc_60, tzc_320, tzc_5, tzc_4, tzc_8]
            refine ⟨by omega, fun q2 => ?_, fun q2 => ⟨-1, rfl, rfl, RQ_no tot (by omega)⟩⟩
            refine tb_X12_readAtom_177 (c := false) ?_
            simp only [kb_X12_readAtom_177, w_ald_0, w_iv0, tfr_0, tfr_1, tfr_2, tfr_3, tfr_4, w_bi, w_ic_eq, w_ire, trg, true_and, and_true, Nat.reduceAdd, Nat.reduceSub, eq_self, tshm_14, tshm_31, tshm_32, tykm_31, tykm_32, tci_15, tci_960, tykm_14, tci_14, tshm_667, tshm_668, tshm_669, tshm_670, tykm_33, tci_700, tsn_671, tyn_17, tcn_10, tzs_672, tzs_673, tzs_680, tzs_681, tzs_682, tzs_683, tzs_684, tzs_685, tzs_686, tzs_687, tzs_688, tzs_689, tzy_15, tzy_35, tzy_36, tzy_37, tzy_38, tzy_39, tzy_40, tzc_60, tzc_320, tzc_5, tzc_4, tzc_8]
            refine tc_i (D := 0) (fun d' hd' => o_sg D6) (by omega) ?_
            rintro z7 M7 ⟨⟨⟨b1, b2⟩, b3⟩, rfl⟩
            try simp only [kb_X12_readAtom_177, w_ald_0, w_iv0, tfr_0, tfr_1, tfr_2, tfr_3, tfr_4, w_bi, w_ic_eq, w_ire, trg, true_and, and_true, Nat.reduceAdd, Nat.reduceSub, eq_self, tshm_14, tshm_31, tshm_32, tykm_31, tykm_32, tci_15, tci_960, tykm_14, tci_14, tshm_667, tshm_668, tshm_669, tshm_670, tykm_33, tci_700, tsn_671, tyn_17, tcn_10, tzs_672, tzs_673, tzs_680, tzs_681, tzs_682, tzs_683, tzs_684, tzs_685, tzs_686, tzs_687, tzs_688, tzs_689, tzy_15, tzy_35, tzy_36, tzy_37, tzy_38, tzy_39, tzy_40, tzc_60, tzc_320, tzc_5, tzc_4, tzc_8]
            refine ⟨by omega, fun q3 => ?_, fun q3 => ?_⟩
            · have rc := RP_at D6 (b3 (by omega))
              refine tb_X12_readAtom_191 (c := false) ?_
              simp only [kb_X12_readAtom_191, w_ald_0, w_dupi, w_dupr, w_gf_14_34, tw_f, w_ic, w_iadd, w_pf_14_34, w_ild_2, w_ire, trg, true_and, and_true, Nat.reduceAdd, Nat.reduceSub, eq_self, tshm_14, tshm_31, tshm_32, tykm_31, tykm_32, tci_15, tci_960, tykm_14, tci_14, tshm_667, tshm_668, tshm_669, tshm_670, tykm_33, tci_700, tsn_671, tyn_17, tcn_10, tzs_672, tzs_673, tzs_680, tzs_681, tzs_682, tzs_683, tzs_684, tzs_685, tzs_686, tzs_687, tzs_688, tzs_689, tzy_15, tzy_35, tzy_36, tzy_37, tzy_38, tzy_39, tzy_40, tzc_60, tzc_320, tzc_5, tzc_4, tzc_8]
              refine ⟨z6, rfl, rfl, RP_le (RP_tr tot rc) (by omega), Or.inr ⟨?_, ?_⟩⟩
              · rw [tU_nk (by decide)]; omega
              · rw [tU_eq]; omega
            · refine tc_i (D := 0) (fun d' hd' => o_faults D6) (by omega) ?_
              rintro z8 M8 ⟨rfl, w5⟩
              try simp only [kb_X12_readAtom_177, w_ald_0, w_iv0, tfr_0, tfr_1, tfr_2, tfr_3, tfr_4, w_bi, w_ic_eq, w_ire, trg, true_and, and_true, Nat.reduceAdd, Nat.reduceSub, eq_self, tshm_14, tshm_31, tshm_32, tykm_31, tykm_32, tci_15, tci_960, tykm_14, tci_14, tshm_667, tshm_668, tshm_669, tshm_670, tykm_33, tci_700, tsn_671, tyn_17, tcn_10, tzs_672, tzs_673, tzs_680, tzs_681, tzs_682, tzs_683, tzs_684, tzs_685, tzs_686, tzs_687, tzs_688, tzs_689, tzy_15, tzy_35, tzy_36, tzy_37, tzy_38, tzy_39, tzy_40, tzc_60, tzc_320, tzc_5, tzc_4, tzc_8]
              exact ⟨-1, rfl, rfl, RQ_no (RP_tr tot w5) (by omega)⟩
          · refine tc_i (D := 0) (fun d' hd' => o_faults h) (by omega) ?_
            rintro z5 M5 ⟨rfl, w1⟩
            try simp only [kb_X12_readAtom_145, w_ild_1, w_bi, w_ic_eq, w_ald_0, w_iv0, tfr_0, tfr_1, tfr_2, tfr_3, tfr_4, w_ire, trg, true_and, and_true, Nat.reduceAdd, Nat.reduceSub, eq_self, tshm_14, tshm_31, tshm_32, tykm_31, tykm_32, tci_15, tci_960, tykm_14, tci_14, tshm_667, tshm_668, tshm_669, tshm_670, tykm_33, tci_700, tsn_671, tyn_17, tcn_10, tzs_672, tzs_673, tzs_680, tzs_681, tzs_682, tzs_683, tzs_684, tzs_685, tzs_686, tzs_687, tzs_688, tzs_689, tzy_15, tzy_35, tzy_36, tzy_37, tzy_38, tzy_39, tzy_40, tzc_60, tzc_320, tzc_5, tzc_4, tzc_8]
            exact ⟨-1, rfl, rfl, RQ_no w1 (by omega)⟩
        refine tb_X12_readAtom_63 (c := false) ?_
        simp only [kb_X12_readAtom_63, w_ild_1, w_bi, w_ic_eq, w_ic_ne, w_nil, true_and, and_true, Nat.reduceAdd, Nat.reduceSub, eq_self]
        exact ⟨by omega, fun q => n93 (by omega), fun q => ⟨by omega, fun q => n93 (by omega), fun q => ⟨by omega, fun q => n93 (by omega), fun q => ⟨by omega, fun q => n93 (by omega), fun q => ⟨by omega, fun q => n145, fun q => n93 (by omega)⟩⟩⟩⟩⟩
      exact ⟨by omega, fun q => n35 (by omega), fun q1 => ⟨by omega, fun q => n35 (by omega), fun q2 => ⟨by omega, fun q3 => n63 q1 q2 q3, fun q => n35 (by omega)⟩⟩⟩
    · refine tc_i (D := 2) (fun d' hd' => o_readNumber h (by omega) hd') (by omega) ?_
      rintro z6 M6 w1
      try simp only [kb_X12_readAtom_0, w_ald_0, w_iv0, tfr_0, tfr_1, tfr_2, tfr_3, tfr_4, w_ist_1, tkl_n, tkl_i, tkl_l, tkl_r, w_ild_1, w_is1, w_if_eq, w_ire, trg, true_and, and_true, Nat.reduceAdd, Nat.reduceSub, eq_self, tshm_14, tshm_31, tshm_32, tykm_31, tykm_32, tci_15, tci_960, tykm_14, tci_14, tshm_667, tshm_668, tshm_669, tshm_670, tykm_33, tci_700, tsn_671, tyn_17, tcn_10, tzs_672, tzs_673, tzs_680, tzs_681, tzs_682, tzs_683, tzs_684, tzs_685, tzs_686, tzs_687, tzs_688, tzs_689, tzy_15, tzy_35, tzy_36, tzy_37, tzy_38, tzy_39, tzy_40, tzc_60, tzc_320, tzc_5, tzc_4, tzc_8]
      exact ⟨z6, rfl, rfl, w1⟩
end MODEL
