/-! THE MODEL: narrow, decide, solve. -/

section MODEL
variable {e : tE} {d n D : Nat} {M : tM}
theorem o_narrow {x1 x2 x3 : Int} (hP : MF M D) (h1 : (-2147483648 ≤ x1 ∧ x1 < 2147483648)) (h2 : (-2147483648 ≤ x2 ∧ x2 < 2147483648)) (h3 : (-2147483648 ≤ x3 ∧ x3 < 2147483648)) (hd : 73 ≤ d) : tC e d 3660 [.inr (.inr (.inl 664)), .inl x1, .inl x2, .inl x3] M n (tQi n (fun _ M' => MF M' D ∧ MC M M')) := by
  refine tst_X12_narrow ?_
  have n64 : ∀ M1 : tM, MF M1 D → MC M M1 → (0 ≤ x1 ∧ x1 ≤ 9) → (0 ≤ x2 ∧ x2 ≤ 3) → (0 ≤ x3 ∧ x3 ≤ 9) → M1 687 x2 ≠ 0 → tT e d 3660 64 [some (.inr (.inr (.inl 664))), some (.inl (x1)), some (.inl (x2)), some (.inl (x3)), none, none, none, none] [] M1 n (tQi n (fun _ M' => MF M' D ∧ MC M M')) := by
    intro M1 q1 q2 g1 g2 g3 hu
    have ps : ∀ M2 : tM, vE (fun r => 60 ≤ r) M1 M2 → M2 664 11 = 64 → MB M2 D 64 ∧ FI M2 ∧ M2 687 x2 ≠ 0 ∧ OB M2 x3 := fun M2 k1 k2 => ⟨MB_v q1.1.1 k1 k2 (by omega), FI_v q1.2.2.1 k1, by rw [vE_k k1 687 x2 (by omega)]; exact hu, OB_v (q1.1.2.2 x3 (by omega) (by omega)) k1 (by omega)⟩
    have n175 : ∀ (M2 : tM) (z : Int), (z = 0 ∨ z = 1 ∨ z = 2) → vE (fun r => 60 ≤ r) M1 M2 → (z = 0 → OB M2 60) → tT e d 3660 175 [some (.inr (.inr (.inl 664))), some (.inl (x1)), some (.inl (x2)), some (.inl (x3)), some (.inl (61)), some (.inl (62)), some (.inl (63)), some (.inl (z))] [] M2 n (tQi n (fun _ M' => MF M' D ∧ MC M M')) := by
      intro M2 z hz k1 k2
      have m := MF_w q1 (vE_tr k1 (vE_free (v := 60))) (tU_eq ..) (fun _ q => q)
      refine tb_X12_narrow_175 (c := false) ?_
      simp only [kb_X12_narrow_175, w_ald_0, w_bi, w_pf_14_11, w_ild_1, w_ild7, w_ic, w_iv4, tfr_0, tfr_1, tfr_2, tfr_3, tfr_4, w_ire, trg, true_and, and_true, Nat.reduceAdd, Nat.reduceSub, eq_self, tshm_14, tshm_31, tshm_32, tykm_31, tykm_32, tci_15, tci_960, tykm_14, tci_14, tshm_667, tshm_668, tshm_669, tshm_670, tykm_33, tci_700, tsn_671, tyn_17, tcn_10, tzs_672, tzs_673, tzs_680, tzs_681, tzs_682, tzs_683, tzs_684, tzs_685, tzs_686, tzs_687, tzs_688, tzs_689, tzy_15, tzy_35, tzy_36, tzy_37, tzy_38, tzy_39, tzy_40, tzc_60, tzc_320, tzc_5, tzc_4, tzc_8]
      refine tc_i (D := 3) (fun d' hd' => o_makes_f m.1 g1 hz (fun q => OB_v (k2 q) (vE_free (T := fun _ => False)) id) (by omega) (by omega) hd') (by omega) ?_
      rintro z2 M4 ⟨r1, r2, r3⟩
      try simp only [kb_X12_narrow_175, w_ald_0, w_bi, w_pf_14_11, w_ild_1, w_ild7, w_ic, w_iv4, tfr_0, tfr_1, tfr_2, tfr_3, tfr_4, w_ire, trg, true_and, and_true, Nat.reduceAdd, Nat.reduceSub, eq_self, tshm_14, tshm_31, tshm_32, tykm_31, tykm_32, tci_15, tci_960, tykm_14, tci_14, tshm_667, tshm_668, tshm_669, tshm_670, tykm_33, tci_700, tsn_671, tyn_17, tcn_10, tzs_672, tzs_673, tzs_680, tzs_681, tzs_682, tzs_683, tzs_684, tzs_685, tzs_686, tzs_687, tzs_688, tzs_689, tzy_15, tzy_35, tzy_36, tzy_37, tzy_38, tzy_39, tzy_40, tzc_60, tzc_320, tzc_5, tzc_4, tzc_8]
      exact ⟨by omega, z2, rfl, rfl, r2, MC_tr q2 (MC_tr m.2 r3)⟩
    have n154 : ∀ (M2 : tM) (z : Int), (z = 0 ∨ z = 1 ∨ z = 2) → vE (fun r => 60 ≤ r) M1 M2 → M2 664 11 = 64 → (z = 0 → OB M2 60) → tT e d 3660 154 [some (.inr (.inr (.inl 664))), some (.inl (x1)), some (.inl (x2)), some (.inl (x3)), some (.inl (61)), some (.inl (62)), some (.inl (63)), some (.inl (z))] [] M2 n (tQi n (fun _ M' => MF M' D ∧ MC M M')) := by
      intro M2 z hz k1 k2 k3
      have hzr := z3_r hz
      obtain ⟨i1, i2, i3, i4⟩ := ps M2 k1 k2
      refine tb_X12_narrow_154 (c := false) ?_
      simp only [kb_X12_narrow_154, w_ild7, w_if_ne, w_ald_0, w_bi, w_ild_3, w_ic, w_iv4, tfr_0, tfr_1, tfr_2, tfr_3, tfr_4, w_ist7, tkl_n, tkl_i, tkl_l, tkl_r, w_nil, true_and, and_true, Nat.reduceAdd, Nat.reduceSub, eq_self, tshm_14, tshm_31, tshm_32, tykm_31, tykm_32, tci_15, tci_960, tykm_14, tci_14, tshm_667, tshm_668, tshm_669, tshm_670, tykm_33, tci_700, tsn_671, tyn_17, tcn_10, tzs_672, tzs_673, tzs_680, tzs_681, tzs_682, tzs_683, tzs_684, tzs_685, tzs_686, tzs_687, tzs_688, tzs_689, tzy_15, tzy_35, tzy_36, tzy_37, tzy_38, tzy_39, tzy_40, tzc_60, tzc_320, tzc_5, tzc_4, tzc_8]
      refine ⟨by omega, fun q => n175 M2 z hz k1 k3, fun q => ?_⟩
      have hz0 : z = 0 := by omega
      refine tc_i (D := 2) (fun d' hd' => o_joinsg i1.2.2.2.2.1 (by omega) (by omega) (by omega) (k3 hz0) i4 (Or.inr rfl) hd') (by omega) ?_
      rintro w M3 ⟨r1, r2, r3⟩
      have v3 : vE (fun r => 60 ≤ r) M1 M3 := vE_tr k1 (vE_y (yE_mono r3.1 (fun r q => by omega)))
      try simp only [kb_X12_narrow_154, w_ild7, w_if_ne, w_ald_0, w_bi, w_ild_3, w_ic, w_iv4, tfr_0, tfr_1, tfr_2, tfr_3, tfr_4, w_ist7, tkl_n, tkl_i, tkl_l, tkl_r, w_nil, true_and, and_true, Nat.reduceAdd, Nat.reduceSub, eq_self, tshm_14, tshm_31, tshm_32, tykm_31, tykm_32, tci_15, tci_960, tykm_14, tci_14, tshm_667, tshm_668, tshm_669, tshm_670, tykm_33, tci_700, tsn_671, tyn_17, tcn_10, tzs_672, tzs_673, tzs_680, tzs_681, tzs_682, tzs_683, tzs_684, tzs_685, tzs_686, tzs_687, tzs_688, tzs_689, tzy_15, tzy_35, tzy_36, tzy_37, tzy_38, tzy_39, tzy_40, tzc_60, tzc_320, tzc_5, tzc_4, tzc_8]
      exact ⟨by omega, fun q => n175 M3 z hz v3 (fun _ => r2 (Or.inl (by omega))), fun q => n175 M3 2 (Or.inr (Or.inr rfl)) v3 (fun q => absurd q (by decide))⟩
    have mv : ∀ (M2 M3 : tM) (y : Int), vE (fun r => 60 ≤ r) M1 M2 → 60 ≤ y → xE (toF y 64) M2 M3 → vE (fun r => 60 ≤ r) M1 M3 := fun M2 M3 y k1 k2 k3 => vE_tr k1 (vE_y (yE_mono k3.1 (fun r q => by rcases q with q | q <;> omega)))
    have mw : ∀ (M2 M3 : tM) (y : Int), vE (fun r => 60 ≤ r) M1 M2 → 60 ≤ y → zE (toF y 64) M2 M3 → vE (fun r => 60 ≤ r) M1 M3 := fun M2 M3 y k1 k2 k3 => vE_tr k1 (vE_mono k3.1 (fun r q => by rcases q with q | q <;> omega))
    have n137 : ∀ (M2 : tM) (z : Int), (z = 0 ∨ z = 1 ∨ z = 2) → vE (fun r => 60 ≤ r) M1 M2 → M2 664 11 = 64 → (z = 0 → OB M2 61 ∧ OB M2 62) → tT e d 3660 137 [some (.inr (.inr (.inl 664))), some (.inl (x1)), some (.inl (x2)), some (.inl (x3)), some (.inl (61)), some (.inl (62)), some (.inl (63)), some (.inl (z))] [] M2 n (tQi n (fun _ M' => MF M' D ∧ MC M M')) := by
      intro M2 z hz k1 k2 k3
      have hzr := z3_r hz
      obtain ⟨i1, i2, i3, i4⟩ := ps M2 k1 k2
      refine tb_X12_narrow_137 (c := false) ?_
      simp only [kb_X12_narrow_137, w_ild7, w_if_ne, w_ald_0, w_bi, w_ild4, w_ild5, w_iv3, tfr_0, tfr_1, tfr_2, tfr_3, tfr_4, w_ist7, tkl_n, tkl_i, tkl_l, tkl_r, w_nil, true_and, and_true, Nat.reduceAdd, Nat.reduceSub, eq_self, tshm_14, tshm_31, tshm_32, tykm_31, tykm_32, tci_15, tci_960, tykm_14, tci_14, tshm_667, tshm_668, tshm_669, tshm_670, tykm_33, tci_700, tsn_671, tyn_17, tcn_10, tzs_672, tzs_673, tzs_680, tzs_681, tzs_682, tzs_683, tzs_684, tzs_685, tzs_686, tzs_687, tzs_688, tzs_689, tzy_15, tzy_35, tzy_36, tzy_37, tzy_38, tzy_39, tzy_40, tzc_60, tzc_320, tzc_5, tzc_4, tzc_8]
      refine ⟨by omega, fun q => n154 M2 z hz k1 k2 (fun g => absurd g q), fun q => ?_⟩
      have k3 := k3 (by omega)
      refine tc_i (D := 4) (fun d' hd' => o_difference i1 (by omega) (by omega) (by omega) k3.1 k3.2 hd') (by omega) ?_
      rintro w M3 ⟨r1, r2⟩
      try simp only [kb_X12_narrow_137, w_ild7, w_if_ne, w_ald_0, w_bi, w_ild4, w_ild5, w_iv3, tfr_0, tfr_1, tfr_2, tfr_3, tfr_4, w_ist7, tkl_n, tkl_i, tkl_l, tkl_r, w_nil, true_and, and_true, Nat.reduceAdd, Nat.reduceSub, eq_self, tshm_14, tshm_31, tshm_32, tykm_31, tykm_32, tci_15, tci_960, tykm_14, tci_14, tshm_667, tshm_668, tshm_669, tshm_670, tykm_33, tci_700, tsn_671, tyn_17, tcn_10, tzs_672, tzs_673, tzs_680, tzs_681, tzs_682, tzs_683, tzs_684, tzs_685, tzs_686, tzs_687, tzs_688, tzs_689, tzy_15, tzy_35, tzy_36, tzy_37, tzy_38, tzy_39, tzy_40, tzc_60, tzc_320, tzc_5, tzc_4, tzc_8]
      exact n154 M3 w r1.1 (mv M2 M3 60 k1 (by omega) r2) (r2.2.trans k2) r1.2
    have n120 : ∀ (M2 : tM) (z : Int), (z = 0 ∨ z = 1 ∨ z = 2) → vE (fun r => 60 ≤ r) M1 M2 → M2 664 11 = 64 → (z = 0 → OB M2 61 ∧ OB M2 62 ∧ OB M2 63) → tT e d 3660 120 [some (.inr (.inr (.inl 664))), some (.inl (x1)), some (.inl (x2)), some (.inl (x3)), some (.inl (61)), some (.inl (62)), some (.inl (63)), some (.inl (z))] [] M2 n (tQi n (fun _ M' => MF M' D ∧ MC M M')) := by
      intro M2 z hz k1 k2 k3
      have hzr := z3_r hz
      obtain ⟨i1, i2, i3, i4⟩ := ps M2 k1 k2
      refine tb_X12_narrow_120 (c := false) ?_
      simp only [kb_X12_narrow_120, w_ild7, w_if_ne, w_ald_0, w_ild5, w_ild6, w_iv3, tfr_0, tfr_1, tfr_2, tfr_3, tfr_4, w_ist7, tkl_n, tkl_i, tkl_l, tkl_r, w_nil, true_and, and_true, Nat.reduceAdd, Nat.reduceSub, eq_self, tshm_14, tshm_31, tshm_32, tykm_31, tykm_32, tci_15, tci_960, tykm_14, tci_14, tshm_667, tshm_668, tshm_669, tshm_670, tykm_33, tci_700, tsn_671, tyn_17, tcn_10, tzs_672, tzs_673, tzs_680, tzs_681, tzs_682, tzs_683, tzs_684, tzs_685, tzs_686, tzs_687, tzs_688, tzs_689, tzy_15, tzy_35, tzy_36, tzy_37, tzy_38, tzy_39, tzy_40, tzc_60, tzc_320, tzc_5, tzc_4, tzc_8]
      refine ⟨by omega, fun q => n137 M2 z hz k1 k2 (fun g => absurd g q), fun q => ?_⟩
      have k3 := k3 (by omega)
      refine tc_i (D := 6) (fun d' hd' => o_quotient i1 (by omega) (by omega) (by omega) k3.2.2 hd') (by omega) ?_
      rintro w M3 ⟨r1, r2⟩
      try simp only [kb_X12_narrow_120, w_ild7, w_if_ne, w_ald_0, w_ild5, w_ild6, w_iv3, tfr_0, tfr_1, tfr_2, tfr_3, tfr_4, w_ist7, tkl_n, tkl_i, tkl_l, tkl_r, w_nil, true_and, and_true, Nat.reduceAdd, Nat.reduceSub, eq_self, tshm_14, tshm_31, tshm_32, tykm_31, tykm_32, tci_15, tci_960, tykm_14, tci_14, tshm_667, tshm_668, tshm_669, tshm_670, tykm_33, tci_700, tsn_671, tyn_17, tcn_10, tzs_672, tzs_673, tzs_680, tzs_681, tzs_682, tzs_683, tzs_684, tzs_685, tzs_686, tzs_687, tzs_688, tzs_689, tzy_15, tzy_35, tzy_36, tzy_37, tzy_38, tzy_39, tzy_40, tzc_60, tzc_320, tzc_5, tzc_4, tzc_8]
      exact n137 M3 w r1.1 (mv M2 M3 62 k1 (by omega) r2) (r2.2.trans k2) (fun q => ⟨OB_x r2 k3.1 (by omega) (by omega), r1.2 q⟩)
    have v0 : vE (fun r => 60 ≤ r) M1 (tU M1 664 11 64) := vE_free
    have f0 : tU M1 664 11 64 664 11 = 64 := tU_eq ..
    refine tb_X12_narrow_64 (c := false) ?_
    simp only [kb_X12_narrow_64, w_bi, w_ist4, tkl_n, tkl_i, tkl_l, tkl_r, w_ist5, w_ist6, w_ald_0, w_pf_14_11, w_ild4, w_ild_3, w_iv2, tfr_0, tfr_1, tfr_2, tfr_3, tfr_4, w_ild5, w_ild_2, w_ic, w_iv5, w_ist7, w_ild7, w_if_ne, w_ild6, w_nil, true_and, and_true, Nat.reduceAdd, Nat.reduceSub, eq_self, tshm_14, tshm_31, tshm_32, tykm_31, tykm_32, tci_15, tci_960, tykm_14, tci_14, tshm_667, tshm_668, tshm_669, tshm_670, tykm_33, tci_700, tsn_671, tyn_17, tcn_10, tzs_672, tzs_673, tzs_680, tzs_681, tzs_682, tzs_683, tzs_684, tzs_685, tzs_686, tzs_687, tzs_688, tzs_689, tzy_15, tzy_35, tzy_36, tzy_37, tzy_38, tzy_39, tzy_40, tzc_60, tzc_320, tzc_5, tzc_4, tzc_8]
    generalize tU M1 664 11 64 = M2 at v0 f0 ⊢
    obtain ⟨i1, i2, i3, i4⟩ := ps M2 v0 f0
    refine tc_n (D := 2) (fun d' hd' => o_middle i1 (by omega) (by omega) i4 hd') (by omega) ?_
    rintro M3 ⟨r1, ⟨r2, r3⟩, r4⟩
    have v3 : vE (fun r => 60 ≤ r) M1 M3 := vE_tr v0 (vE_y (yE_mono r1.1 (fun r q => by omega)))
    have f3 := r1.2.trans f0
    have o3 : OB M3 61 := by
      unfold OB at i4 ⊢
      omega
    obtain ⟨j1, j2, j3, j4⟩ := ps M3 v3 f3
    try simp only [kb_X12_narrow_64, w_bi, w_ist4, tkl_n, tkl_i, tkl_l, tkl_r, w_ist5, w_ist6, w_ald_0, w_pf_14_11, w_ild4, w_ild_3, w_iv2, tfr_0, tfr_1, tfr_2, tfr_3, tfr_4, w_ild5, w_ild_2, w_ic, w_iv5, w_ist7, w_ild7, w_if_ne, w_ild6, w_nil, true_and, and_true, Nat.reduceAdd, Nat.reduceSub, eq_self, tshm_14, tshm_31, tshm_32, tykm_31, tykm_32, tci_15, tci_960, tykm_14, tci_14, tshm_667, tshm_668, tshm_669, tshm_670, tykm_33, tci_700, tsn_671, tyn_17, tcn_10, tzs_672, tzs_673, tzs_680, tzs_681, tzs_682, tzs_683, tzs_684, tzs_685, tzs_686, tzs_687, tzs_688, tzs_689, tzy_15, tzy_35, tzy_36, tzy_37, tzy_38, tzy_39, tzy_40, tzc_60, tzc_320, tzc_5, tzc_4, tzc_8]
    refine tc_i (D := 71) (fun d' hd' => o_told j1 j2 g2 j3 (by omega) o3 (by omega) o3 (by omega) (by omega) (Or.inl rfl) hd') (by omega) ?_
    rintro z M4 ⟨p1, p2⟩
    have hz := p1.1
    have hzr := z3_r hz
    have v4 := mw M3 M4 62 v3 (by omega) p2
    have f4 := p2.2.trans f3
    have o4 : OB M4 61 := OB_z o3 p2 (by omega) (by omega)
    obtain ⟨k1, k2, k3, k4⟩ := ps M4 v4 f4
    try simp only [kb_X12_narrow_64, w_bi, w_ist4, tkl_n, tkl_i, tkl_l, tkl_r, w_ist5, w_ist6, w_ald_0, w_pf_14_11, w_ild4, w_ild_3, w_iv2, tfr_0, tfr_1, tfr_2, tfr_3, tfr_4, w_ild5, w_ild_2, w_ic, w_iv5, w_ist7, w_ild7, w_if_ne, w_ild6, w_nil, true_and, and_true, Nat.reduceAdd, Nat.reduceSub, eq_self, tshm_14, tshm_31, tshm_32, tykm_31, tykm_32, tci_15, tci_960, tykm_14, tci_14, tshm_667, tshm_668, tshm_669, tshm_670, tykm_33, tci_700, tsn_671, tyn_17, tcn_10, tzs_672, tzs_673, tzs_680, tzs_681, tzs_682, tzs_683, tzs_684, tzs_685, tzs_686, tzs_687, tzs_688, tzs_689, tzy_15, tzy_35, tzy_36, tzy_37, tzy_38, tzy_39, tzy_40, tzc_60, tzc_320, tzc_5, tzc_4, tzc_8]
    refine ⟨by omega, fun q => n120 M4 z hz v4 f4 (fun g => absurd g q), fun q => ?_⟩
    refine tc_i (D := 71) (fun d' hd' => o_told k1 k2 g2 k3 (by omega) k4 (by omega) k4 (by omega) (by omega) (Or.inr rfl) hd') (by omega) ?_
    rintro w M5 ⟨t1, t2⟩
    try simp only [kb_X12_narrow_64, w_bi, w_ist4, tkl_n, tkl_i, tkl_l, tkl_r, w_ist5, w_ist6, w_ald_0, w_pf_14_11, w_ild4, w_ild_3, w_iv2, tfr_0, tfr_1, tfr_2, tfr_3, tfr_4, w_ild5, w_ild_2, w_ic, w_iv5, w_ist7, w_ild7, w_if_ne, w_ild6, w_nil, true_and, and_true, Nat.reduceAdd, Nat.reduceSub, eq_self, tshm_14, tshm_31, tshm_32, tykm_31, tykm_32, tci_15, tci_960, tykm_14, tci_14, tshm_667, tshm_668, tshm_669, tshm_670, tykm_33, tci_700, tsn_671, tyn_17, tcn_10, tzs_672, tzs_673, tzs_680, tzs_681, tzs_682, tzs_683, tzs_684, tzs_685, tzs_686, tzs_687, tzs_688, tzs_689, tzy_15, tzy_35, tzy_36, tzy_37, tzy_38, tzy_39, tzy_40, tzc_60, tzc_320, tzc_5, tzc_4, tzc_8]
    exact n120 M5 w t1.1 (mw M4 M5 63 v4 (by omega) t2) (t2.2.trans f4) (fun g => ⟨OB_z o4 t2 (by omega) (by omega), OB_z (p1.2 (by omega)) t2 (by omega) (by omega), t1.2 g⟩)
  have n56 : ∀ v : Int, (0 ≤ v ∧ v ≤ 4) → (v = 0 → (0 ≤ x1 ∧ x1 ≤ 9) ∧ (0 ≤ x2 ∧ x2 ≤ 3) ∧ (0 ≤ x3 ∧ x3 ≤ 9) ∧ M 687 x2 ≠ 0) → tT e d 3660 56 [some (.inr (.inr (.inl 664))), some (.inl (x1)), some (.inl (x2)), some (.inl (x3)), none, none, none, none] [.inl v, .inr (.inr (.inl 664))] M n (tQi n (fun _ M' => MF M' D ∧ MC M M')) := by
    intro v hv hv0
    refine tb_X12_narrow_56 (c := false) ?_
    simp only [kb_X12_narrow_56, w_iv1, tfr_0, tfr_1, tfr_2, tfr_3, tfr_4, w_if_eq, w_ic, w_ire, trg, true_and, and_true, Nat.reduceAdd, Nat.reduceSub, eq_self, tshm_14, tshm_31, tshm_32, tykm_31, tykm_32, tci_15, tci_960, tykm_14, tci_14, tshm_667, tshm_668, tshm_669, tshm_670, tykm_33, tci_700, tsn_671, tyn_17, tcn_10, tzs_672, tzs_673, tzs_680, tzs_681, tzs_682, tzs_683, tzs_684, tzs_685, tzs_686, tzs_687, tzs_688, tzs_689, tzy_15, tzy_35, tzy_36, tzy_37, tzy_38, tzy_39, tzy_40, tzc_60, tzc_320, tzc_5, tzc_4, tzc_8]
    refine tc_i (D := 0) (fun d' hd' => o_fails (by omega)) (by omega) ?_
    rintro z M2 ⟨q2, rfl⟩
    try simp only [kb_X12_narrow_56, w_iv1, tfr_0, tfr_1, tfr_2, tfr_3, tfr_4, w_if_eq, w_ic, w_ire, trg, true_and, and_true, Nat.reduceAdd, Nat.reduceSub, eq_self, tshm_14, tshm_31, tshm_32, tykm_31, tykm_32, tci_15, tci_960, tykm_14, tci_14, tshm_667, tshm_668, tshm_669, tshm_670, tykm_33, tci_700, tsn_671, tyn_17, tcn_10, tzs_672, tzs_673, tzs_680, tzs_681, tzs_682, tzs_683, tzs_684, tzs_685, tzs_686, tzs_687, tzs_688, tzs_689, tzy_15, tzy_35, tzy_36, tzy_37, tzy_38, tzy_39, tzy_40, tzc_60, tzc_320, tzc_5, tzc_4, tzc_8]
    have h4 := MF_3 (v := v) hP
    refine ⟨by omega, fun q => ?_, fun q => ⟨by omega, 0, rfl, rfl, h4⟩⟩
    obtain ⟨g1, g2, g3, g4⟩ := hv0 (by omega)
    exact n64 _ h4.1 h4.2 g1 g2 g3 (by rw [tU_nk (by decide)]; exact g4)
  have n17 : tT e d 3660 17 [some (.inr (.inr (.inl 664))), some (.inl (x1)), some (.inl (x2)), some (.inl (x3)), none, none, none, none] [.inr (.inr (.inl 664))] M n (tQi n (fun _ M' => MF M' D ∧ MC M M')) := by
    refine tb_X12_narrow_17 (c := false) ?_
    simp only [kb_X12_narrow_17, w_ic, w_goto, true_and, and_true, Nat.reduceAdd, Nat.reduceSub, eq_self]
    exact n56 1 (by omega) (fun q => absurd q (by decide))
  have n39 : tT e d 3660 39 [some (.inr (.inr (.inl 664))), some (.inl (x1)), some (.inl (x2)), some (.inl (x3)), none, none, none, none] [.inr (.inr (.inl 664))] M n (tQi n (fun _ M' => MF M' D ∧ MC M M')) := by
    refine tb_X12_narrow_39 (c := false) ?_
    simp only [kb_X12_narrow_39, w_ic, w_goto, true_and, and_true, Nat.reduceAdd, Nat.reduceSub, eq_self]
    exact n56 2 (by omega) (fun q => absurd q (by decide))
  refine tb_X12_narrow_0 (c := false) ?_
  simp only [kb_X12_narrow_0, w_ald_0, w_ild_1, w_is1, tfr_0, tfr_1, tfr_2, tfr_3, tfr_4, w_if_eq, w_ild_2, w_ild_3, w_iv2, w_if_le, w_nil, true_and, and_true, Nat.reduceAdd, Nat.reduceSub, eq_self, tshm_14, tshm_31, tshm_32, tykm_31, tykm_32, tci_15, tci_960, tykm_14, tci_14, tshm_667, tshm_668, tshm_669, tshm_670, tykm_33, tci_700, tsn_671, tyn_17, tcn_10, tzs_672, tzs_673, tzs_680, tzs_681, tzs_682, tzs_683, tzs_684, tzs_685, tzs_686, tzs_687, tzs_688, tzs_689, tzy_15, tzy_35, tzy_36, tzy_37, tzy_38, tzy_39, tzy_40, tzc_60, tzc_320, tzc_5, tzc_4, tzc_8]
  refine tc_i (D := 1) (fun d' hd' => o_isShelf h1 hd') (by omega) ?_
  rintro z1 M1 ⟨q1, rfl⟩
  try simp only [kb_X12_narrow_0, w_ald_0, w_ild_1, w_is1, tfr_0, tfr_1, tfr_2, tfr_3, tfr_4, w_if_eq, w_ild_2, w_ild_3, w_iv2, w_if_le, w_nil, true_and, and_true, Nat.reduceAdd, Nat.reduceSub, eq_self, tshm_14, tshm_31, tshm_32, tykm_31, tykm_32, tci_15, tci_960, tykm_14, tci_14, tshm_667, tshm_668, tshm_669, tshm_670, tykm_33, tci_700, tsn_671, tyn_17, tcn_10, tzs_672, tzs_673, tzs_680, tzs_681, tzs_682, tzs_683, tzs_684, tzs_685, tzs_686, tzs_687, tzs_688, tzs_689, tzy_15, tzy_35, tzy_36, tzy_37, tzy_38, tzy_39, tzy_40, tzc_60, tzc_320, tzc_5, tzc_4, tzc_8]
  refine ⟨by omega, fun q => n17, fun q => ?_⟩
  refine tc_i (D := 2) (fun d' hd' => o_noLook h2 h3 hd') (by omega) ?_
  rintro z2 M2 ⟨q2, rfl⟩
  try simp only [kb_X12_narrow_0, w_ald_0, w_ild_1, w_is1, tfr_0, tfr_1, tfr_2, tfr_3, tfr_4, w_if_eq, w_ild_2, w_ild_3, w_iv2, w_if_le, w_nil, true_and, and_true, Nat.reduceAdd, Nat.reduceSub, eq_self, tshm_14, tshm_31, tshm_32, tykm_31, tykm_32, tci_15, tci_960, tykm_14, tci_14, tshm_667, tshm_668, tshm_669, tshm_670, tykm_33, tci_700, tsn_671, tyn_17, tcn_10, tzs_672, tzs_673, tzs_680, tzs_681, tzs_682, tzs_683, tzs_684, tzs_685, tzs_686, tzs_687, tzs_688, tzs_689, tzy_15, tzy_35, tzy_36, tzy_37, tzy_38, tzy_39, tzy_40, tzc_60, tzc_320, tzc_5, tzc_4, tzc_8]
  refine ⟨by omega, fun q => ?_, fun q => n17⟩
  have g := hP.2.2.1 x2 (by omega) (by omega)
  have k := hP.1.2.1.2.2 x3 (by omega) (by omega)
  refine tb_X12_narrow_21 (c := false) ?_
  simp only [kb_X12_narrow_21, w_ald_0, w_gf_14_33, tw_f, w_ild_2, w_ba, w_if_eq, w_gf_14_10, w_ild_3, w_if_ne, w_nil, true_and, and_true, Nat.reduceAdd, Nat.reduceSub, eq_self, tshm_14, tshm_31, tshm_32, tykm_31, tykm_32, tci_15, tci_960, tykm_14, tci_14, tshm_667, tshm_668, tshm_669, tshm_670, tykm_33, tci_700, tsn_671, tyn_17, tcn_10, tzs_672, tzs_673, tzs_680, tzs_681, tzs_682, tzs_683, tzs_684, tzs_685, tzs_686, tzs_687, tzs_688, tzs_689, tzy_15, tzy_35, tzy_36, tzy_37, tzy_38, tzy_39, tzy_40, tzc_60, tzc_320, tzc_5, tzc_4, tzc_8]
  refine ⟨by omega, by omega, fun q => n39, fun q => ⟨by omega, by omega, fun q => ?_, fun q => n39⟩⟩
  refine tb_X12_narrow_43 (c := false) ?_
  simp only [kb_X12_narrow_43, w_ald_0, w_ild_2, w_iv1, tfr_0, tfr_1, tfr_2, tfr_3, tfr_4, w_if_eq, w_ic, w_goto, true_and, and_true, Nat.reduceAdd, Nat.reduceSub, eq_self, tshm_14, tshm_31, tshm_32, tykm_31, tykm_32, tci_15, tci_960, tykm_14, tci_14, tshm_667, tshm_668, tshm_669, tshm_670, tykm_33, tci_700, tsn_671, tyn_17, tcn_10, tzs_672, tzs_673, tzs_680, tzs_681, tzs_682, tzs_683, tzs_684, tzs_685, tzs_686, tzs_687, tzs_688, tzs_689, tzy_15, tzy_35, tzy_36, tzy_37, tzy_38, tzy_39, tzy_40, tzc_60, tzc_320, tzc_5, tzc_4, tzc_8]
  refine tc_i (D := 0) (fun d' hd' => o_hasYOf hP.2.2.1 (by omega) (by omega)) (by omega) ?_
  rintro z4 M4 ⟨q4, rfl⟩
  try simp only [kb_X12_narrow_43, w_ald_0, w_ild_2, w_iv1, tfr_0, tfr_1, tfr_2, tfr_3, tfr_4, w_if_eq, w_ic, w_goto, true_and, and_true, Nat.reduceAdd, Nat.reduceSub, eq_self, tshm_14, tshm_31, tshm_32, tykm_31, tykm_32, tci_15, tci_960, tykm_14, tci_14, tshm_667, tshm_668, tshm_669, tshm_670, tykm_33, tci_700, tsn_671, tyn_17, tcn_10, tzs_672, tzs_673, tzs_680, tzs_681, tzs_682, tzs_683, tzs_684, tzs_685, tzs_686, tzs_687, tzs_688, tzs_689, tzy_15, tzy_35, tzy_36, tzy_37, tzy_38, tzy_39, tzy_40, tzc_60, tzc_320, tzc_5, tzc_4, tzc_8]
  refine ⟨by omega, fun q => ?_, fun q => n56 3 (by omega) (fun q => absurd q (by decide))⟩
  refine tb_X12_narrow_55 (c := false) ?_
  simp only [kb_X12_narrow_55, w_ic, w_nil, true_and, and_true, Nat.reduceAdd, Nat.reduceSub, eq_self]
  exact n56 0 (by omega) (fun _ => by omega)
theorem o_decide {x1 x2 x3 : Int} (hP : MF M D) (h1 : (-2147483648 ≤ x1 ∧ x1 < 2147483648)) (h2 : (-2147483648 ≤ x2 ∧ x2 < 2147483648)) (h3 : (-2147483648 ≤ x3 ∧ x3 < 2147483648)) (hd : 73 ≤ d) : tC e d 3604 [.inr (.inr (.inl 664)), .inl x1, .inl x2, .inl x3] M n (tQi n (fun _ M' => MF M' D ∧ MC M M')) := by
  refine tst_X12_decide ?_
  have n78 : ∀ (A : Int) (M1 : tM), MF M1 D → MC M M1 → (0 ≤ x1 ∧ x1 ≤ 3) → (0 ≤ x2 ∧ x2 ≤ 3) → (0 ≤ x3 ∧ x3 ≤ 9) → M1 687 x1 ≠ 0 → M1 687 x2 ≠ 0 → tT e d 3604 78 [some (.inr (.inr (.inl 664))), some (.inl (x1)), some (.inl (x2)), some (.inl (x3)), some (.inl (A)), none, none, none, none] [] M1 n (tQi n (fun _ M' => MF M' D ∧ MC M M')) := by
    intro A M1 q1 q2 g1 g2 g3 u1 u2
    have base : ∀ k : Nat, k ≤ 10 → MB (tU M1 664 2 (k : Int)) k 60 := fun k hk => by
      have hn : ∀ (c : Nat) (i : Int), ¬ (c = 664 ∧ i = 2) → tU M1 664 2 (k : Int) c i = M1 c i := fun c i g => if_neg g
      obtain ⟨a1, a2, a3, a4, a5, a6⟩ := q1.1.1
      exact ⟨tU_eq .., hk, (hn _ _ (by omega)).trans a3, a4, BI_same (fun c i g => hn c i (by unfold isB at g; omega)) a5, KI_same (fun c i g => hn c i (by omega)) a6⟩
    have ps : ∀ (k : Nat) (M2 : tM) (g : Int), k ≤ 10 → vE (fun r => 60 ≤ r) (tU M1 664 2 (k : Int)) M2 → M2 664 11 = g → (0 ≤ g ∧ g < 700) → MB M2 k g ∧ FI M2 ∧ M2 687 x1 ≠ 0 ∧ M2 687 x2 ≠ 0 ∧ OB M2 x3 := by
      intro k M2 g k1 k2 k3 k4
      refine ⟨MB_v (base k k1) k2 k3 k4, FI_v (FI_same (fun c i g => tU_nk (by omega)) q1.2.2.1) k2, ?_, ?_, ?_⟩
      · rw [vE_k k2 687 x1 (by omega), tU_nk (by decide)]; exact u1
      · rw [vE_k k2 687 x2 (by omega), tU_nk (by decide)]; exact u2
      · exact OB_v (OB_same (fun c g => tU_nk (by unfold isB at g; omega)) (q1.1.2.2 x3 (by omega) (by omega))) k2 (by omega)
    have n90 : ∀ (fu : Nat) (M2 : tM) (p : Nat) (v k : Int) (B : Option tV), p ≤ 10 → vE (fun r => 60 ≤ r) (tU M1 664 2 (p : Int)) M2 → (-1 ≤ v ∧ v ≤ 30) → (0 ≤ k ∧ k ≤ 11) → 11 - k < (fu : Int) → tT e d 3604 90 [some (.inr (.inr (.inl 664))), some (.inl (x1)), some (.inl (x2)), some (.inl (x3)), some (.inl (A)), some (.inl ((D : Int))), some (.inl (v)), some (.inl (k)), B] [] M2 n (tQi n (fun _ M' => MF M' D ∧ MC M M')) := by
      intro fu
      have n214 : ∀ (M2 : tM) (p : Nat) (v k : Int) (B : Option tV), vE (fun r => 60 ≤ r) (tU M1 664 2 (p : Int)) M2 → tT e d 3604 214 [some (.inr (.inr (.inl 664))), some (.inl (x1)), some (.inl (x2)), some (.inl (x3)), some (.inl (A)), some (.inl ((D : Int))), some (.inl (v)), some (.inl (k)), B] [] M2 n (tQi n (fun _ M' => MF M' D ∧ MC M M')) := by
        intro M2 p v k B k1
        have e1 : tU M1 664 2 (D : Int) = M1 := tU_self q1.1.1.1
        have v2 : vE (fun r => 60 ≤ r) M1 (tU (tU M2 664 2 (D : Int)) 664 11 60) := by
          have := vE_dig (k := (D : Int)) k1
          rw [e1] at this
          exact vE_tr this vE_free
        have m := MF_w q1 v2 (tU_eq ..) (fun _ q => q)
        refine tb_X12_decide_214 (c := false) ?_
        simp only [kb_X12_decide_214, w_ald_0, w_ild5, w_pf_14_2, w_bi, w_pf_14_11, w_ild6, w_ire, trg, true_and, and_true, Nat.reduceAdd, Nat.reduceSub, eq_self, tshm_14, tshm_31, tshm_32, tykm_31, tykm_32, tci_15, tci_960, tykm_14, tci_14, tshm_667, tshm_668, tshm_669, tshm_670, tykm_33, tci_700, tsn_671, tyn_17, tcn_10, tzs_672, tzs_673, tzs_680, tzs_681, tzs_682, tzs_683, tzs_684, tzs_685, tzs_686, tzs_687, tzs_688, tzs_689, tzy_15, tzy_35, tzy_36, tzy_37, tzy_38, tzy_39, tzy_40, tzc_60, tzc_320, tzc_5, tzc_4, tzc_8]
        exact ⟨v, rfl, rfl, m.1, MC_tr q2 m.2⟩
      induction fu with
      | zero => intro M2 p v k B a1 a2 a3 a4 a5; exfalso; omega
      | succ fu ih =>
        intro M2 p v k B a1 a2 a3 a4 a5
        by_cases hk : 10 < k
        · refine tb_X12_decide_90 (c := false) ?_
          simp only [kb_X12_decide_90, w_ild7, w_bi, w_ic_gt, w_ild6, w_if_ge, w_ald_0, w_pf_14_2, w_pf_14_11, w_ild_1, w_ild_3, w_ic, w_iv5, tfr_0, tfr_1, tfr_2, tfr_3, tfr_4, w_if_ne, w_goto, true_and, and_true, Nat.reduceAdd, Nat.reduceSub, eq_self, tshm_14, tshm_31, tshm_32, tykm_31, tykm_32, tci_15, tci_960, tykm_14, tci_14, tshm_667, tshm_668, tshm_669, tshm_670, tykm_33, tci_700, tsn_671, tyn_17, tcn_10, tzs_672, tzs_673, tzs_680, tzs_681, tzs_682, tzs_683, tzs_684, tzs_685, tzs_686, tzs_687, tzs_688, tzs_689, tzy_15, tzy_35, tzy_36, tzy_37, tzy_38, tzy_39, tzy_40, tzc_60, tzc_320, tzc_5, tzc_4, tzc_8]
          exact ⟨by omega, fun q => n214 M2 p v k _ a2, fun q => by exfalso; omega⟩
        obtain ⟨kn, rfl⟩ : ∃ kn : Nat, k = (kn : Int) := ⟨k.toNat, by omega⟩
        have n208 : ∀ (M3 : tM) (v : Int) (B : Option tV), vE (fun r => 60 ≤ r) (tU M1 664 2 (kn : Int)) M3 → (-1 ≤ v ∧ v ≤ 30) → tT e d 3604 208 [some (.inr (.inr (.inl 664))), some (.inl (x1)), some (.inl (x2)), some (.inl (x3)), some (.inl (A)), some (.inl ((D : Int))), some (.inl (v)), some (.inl ((kn : Int))), B] [] M3 n (tQi n (fun _ M' => MF M' D ∧ MC M M')) := by
          intro M3 v B b1 b2
          refine tb_X12_decide_208 (c := false) ?_
          simp only [kb_X12_decide_208, w_inc7, tkl_n, tkl_i, tkl_l, tkl_r, w_goto, true_and, and_true, Nat.reduceAdd, Nat.reduceSub, eq_self]
          exact ih M3 kn v ((kn : Int) + 1) _ (by omega) b1 b2 (by omega) (by omega)
        have n206 : ∀ (M3 : tM) (v w : Int) (B : Option tV), vE (fun r => 60 ≤ r) (tU M1 664 2 (kn : Int)) M3 → (-1 ≤ v ∧ v ≤ 30) → tT e d 3604 206 [some (.inr (.inr (.inl 664))), some (.inl (x1)), some (.inl (x2)), some (.inl (x3)), some (.inl (A)), some (.inl ((D : Int))), some (.inl (w)), some (.inl ((kn : Int))), B] [.inl v] M3 n (tQi n (fun _ M' => MF M' D ∧ MC M M')) := by
          intro M3 v w B b1 b2
          refine tb_X12_decide_206 (c := false) ?_
          simp only [kb_X12_decide_206, w_ist6, tkl_n, tkl_i, tkl_l, tkl_r, w_nil, true_and, and_true, Nat.reduceAdd, Nat.reduceSub, eq_self]
          exact n208 M3 v _ b1 b2
        have n163 : ∀ (M3 : tM) (v w : Int) (B : Option tV), vE (fun r => 60 ≤ r) (tU M1 664 2 (kn : Int)) M3 → M3 664 11 = 62 → (v = 0 ∨ v = 1) → (-1 ≤ w ∧ w ≤ 30) → tT e d 3604 163 [some (.inr (.inr (.inl 664))), some (.inl (x1)), some (.inl (x2)), some (.inl (x3)), some (.inl (A)), some (.inl ((D : Int))), some (.inl (w)), some (.inl ((kn : Int))), B] [.inl v] M3 n (tQi n (fun _ M' => MF M' D ∧ MC M M')) := by
          intro M3 v w B b1 b2 b3 b4
          have hB := (ps kn M3 62 (by omega) b1 b2 (by omega)).1.2.2.2.2.1
          refine tb_X12_decide_163 (c := false) ?_
          simp only [kb_X12_decide_163, w_ist8, tkl_n, tkl_i, tkl_l, tkl_r, w_ild8, w_if_eq, w_ald_0, w_bi, w_iv2, tfr_0, tfr_1, tfr_2, tfr_3, tfr_4, w_ild7, w_goto, true_and, and_true, Nat.reduceAdd, Nat.reduceSub, eq_self, tshm_14, tshm_31, tshm_32, tykm_31, tykm_32, tci_15, tci_960, tykm_14, tci_14, tshm_667, tshm_668, tshm_669, tshm_670, tykm_33, tci_700, tsn_671, tyn_17, tcn_10, tzs_672, tzs_673, tzs_680, tzs_681, tzs_682, tzs_683, tzs_684, tzs_685, tzs_686, tzs_687, tzs_688, tzs_689, tzy_15, tzy_35, tzy_36, tzy_37, tzy_38, tzy_39, tzy_40, tzc_60, tzc_320, tzc_5, tzc_4, tzc_8]
          refine ⟨by omega, fun q => n208 M3 w _ b1 b4, fun q => ?_⟩
          refine tc_i (D := 1) (fun d' hd' => o_isLess hB (by omega) (by omega) hd') (by omega) ?_
          rintro z M4 ⟨c1, rfl⟩
          try simp only [kb_X12_decide_163, w_ist8, tkl_n, tkl_i, tkl_l, tkl_r, w_ild8, w_if_eq, w_ald_0, w_bi, w_iv2, tfr_0, tfr_1, tfr_2, tfr_3, tfr_4, w_ild7, w_goto, true_and, and_true, Nat.reduceAdd, Nat.reduceSub, eq_self, tshm_14, tshm_31, tshm_32, tykm_31, tykm_32, tci_15, tci_960, tykm_14, tci_14, tshm_667, tshm_668, tshm_669, tshm_670, tykm_33, tci_700, tsn_671, tyn_17, tcn_10, tzs_672, tzs_673, tzs_680, tzs_681, tzs_682, tzs_683, tzs_684, tzs_685, tzs_686, tzs_687, tzs_688, tzs_689, tzy_15, tzy_35, tzy_36, tzy_37, tzy_38, tzy_39, tzy_40, tzc_60, tzc_320, tzc_5, tzc_4, tzc_8]
          refine ⟨by omega, fun q => ?_, fun q => n206 _ (kn : Int) _ _ b1 (by omega)⟩
          refine tb_X12_decide_186 (c := false) ?_
          simp only [kb_X12_decide_186, w_ald_0, w_bi, w_iv2, tfr_0, tfr_1, tfr_2, tfr_3, tfr_4, w_if_eq, w_ild7, w_iadd, w_goto, true_and, and_true, Nat.reduceAdd, Nat.reduceSub, eq_self, tshm_14, tshm_31, tshm_32, tykm_31, tykm_32, tci_15, tci_960, tykm_14, tci_14, tshm_667, tshm_668, tshm_669, tshm_670, tykm_33, tci_700, tsn_671, tyn_17, tcn_10, tzs_672, tzs_673, tzs_680, tzs_681, tzs_682, tzs_683, tzs_684, tzs_685, tzs_686, tzs_687, tzs_688, tzs_689, tzy_15, tzy_35, tzy_36, tzy_37, tzy_38, tzy_39, tzy_40, tzc_60, tzc_320, tzc_5, tzc_4, tzc_8]
          refine tc_i (D := 1) (fun d' hd' => o_isLess hB (by omega) (by omega) hd') (by omega) ?_
          rintro z2 M4 ⟨c2, rfl⟩
          try simp only [kb_X12_decide_186, w_ald_0, w_bi, w_iv2, tfr_0, tfr_1, tfr_2, tfr_3, tfr_4, w_if_eq, w_ild7, w_iadd, w_goto, true_and, and_true, Nat.reduceAdd, Nat.reduceSub, eq_self, tshm_14, tshm_31, tshm_32, tykm_31, tykm_32, tci_15, tci_960, tykm_14, tci_14, tshm_667, tshm_668, tshm_669, tshm_670, tykm_33, tci_700, tsn_671, tyn_17, tcn_10, tzs_672, tzs_673, tzs_680, tzs_681, tzs_682, tzs_683, tzs_684, tzs_685, tzs_686, tzs_687, tzs_688, tzs_689, tzy_15, tzy_35, tzy_36, tzy_37, tzy_38, tzy_39, tzy_40, tzc_60, tzc_320, tzc_5, tzc_4, tzc_8]
          refine ⟨by omega, fun q => ?_, fun q => n206 _ (20 + (kn : Int)) _ _ b1 (by omega)⟩
          refine tb_X12_decide_205 (c := false) ?_
          simp only [kb_X12_decide_205, w_ic, w_nil, true_and, and_true, Nat.reduceAdd, Nat.reduceSub, eq_self]
          exact n206 _ (-1) _ _ b1 (by omega)
        have n162 : ∀ (M3 : tM) (w : Int) (B : Option tV), vE (fun r => 60 ≤ r) (tU M1 664 2 (kn : Int)) M3 → M3 664 11 = 62 → (-1 ≤ w ∧ w ≤ 30) → tT e d 3604 162 [some (.inr (.inr (.inl 664))), some (.inl (x1)), some (.inl (x2)), some (.inl (x3)), some (.inl (A)), some (.inl ((D : Int))), some (.inl (w)), some (.inl ((kn : Int))), B] [] M3 n (tQi n (fun _ M' => MF M' D ∧ MC M M')) := by
          intro M3 w B b1 b2 b4
          refine tb_X12_decide_162 (c := false) ?_
          simp only [kb_X12_decide_162, w_ic, w_nil, true_and, and_true, Nat.reduceAdd, Nat.reduceSub, eq_self]
          exact n163 M3 0 w _ b1 b2 (Or.inl rfl) b4
        have n132 : ∀ (M3 : tM) (v w : Int) (B : Option tV), vE (fun r => 60 ≤ r) (tU M1 664 2 (kn : Int)) M3 → M3 664 11 = 62 → (v = 0 ∨ v = 1) → (-1 ≤ w ∧ w ≤ 30) → tT e d 3604 132 [some (.inr (.inr (.inl 664))), some (.inl (x1)), some (.inl (x2)), some (.inl (x3)), some (.inl (A)), some (.inl ((D : Int))), some (.inl (w)), some (.inl ((kn : Int))), B] [.inl v] M3 n (tQi n (fun _ M' => MF M' D ∧ MC M M')) := by
          intro M3 v w B b1 b2 b3 b4
          have v0 : vE (fun r => 60 ≤ r) (tU M1 664 2 (kn : Int)) (tU M3 664 11 62) := vE_tr b1 vE_free
          have f0 : tU M3 664 11 62 664 11 = 62 := tU_eq ..
          refine tb_X12_decide_132 (c := false) ?_
          simp only [kb_X12_decide_132, w_ist8, tkl_n, tkl_i, tkl_l, tkl_r, w_ald_0, w_bi, w_pf_14_11, w_ild_2, w_ild_3, w_ic, w_iv5, tfr_0, tfr_1, tfr_2, tfr_3, tfr_4, w_if_ne, w_ild8, w_if_eq, w_goto, true_and, and_true, Nat.reduceAdd, Nat.reduceSub, eq_self, tshm_14, tshm_31, tshm_32, tykm_31, tykm_32, tci_15, tci_960, tykm_14, tci_14, tshm_667, tshm_668, tshm_669, tshm_670, tykm_33, tci_700, tsn_671, tyn_17, tcn_10, tzs_672, tzs_673, tzs_680, tzs_681, tzs_682, tzs_683, tzs_684, tzs_685, tzs_686, tzs_687, tzs_688, tzs_689, tzy_15, tzy_35, tzy_36, tzy_37, tzy_38, tzy_39, tzy_40, tzc_60, tzc_320, tzc_5, tzc_4, tzc_8]
          generalize tU M3 664 11 62 = M4 at v0 f0 ⊢
          obtain ⟨i1, i2, i3, i4, i5⟩ := ps kn M4 62 (by omega) v0 f0 (by omega)
          refine tc_i (D := 71) (fun d' hd' => o_told i1 i2 g2 i4 (by omega) i5 (by omega) i5 (by omega) (by omega) (Or.inl rfl) hd') (by omega) ?_
          rintro z M5 ⟨p1, p2⟩
          have hz := z3_r p1.1
          have v5 : vE (fun r => 60 ≤ r) (tU M1 664 2 (kn : Int)) M5 := vE_tr v0 (vE_mono p2.1 (fun r q => by rcases q with q | q <;> omega))
          have f5 := p2.2.trans f0
          try simp only [kb_X12_decide_132, w_ist8, tkl_n, tkl_i, tkl_l, tkl_r, w_ald_0, w_bi, w_pf_14_11, w_ild_2, w_ild_3, w_ic, w_iv5, tfr_0, tfr_1, tfr_2, tfr_3, tfr_4, w_if_ne, w_ild8, w_if_eq, w_goto, true_and, and_true, Nat.reduceAdd, Nat.reduceSub, eq_self, tshm_14, tshm_31, tshm_32, tykm_31, tykm_32, tci_15, tci_960, tykm_14, tci_14, tshm_667, tshm_668, tshm_669, tshm_670, tykm_33, tci_700, tsn_671, tyn_17, tcn_10, tzs_672, tzs_673, tzs_680, tzs_681, tzs_682, tzs_683, tzs_684, tzs_685, tzs_686, tzs_687, tzs_688, tzs_689, tzy_15, tzy_35, tzy_36, tzy_37, tzy_38, tzy_39, tzy_40, tzc_60, tzc_320, tzc_5, tzc_4, tzc_8]
          exact ⟨by omega, fun q => n162 M5 w _ v5 f5 b4, fun q => ⟨by omega, fun q => n162 M5 w _ v5 f5 b4, fun q => n163 M5 1 w _ v5 f5 (Or.inr rfl) b4⟩⟩
        have v0 : vE (fun r => 60 ≤ r) (tU M1 664 2 (kn : Int)) (tU (tU M2 664 2 (kn : Int)) 664 11 62) := vE_tr (vE_dig (k := (kn : Int)) a2) vE_free
        have f0 : tU (tU M2 664 2 (kn : Int)) 664 11 62 664 11 = 62 := tU_eq ..
        refine tb_X12_decide_90 (c := false) ?_
        simp only [kb_X12_decide_90, w_ild7, w_bi, w_ic_gt, w_ild6, w_if_ge, w_ald_0, w_pf_14_2, w_pf_14_11, w_ild_1, w_ild_3, w_ic, w_iv5, tfr_0, tfr_1, tfr_2, tfr_3, tfr_4, w_if_ne, w_goto, true_and, and_true, Nat.reduceAdd, Nat.reduceSub, eq_self, tshm_14, tshm_31, tshm_32, tykm_31, tykm_32, tci_15, tci_960, tykm_14, tci_14, tshm_667, tshm_668, tshm_669, tshm_670, tykm_33, tci_700, tsn_671, tyn_17, tcn_10, tzs_672, tzs_673, tzs_680, tzs_681, tzs_682, tzs_683, tzs_684, tzs_685, tzs_686, tzs_687, tzs_688, tzs_689, tzy_15, tzy_35, tzy_36, tzy_37, tzy_38, tzy_39, tzy_40, tzc_60, tzc_320, tzc_5, tzc_4, tzc_8]
        generalize tU (tU M2 664 2 (kn : Int)) 664 11 62 = M4 at v0 f0 ⊢
        refine ⟨by omega, fun q => n214 M2 p v _ _ a2, fun q => ⟨by omega, fun q => n214 M2 p v _ _ a2, fun q => ?_⟩⟩
        obtain ⟨i1, i2, i3, i4, i5⟩ := ps kn M4 62 (by omega) v0 f0 (by omega)
        refine tc_i (D := 71) (fun d' hd' => o_told i1 i2 g1 i3 (by omega) i5 (by omega) i5 (by omega) (by omega) (Or.inl rfl) hd') (by omega) ?_
        rintro z M5 ⟨p1, p2⟩
        have hz := z3_r p1.1
        have v5 : vE (fun r => 60 ≤ r) (tU M1 664 2 (kn : Int)) M5 := vE_tr v0 (vE_mono p2.1 (fun r q => by rcases q with q | q <;> omega))
        have f5 := p2.2.trans f0
        try simp only [kb_X12_decide_90, w_ild7, w_bi, w_ic_gt, w_ild6, w_if_ge, w_ald_0, w_pf_14_2, w_pf_14_11, w_ild_1, w_ild_3, w_ic, w_iv5, tfr_0, tfr_1, tfr_2, tfr_3, tfr_4, w_if_ne, w_goto, true_and, and_true, Nat.reduceAdd, Nat.reduceSub, eq_self, tshm_14, tshm_31, tshm_32, tykm_31, tykm_32, tci_15, tci_960, tykm_14, tci_14, tshm_667, tshm_668, tshm_669, tshm_670, tykm_33, tci_700, tsn_671, tyn_17, tcn_10, tzs_672, tzs_673, tzs_680, tzs_681, tzs_682, tzs_683, tzs_684, tzs_685, tzs_686, tzs_687, tzs_688, tzs_689, tzy_15, tzy_35, tzy_36, tzy_37, tzy_38, tzy_39, tzy_40, tzc_60, tzc_320, tzc_5, tzc_4, tzc_8]
        refine ⟨by omega, fun q => ?_, fun q => n132 M5 1 v _ v5 f5 (Or.inr rfl) a3⟩
        refine tb_X12_decide_131 (c := false) ?_
        simp only [kb_X12_decide_131, w_ic, w_nil, true_and, and_true, Nat.reduceAdd, Nat.reduceSub, eq_self]
        exact n132 M5 0 v _ v5 f5 (Or.inl rfl) a3
    have e2 := q1.1.1.1
    refine tb_X12_decide_78 (c := false) ?_
    simp only [kb_X12_decide_78, w_ald_0, w_gf_14_2, tw_f, w_ist5, tkl_n, tkl_i, tkl_l, tkl_r, w_ic, w_ist6, w_ist7, w_nil, true_and, and_true, Nat.reduceAdd, Nat.reduceSub, eq_self, tshm_14, tshm_31, tshm_32, tykm_31, tykm_32, tci_15, tci_960, tykm_14, tci_14, tshm_667, tshm_668, tshm_669, tshm_670, tykm_33, tci_700, tsn_671, tyn_17, tcn_10, tzs_672, tzs_673, tzs_680, tzs_681, tzs_682, tzs_683, tzs_684, tzs_685, tzs_686, tzs_687, tzs_688, tzs_689, tzy_15, tzy_35, tzy_36, tzy_37, tzy_38, tzy_39, tzy_40, tzc_60, tzc_320, tzc_5, tzc_4, tzc_8, e2]
    refine n90 12 M1 D (-1) 0 _ q1.1.1.2.1 ?_ (by omega) (by omega) (by omega)
    rw [tU_self e2]
    exact vE_refl
  have n70 : ∀ (A : Int) (v : Int), (0 ≤ v ∧ v ≤ 2) → (v = 0 → (0 ≤ x1 ∧ x1 ≤ 3) ∧ (0 ≤ x2 ∧ x2 ≤ 3) ∧ (0 ≤ x3 ∧ x3 ≤ 9) ∧ M 687 x1 ≠ 0 ∧ M 687 x2 ≠ 0) → tT e d 3604 70 [some (.inr (.inr (.inl 664))), some (.inl (x1)), some (.inl (x2)), some (.inl (x3)), some (.inl (A)), none, none, none, none] [.inl v, .inr (.inr (.inl 664))] M n (tQi n (fun _ M' => MF M' D ∧ MC M M')) := by
    intro A v hv hv0
    refine tb_X12_decide_70 (c := false) ?_
    simp only [kb_X12_decide_70, w_iv1, tfr_0, tfr_1, tfr_2, tfr_3, tfr_4, w_if_eq, w_ic, w_ire, trg, true_and, and_true, Nat.reduceAdd, Nat.reduceSub, eq_self, tshm_14, tshm_31, tshm_32, tykm_31, tykm_32, tci_15, tci_960, tykm_14, tci_14, tshm_667, tshm_668, tshm_669, tshm_670, tykm_33, tci_700, tsn_671, tyn_17, tcn_10, tzs_672, tzs_673, tzs_680, tzs_681, tzs_682, tzs_683, tzs_684, tzs_685, tzs_686, tzs_687, tzs_688, tzs_689, tzy_15, tzy_35, tzy_36, tzy_37, tzy_38, tzy_39, tzy_40, tzc_60, tzc_320, tzc_5, tzc_4, tzc_8]
    refine tc_i (D := 0) (fun d' hd' => o_fails (by omega)) (by omega) ?_
    rintro z M2 ⟨q2, rfl⟩
    try simp only [kb_X12_decide_70, w_iv1, tfr_0, tfr_1, tfr_2, tfr_3, tfr_4, w_if_eq, w_ic, w_ire, trg, true_and, and_true, Nat.reduceAdd, Nat.reduceSub, eq_self, tshm_14, tshm_31, tshm_32, tykm_31, tykm_32, tci_15, tci_960, tykm_14, tci_14, tshm_667, tshm_668, tshm_669, tshm_670, tykm_33, tci_700, tsn_671, tyn_17, tcn_10, tzs_672, tzs_673, tzs_680, tzs_681, tzs_682, tzs_683, tzs_684, tzs_685, tzs_686, tzs_687, tzs_688, tzs_689, tzy_15, tzy_35, tzy_36, tzy_37, tzy_38, tzy_39, tzy_40, tzc_60, tzc_320, tzc_5, tzc_4, tzc_8]
    have h6 := MF_3 (v := v) hP
    refine ⟨by omega, fun q => ?_, fun q => ⟨0, rfl, rfl, h6⟩⟩
    obtain ⟨g1, g2, g3, g4, g5⟩ := hv0 (by omega)
    exact n78 _ _ h6.1 h6.2 g1 g2 g3 (by rw [tU_nk (by decide)]; exact g4) (by rw [tU_nk (by decide)]; exact g5)
  have n65 : ∀ A : Int, tT e d 3604 65 [some (.inr (.inr (.inl 664))), some (.inl (x1)), some (.inl (x2)), some (.inl (x3)), some (.inl (A)), none, none, none, none] [.inr (.inr (.inl 664))] M n (tQi n (fun _ M' => MF M' D ∧ MC M M')) := by
    intro A
    refine tb_X12_decide_65 (c := false) ?_
    simp only [kb_X12_decide_65, w_ic, w_goto, true_and, and_true, Nat.reduceAdd, Nat.reduceSub, eq_self]
    exact n70 _ 2 (by omega) (fun q => absurd q (by decide))
  have n26 : ∀ v : Int, (v = 1 ∧ (0 ≤ x1 ∧ x1 ≤ 3) ∧ (0 ≤ x2 ∧ x2 ≤ 3) ∧ (0 ≤ x3 ∧ x3 ≤ 9) ∨ v = 0) → tT e d 3604 26 [some (.inr (.inr (.inl 664))), some (.inl (x1)), some (.inl (x2)), some (.inl (x3)), none, none, none, none, none] [.inl v] M n (tQi n (fun _ M' => MF M' D ∧ MC M M')) := by
    intro v hv
    have hvr : 0 ≤ v ∧ v ≤ 1 := by omega
    refine tb_X12_decide_26 (c := false) ?_
    simp only [kb_X12_decide_26, w_ist4, tkl_n, tkl_i, tkl_l, tkl_r, w_ald_0, w_ild4, w_if_ne, w_ic, w_goto, true_and, and_true, Nat.reduceAdd, Nat.reduceSub, eq_self]
    refine ⟨by omega, fun q => ?_, fun q => n70 _ 1 (by omega) (fun q => absurd q (by decide))⟩
    have hv : (0 ≤ x1 ∧ x1 ≤ 3) ∧ (0 ≤ x2 ∧ x2 ≤ 3) ∧ (0 ≤ x3 ∧ x3 ≤ 9) := by omega
    have g1 := (hP.2.2.1 x1 (by omega) (by omega)).1
    have g2 := (hP.2.2.1 x2 (by omega) (by omega)).1
    have k3 := hP.1.2.1.2.2 x3 (by omega) (by omega)
    refine tb_X12_decide_38 (c := false) ?_
    simp only [kb_X12_decide_38, w_ald_0, w_gf_14_33, tw_f, w_ild_1, w_ba, w_if_eq, w_ild_2, w_gf_14_10, w_ild_3, w_if_ne, w_nil, true_and, and_true, Nat.reduceAdd, Nat.reduceSub, eq_self, tshm_14, tshm_31, tshm_32, tykm_31, tykm_32, tci_15, tci_960, tykm_14, tci_14, tshm_667, tshm_668, tshm_669, tshm_670, tykm_33, tci_700, tsn_671, tyn_17, tcn_10, tzs_672, tzs_673, tzs_680, tzs_681, tzs_682, tzs_683, tzs_684, tzs_685, tzs_686, tzs_687, tzs_688, tzs_689, tzy_15, tzy_35, tzy_36, tzy_37, tzy_38, tzy_39, tzy_40, tzc_60, tzc_320, tzc_5, tzc_4, tzc_8]
    refine ⟨by omega, by omega, fun q => n65 _, fun q => ⟨by omega, by omega, fun q => n65 _, fun q => ⟨by omega, by omega, fun q => ?_, fun q => n65 _⟩⟩⟩
    refine tb_X12_decide_69 (c := false) ?_
    simp only [kb_X12_decide_69, w_ic, w_nil, true_and, and_true, Nat.reduceAdd, Nat.reduceSub, eq_self]
    exact n70 _ 0 (by omega) (fun _ => by omega)
  have n25 : tT e d 3604 25 [some (.inr (.inr (.inl 664))), some (.inl (x1)), some (.inl (x2)), some (.inl (x3)), none, none, none, none, none] [] M n (tQi n (fun _ M' => MF M' D ∧ MC M M')) := by
    refine tb_X12_decide_25 (c := false) ?_
    simp only [kb_X12_decide_25, w_ic, w_nil, true_and, and_true, Nat.reduceAdd, Nat.reduceSub, eq_self]
    exact n26 0 (Or.inr rfl)
  refine tb_X12_decide_0 (c := false) ?_
  simp only [kb_X12_decide_0, w_ild_3, w_is1, tfr_0, tfr_1, tfr_2, tfr_3, tfr_4, w_if_eq, w_ild_1, w_ild_2, w_ic, w_goto, true_and, and_true, Nat.reduceAdd, Nat.reduceSub, eq_self]
  refine tc_i (D := 1) (fun d' hd' => o_isShelf h3 hd') (by omega) ?_
  rintro z1 M1 ⟨q1, rfl⟩
  try simp only [kb_X12_decide_0, w_ild_3, w_is1, tfr_0, tfr_1, tfr_2, tfr_3, tfr_4, w_if_eq, w_ild_1, w_ild_2, w_ic, w_goto, true_and, and_true, Nat.reduceAdd, Nat.reduceSub, eq_self]
  refine ⟨by omega, fun q => n25, fun q => ?_⟩
  refine tc_i (D := 1) (fun d' hd' => o_isFormula h1 hd') (by omega) ?_
  rintro z3 M1 ⟨q3, rfl⟩
  try simp only [kb_X12_decide_0, w_ild_3, w_is1, tfr_0, tfr_1, tfr_2, tfr_3, tfr_4, w_if_eq, w_ild_1, w_ild_2, w_ic, w_goto, true_and, and_true, Nat.reduceAdd, Nat.reduceSub, eq_self]
  refine ⟨by omega, fun q => n25, fun q => ?_⟩
  refine tc_i (D := 1) (fun d' hd' => o_isFormula h2 hd') (by omega) ?_
  rintro z4 M1 ⟨q4, rfl⟩
  try simp only [kb_X12_decide_0, w_ild_3, w_is1, tfr_0, tfr_1, tfr_2, tfr_3, tfr_4, w_if_eq, w_ild_1, w_ild_2, w_ic, w_goto, true_and, and_true, Nat.reduceAdd, Nat.reduceSub, eq_self]
  exact ⟨by omega, fun q => n25, fun q => n26 1 (Or.inl ⟨rfl, by omega, by omega, by omega⟩)⟩
theorem o_solve {x1 x2 x3 : Int} (hP : MF M D) (h1 : (-2147483648 ≤ x1 ∧ x1 < 2147483648)) (h2 : (-2147483648 ≤ x2 ∧ x2 < 2147483648)) (h3 : x3 = 0 ∨ x3 = 1) (hd : 10 ≤ d) : tC e d 3711 [.inr (.inr (.inl 664)), .inl x1, .inl x2, .inl x3] M n (tQi n (fun _ M' => MF M' D ∧ MC M M')) := by
  refine tst_X12_solve ?_
  have n98 : ∀ (A : Int) (B C : Option tV) (M1 : tM), MF M1 D → MC M M1 → (0 ≤ x1 ∧ x1 ≤ 9) → (0 ≤ x2 ∧ x2 ≤ 4) → tT e d 3711 98 [some (.inr (.inr (.inl 664))), some (.inl (x1)), some (.inl (x2)), some (.inl (x3)), some (.inl (1)), some (.inl (A)), some (.inl (6)), B, C] [] M1 n (tQi n (fun _ M' => MF M' D ∧ MC M M')) := by
    intro A B C M1 q1 q2 g1 g2
    have ps : ∀ M2 : tM, vE (fun r => 60 ≤ r) M1 M2 → M2 664 11 = 62 → MB M2 D 62 := fun M2 k1 k2 => MB_v q1.1.1 k1 k2 (by omega)
    have mv : ∀ (M2 M3 : tM) (y : Int), vE (fun r => 60 ≤ r) M1 M2 → 60 ≤ y → xE (toF y 62) M2 M3 → vE (fun r => 60 ≤ r) M1 M3 := fun M2 M3 y k1 k2 k3 => vE_tr k1 (vE_y (yE_mono k3.1 (fun r q => by rcases q with q | q <;> omega)))
    have n195 : ∀ (M2 : tM) (z : Int), (z = 0 ∨ z = 1 ∨ z = 2) → vE (fun r => 60 ≤ r) M1 M2 → (z = 0 → OB M2 60) → tT e d 3711 195 [some (.inr (.inr (.inl 664))), some (.inl (x1)), some (.inl (x2)), some (.inl (x3)), some (.inl (1)), some (.inl (A)), some (.inl (x2)), some (.inl (x2 + 3)), some (.inl (z))] [] M2 n (tQi n (fun _ M' => MF M' D ∧ MC M M')) := by
      intro M2 z hz k1 k2
      have m := MF_w q1 (vE_tr k1 (vE_free (v := 60))) (tU_eq ..) (fun _ q => q)
      refine tb_X12_solve_195 (c := false) ?_
      simp only [kb_X12_solve_195, w_ald_0, w_bi, w_pf_14_11, w_ild_1, w_ild8, w_ic, w_iv4, tfr_0, tfr_1, tfr_2, tfr_3, tfr_4, w_ire, trg, true_and, and_true, Nat.reduceAdd, Nat.reduceSub, eq_self, tshm_14, tshm_31, tshm_32, tykm_31, tykm_32, tci_15, tci_960, tykm_14, tci_14, tshm_667, tshm_668, tshm_669, tshm_670, tykm_33, tci_700, tsn_671, tyn_17, tcn_10, tzs_672, tzs_673, tzs_680, tzs_681, tzs_682, tzs_683, tzs_684, tzs_685, tzs_686, tzs_687, tzs_688, tzs_689, tzy_15, tzy_35, tzy_36, tzy_37, tzy_38, tzy_39, tzy_40, tzc_60, tzc_320, tzc_5, tzc_4, tzc_8]
      refine tc_i (D := 3) (fun d' hd' => o_makes_f m.1 g1 hz (fun q => OB_v (k2 q) (vE_free (T := fun _ => False)) id) (by omega) (by omega) hd') (by omega) ?_
      rintro z2 M4 ⟨r1, r2, r3⟩
      try simp only [kb_X12_solve_195, w_ald_0, w_bi, w_pf_14_11, w_ild_1, w_ild8, w_ic, w_iv4, tfr_0, tfr_1, tfr_2, tfr_3, tfr_4, w_ire, trg, true_and, and_true, Nat.reduceAdd, Nat.reduceSub, eq_self, tshm_14, tshm_31, tshm_32, tykm_31, tykm_32, tci_15, tci_960, tykm_14, tci_14, tshm_667, tshm_668, tshm_669, tshm_670, tykm_33, tci_700, tsn_671, tyn_17, tcn_10, tzs_672, tzs_673, tzs_680, tzs_681, tzs_682, tzs_683, tzs_684, tzs_685, tzs_686, tzs_687, tzs_688, tzs_689, tzy_15, tzy_35, tzy_36, tzy_37, tzy_38, tzy_39, tzy_40, tzc_60, tzc_320, tzc_5, tzc_4, tzc_8]
      exact ⟨by omega, z2, rfl, rfl, r2, MC_tr q2 (MC_tr m.2 r3)⟩
    have n178 : ∀ (M2 : tM) (z : Int), (z = 0 ∨ z = 1 ∨ z = 2) → vE (fun r => 60 ≤ r) M1 M2 → M2 664 11 = 62 → (z = 0 → OB M2 61) → tT e d 3711 178 [some (.inr (.inr (.inl 664))), some (.inl (x1)), some (.inl (x2)), some (.inl (x3)), some (.inl (1)), some (.inl (A)), some (.inl (x2)), some (.inl (x2 + 3)), some (.inl (z))] [] M2 n (tQi n (fun _ M' => MF M' D ∧ MC M M')) := by
      intro M2 z hz k1 k2 k3
      have hzr := z3_r hz
      refine tb_X12_solve_178 (c := false) ?_
      simp only [kb_X12_solve_178, w_ild8, w_if_ne, w_ald_0, w_bi, w_iv3, tfr_0, tfr_1, tfr_2, tfr_3, tfr_4, w_ist8, tkl_n, tkl_i, tkl_l, tkl_r, w_nil, true_and, and_true, Nat.reduceAdd, Nat.reduceSub, eq_self, tshm_14, tshm_31, tshm_32, tykm_31, tykm_32, tci_15, tci_960, tykm_14, tci_14, tshm_667, tshm_668, tshm_669, tshm_670, tykm_33, tci_700, tsn_671, tyn_17, tcn_10, tzs_672, tzs_673, tzs_680, tzs_681, tzs_682, tzs_683, tzs_684, tzs_685, tzs_686, tzs_687, tzs_688, tzs_689, tzy_15, tzy_35, tzy_36, tzy_37, tzy_38, tzy_39, tzy_40, tzc_60, tzc_320, tzc_5, tzc_4, tzc_8]
      refine ⟨by omega, fun q => n195 M2 z hz k1 (fun g => absurd g q), fun q => ?_⟩
      refine tc_i (D := 6) (fun d' hd' => o_quotient (ps M2 k1 k2) (by omega) (by omega) (by omega) (k3 (by omega)) hd') (by omega) ?_
      rintro w M3 ⟨r1, r2⟩
      try simp only [kb_X12_solve_178, w_ild8, w_if_ne, w_ald_0, w_bi, w_iv3, tfr_0, tfr_1, tfr_2, tfr_3, tfr_4, w_ist8, tkl_n, tkl_i, tkl_l, tkl_r, w_nil, true_and, and_true, Nat.reduceAdd, Nat.reduceSub, eq_self, tshm_14, tshm_31, tshm_32, tykm_31, tykm_32, tci_15, tci_960, tykm_14, tci_14, tshm_667, tshm_668, tshm_669, tshm_670, tykm_33, tci_700, tsn_671, tyn_17, tcn_10, tzs_672, tzs_673, tzs_680, tzs_681, tzs_682, tzs_683, tzs_684, tzs_685, tzs_686, tzs_687, tzs_688, tzs_689, tzy_15, tzy_35, tzy_36, tzy_37, tzy_38, tzy_39, tzy_40, tzc_60, tzc_320, tzc_5, tzc_4, tzc_8]
      exact n195 M3 w r1.1 (mv M2 M3 60 k1 (by omega) r2) r1.2
    have n153 : ∀ (M2 : tM) (z : Int), (z = 0 ∨ z = 1 ∨ z = 2) → vE (fun r => 60 ≤ r) M1 M2 → M2 664 11 = 62 → tT e d 3711 153 [some (.inr (.inr (.inl 664))), some (.inl (x1)), some (.inl (x2)), some (.inl (x3)), some (.inl (1)), some (.inl (A)), some (.inl (x2)), some (.inl (x2 + 3)), C] [.inl z] M2 n (tQi n (fun _ M' => MF M' D ∧ MC M M')) := by
      intro M2 z hz k1 k2
      have hzr := z3_r hz
      refine tb_X12_solve_153 (c := false) ?_
      simp only [kb_X12_solve_153, w_ist8, tkl_n, tkl_i, tkl_l, tkl_r, w_ild8, w_if_ne, w_ald_0, w_bi, w_ild6, w_ild_2, w_ic, w_iadd, w_ild7, w_iv5, tfr_0, tfr_1, tfr_2, tfr_3, tfr_4, w_nil, true_and, and_true, Nat.reduceAdd, Nat.reduceSub, eq_self, tshm_14, tshm_31, tshm_32, tykm_31, tykm_32, tci_15, tci_960, tykm_14, tci_14, tshm_667, tshm_668, tshm_669, tshm_670, tykm_33, tci_700, tsn_671, tyn_17, tcn_10, tzs_672, tzs_673, tzs_680, tzs_681, tzs_682, tzs_683, tzs_684, tzs_685, tzs_686, tzs_687, tzs_688, tzs_689, tzy_15, tzy_35, tzy_36, tzy_37, tzy_38, tzy_39, tzy_40, tzc_60, tzc_320, tzc_5, tzc_4, tzc_8]
      refine ⟨by omega, fun q => n178 M2 z hz k1 k2 (fun g => absurd g q), fun q => ?_⟩
      refine tc_i (D := 8) (fun d' hd' => o_crossed (ps M2 k1 k2) (by omega) (by omega) (by omega) (by omega) (by omega) (by omega) hd') (by omega) ?_
      rintro w M3 ⟨r1, r2⟩
      try simp only [kb_X12_solve_153, w_ist8, tkl_n, tkl_i, tkl_l, tkl_r, w_ild8, w_if_ne, w_ald_0, w_bi, w_ild6, w_ild_2, w_ic, w_iadd, w_ild7, w_iv5, tfr_0, tfr_1, tfr_2, tfr_3, tfr_4, w_nil, true_and, and_true, Nat.reduceAdd, Nat.reduceSub, eq_self, tshm_14, tshm_31, tshm_32, tykm_31, tykm_32, tci_15, tci_960, tykm_14, tci_14, tshm_667, tshm_668, tshm_669, tshm_670, tykm_33, tci_700, tsn_671, tyn_17, tcn_10, tzs_672, tzs_673, tzs_680, tzs_681, tzs_682, tzs_683, tzs_684, tzs_685, tzs_686, tzs_687, tzs_688, tzs_689, tzy_15, tzy_35, tzy_36, tzy_37, tzy_38, tzy_39, tzy_40, tzc_60, tzc_320, tzc_5, tzc_4, tzc_8]
      exact n178 M3 w r1.1 (mv M2 M3 61 k1 (by omega) r2) (r2.2.trans k2) r1.2
    have v0 : vE (fun r => 60 ≤ r) M1 (tU M1 664 11 62) := vE_free
    have f0 : tU M1 664 11 62 664 11 = 62 := tU_eq ..
    refine tb_X12_solve_98 (c := false) ?_
    simp only [kb_X12_solve_98, w_ild_2, w_ist6, tkl_n, tkl_i, tkl_l, tkl_r, w_ic, w_iadd, w_ist7, w_ald_0, w_bi, w_pf_14_11, w_ild_3, w_if_eq, w_ild6, w_ild7, w_iv5, tfr_0, tfr_1, tfr_2, tfr_3, tfr_4, w_goto, true_and, and_true, Nat.reduceAdd, Nat.reduceSub, eq_self, tshm_14, tshm_31, tshm_32, tykm_31, tykm_32, tci_15, tci_960, tykm_14, tci_14, tshm_667, tshm_668, tshm_669, tshm_670, tykm_33, tci_700, tsn_671, tyn_17, tcn_10, tzs_672, tzs_673, tzs_680, tzs_681, tzs_682, tzs_683, tzs_684, tzs_685, tzs_686, tzs_687, tzs_688, tzs_689, tzy_15, tzy_35, tzy_36, tzy_37, tzy_38, tzy_39, tzy_40, tzc_60, tzc_320, tzc_5, tzc_4, tzc_8]
    generalize tU M1 664 11 62 = M2 at v0 f0 ⊢
    refine ⟨by omega, fun q => ?_, fun q => ?_⟩
    · refine tb_X12_solve_135 (c := false) ?_
      simp only [kb_X12_solve_135, w_ald_0, w_bi, w_ild_2, w_ic, w_iadd, w_iv5, tfr_0, tfr_1, tfr_2, tfr_3, tfr_4, w_nil, true_and, and_true, Nat.reduceAdd, Nat.reduceSub, eq_self, tshm_14, tshm_31, tshm_32, tykm_31, tykm_32, tci_15, tci_960, tykm_14, tci_14, tshm_667, tshm_668, tshm_669, tshm_670, tykm_33, tci_700, tsn_671, tyn_17, tcn_10, tzs_672, tzs_673, tzs_680, tzs_681, tzs_682, tzs_683, tzs_684, tzs_685, tzs_686, tzs_687, tzs_688, tzs_689, tzy_15, tzy_35, tzy_36, tzy_37, tzy_38, tzy_39, tzy_40, tzc_60, tzc_320, tzc_5, tzc_4, tzc_8]
      refine tc_i (D := 8) (fun d' hd' => o_crossed (ps M2 v0 f0) (by omega) (by omega) (by omega) (by omega) (by omega) (by omega) hd') (by omega) ?_
      rintro w M3 ⟨r1, r2⟩
      try simp only [kb_X12_solve_135, w_ald_0, w_bi, w_ild_2, w_ic, w_iadd, w_iv5, tfr_0, tfr_1, tfr_2, tfr_3, tfr_4, w_nil, true_and, and_true, Nat.reduceAdd, Nat.reduceSub, eq_self, tshm_14, tshm_31, tshm_32, tykm_31, tykm_32, tci_15, tci_960, tykm_14, tci_14, tshm_667, tshm_668, tshm_669, tshm_670, tykm_33, tci_700, tsn_671, tyn_17, tcn_10, tzs_672, tzs_673, tzs_680, tzs_681, tzs_682, tzs_683, tzs_684, tzs_685, tzs_686, tzs_687, tzs_688, tzs_689, tzy_15, tzy_35, tzy_36, tzy_37, tzy_38, tzy_39, tzy_40, tzc_60, tzc_320, tzc_5, tzc_4, tzc_8]
      exact n153 M3 w r1.1 (mv M2 M3 60 v0 (by omega) r2) (r2.2.trans f0)
    · refine tc_i (D := 8) (fun d' hd' => o_crossed (ps M2 v0 f0) (by omega) (by omega) (by omega) (by omega) (by omega) (by omega) hd') (by omega) ?_
      rintro w M3 ⟨r1, r2⟩
      try simp only [kb_X12_solve_98, w_ild_2, w_ist6, tkl_n, tkl_i, tkl_l, tkl_r, w_ic, w_iadd, w_ist7, w_ald_0, w_bi, w_pf_14_11, w_ild_3, w_if_eq, w_ild6, w_ild7, w_iv5, tfr_0, tfr_1, tfr_2, tfr_3, tfr_4, w_goto, true_and, and_true, Nat.reduceAdd, Nat.reduceSub, eq_self, tshm_14, tshm_31, tshm_32, tykm_31, tykm_32, tci_15, tci_960, tykm_14, tci_14, tshm_667, tshm_668, tshm_669, tshm_670, tykm_33, tci_700, tsn_671, tyn_17, tcn_10, tzs_672, tzs_673, tzs_680, tzs_681, tzs_682, tzs_683, tzs_684, tzs_685, tzs_686, tzs_687, tzs_688, tzs_689, tzy_15, tzy_35, tzy_36, tzy_37, tzy_38, tzy_39, tzy_40, tzc_60, tzc_320, tzc_5, tzc_4, tzc_8]
      exact n153 M3 w r1.1 (mv M2 M3 60 v0 (by omega) r2) (r2.2.trans f0)
  have n90 : ∀ (a b : Int) (v : Int), (0 ≤ v ∧ v ≤ 2) → (v = 0 → a = 1 ∧ (0 ≤ x1 ∧ x1 ≤ 9) ∧ (0 ≤ x2 ∧ x2 ≤ 4)) → tT e d 3711 90 [some (.inr (.inr (.inl 664))), some (.inl (x1)), some (.inl (x2)), some (.inl (x3)), some (.inl (a)), some (.inl (b)), some (.inl (6)), none, none] [.inl v, .inr (.inr (.inl 664))] M n (tQi n (fun _ M' => MF M' D ∧ MC M M')) := by
    intro a b v hv hv0
    refine tb_X12_solve_90 (c := false) ?_
    simp only [kb_X12_solve_90, w_iv1, tfr_0, tfr_1, tfr_2, tfr_3, tfr_4, w_if_eq, w_ic, w_ire, trg, true_and, and_true, Nat.reduceAdd, Nat.reduceSub, eq_self, tshm_14, tshm_31, tshm_32, tykm_31, tykm_32, tci_15, tci_960, tykm_14, tci_14, tshm_667, tshm_668, tshm_669, tshm_670, tykm_33, tci_700, tsn_671, tyn_17, tcn_10, tzs_672, tzs_673, tzs_680, tzs_681, tzs_682, tzs_683, tzs_684, tzs_685, tzs_686, tzs_687, tzs_688, tzs_689, tzy_15, tzy_35, tzy_36, tzy_37, tzy_38, tzy_39, tzy_40, tzc_60, tzc_320, tzc_5, tzc_4, tzc_8]
    refine tc_i (D := 0) (fun d' hd' => o_fails (by omega)) (by omega) ?_
    rintro z M2 ⟨q2, rfl⟩
    try simp only [kb_X12_solve_90, w_iv1, tfr_0, tfr_1, tfr_2, tfr_3, tfr_4, w_if_eq, w_ic, w_ire, trg, true_and, and_true, Nat.reduceAdd, Nat.reduceSub, eq_self, tshm_14, tshm_31, tshm_32, tykm_31, tykm_32, tci_15, tci_960, tykm_14, tci_14, tshm_667, tshm_668, tshm_669, tshm_670, tykm_33, tci_700, tsn_671, tyn_17, tcn_10, tzs_672, tzs_673, tzs_680, tzs_681, tzs_682, tzs_683, tzs_684, tzs_685, tzs_686, tzs_687, tzs_688, tzs_689, tzy_15, tzy_35, tzy_36, tzy_37, tzy_38, tzy_39, tzy_40, tzc_60, tzc_320, tzc_5, tzc_4, tzc_8]
    have h6 := MF_3 (v := v) hP
    refine ⟨by omega, fun q => ?_, fun q => ⟨by omega, 0, rfl, rfl, h6⟩⟩
    obtain ⟨g1, g2, g3⟩ := hv0 (by omega)
    subst g1
    exact n98 _ _ _ _ h6.1 h6.2 g2 g3
  have n33 : ∀ (fu : Nat) (a b k : Int), (a = 0 ∨ a = 1 ∧ (0 ≤ x1 ∧ x1 ≤ 9) ∧ (0 ≤ x2 ∧ x2 ≤ 4)) → (b = 0 ∨ b = 1) → (b = 1 → a = 1) → (0 ≤ k ∧ k ≤ 6) → 6 - k < (fu : Int) → tT e d 3711 33 [some (.inr (.inr (.inl 664))), some (.inl (x1)), some (.inl (x2)), some (.inl (x3)), some (.inl (a)), some (.inl (b)), some (.inl (k)), none, none] [] M n (tQi n (fun _ M' => MF M' D ∧ MC M M')) := by
    intro fu
    induction fu with
    | zero => intro a b k k1 k2 k3 k4 k5; exfalso; omega
    | succ fu ih =>
      intro a b k k1 k2 k3 k4 k5
      have hbr : 0 ≤ b ∧ b ≤ 1 := by omega
      have har : 0 ≤ a ∧ a ≤ 1 := by omega
      have n62 : ∀ v : Int, k < 6 → (v = 0 ∨ v = 1 ∧ a = 1) → tT e d 3711 62 [some (.inr (.inr (.inl 664))), some (.inl (x1)), some (.inl (x2)), some (.inl (x3)), some (.inl (a)), some (.inl (b)), some (.inl (k)), none, none] [.inl v] M n (tQi n (fun _ M' => MF M' D ∧ MC M M')) := by
        intro v hk hv
        refine tb_X12_solve_62 (c := false) ?_
        simp only [kb_X12_solve_62, w_ist5, tkl_n, tkl_i, tkl_l, tkl_r, w_inc6, w_goto, true_and, and_true, Nat.reduceAdd, Nat.reduceSub, eq_self]
        exact ih a v (k + 1) k1 (by omega) (by omega) (by omega) (by omega)
      have n61 : k < 6 → tT e d 3711 61 [some (.inr (.inr (.inl 664))), some (.inl (x1)), some (.inl (x2)), some (.inl (x3)), some (.inl (a)), some (.inl (b)), some (.inl (k)), none, none] [] M n (tQi n (fun _ M' => MF M' D ∧ MC M M')) := by
        intro hk
        refine tb_X12_solve_61 (c := false) ?_
        simp only [kb_X12_solve_61, w_ic, w_nil, true_and, and_true, Nat.reduceAdd, Nat.reduceSub, eq_self]
        exact n62 0 hk (Or.inl rfl)
      have hh : b ≠ 0 → k < 6 → (0 ≤ x2 ∧ x2 ≤ 4) ∧ 0 ≤ M 671 (x2 + k) ∧ M 671 (x2 + k) ≤ 1 := by
        intro g1 g2
        have : 0 ≤ x2 ∧ x2 ≤ 4 := by omega
        exact ⟨this, hP.1.2.1.2.2 (x2 + k) (by omega) (by omega)⟩
      refine tb_X12_solve_33 (c := false) ?_
      simp only [kb_X12_solve_33, w_ild6, w_bi, w_ic_ge, w_ild5, w_if_eq, w_ald_0, w_gf_14_10, tw_f, w_ild_2, w_iadd, w_ba, w_ic, w_goto, true_and, and_true, Nat.reduceAdd, Nat.reduceSub, eq_self, tshm_14, tshm_31, tshm_32, tykm_31, tykm_32, tci_15, tci_960, tykm_14, tci_14, tshm_667, tshm_668, tshm_669, tshm_670, tykm_33, tci_700, tsn_671, tyn_17, tcn_10, tzs_672, tzs_673, tzs_680, tzs_681, tzs_682, tzs_683, tzs_684, tzs_685, tzs_686, tzs_687, tzs_688, tzs_689, tzy_15, tzy_35, tzy_36, tzy_37, tzy_38, tzy_39, tzy_40, tzc_60, tzc_320, tzc_5, tzc_4, tzc_8]
      refine ⟨by omega, fun q => ?_, fun q => ⟨by omega, fun q => n61 (by omega), fun q => ?_⟩⟩
      · have e6 : k = 6 := by omega
        subst e6
        refine tb_X12_solve_70 (c := false) ?_
        simp only [kb_X12_solve_70, w_ald_0, w_ild4, w_if_ne, w_ic, w_goto, true_and, and_true, Nat.reduceAdd, Nat.reduceSub, eq_self]
        refine ⟨by omega, fun q => ?_, fun q => n90 _ _ 1 (by omega) (fun q => absurd q (by decide))⟩
        refine tb_X12_solve_80 (c := false) ?_
        simp only [kb_X12_solve_80, w_ild5, w_if_ne, w_ic, w_goto, true_and, and_true, Nat.reduceAdd, Nat.reduceSub, eq_self]
        refine ⟨by omega, fun q => ?_, fun q => n90 _ _ 2 (by omega) (fun q => absurd q (by decide))⟩
        refine tb_X12_solve_89 (c := false) ?_
        simp only [kb_X12_solve_89, w_ic, w_nil, true_and, and_true, Nat.reduceAdd, Nat.reduceSub, eq_self]
        exact n90 _ _ 0 (by omega) (fun _ => by omega)
      · have hh := hh q (by omega)
        refine ⟨by omega, by omega, fun q => n61 (by omega), fun q => n62 1 (by omega) (Or.inr ⟨rfl, by omega⟩)⟩
  have n24 : ∀ v : Int, (v = 0 ∨ v = 1 ∧ (0 ≤ x1 ∧ x1 ≤ 9) ∧ (0 ≤ x2 ∧ x2 ≤ 4)) → tT e d 3711 24 [some (.inr (.inr (.inl 664))), some (.inl (x1)), some (.inl (x2)), some (.inl (x3)), none, none, none, none, none] [.inl v] M n (tQi n (fun _ M' => MF M' D ∧ MC M M')) := by
    intro v hv
    refine tb_X12_solve_24 (c := false) ?_
    simp only [kb_X12_solve_24, w_ist4, tkl_n, tkl_i, tkl_l, tkl_r, w_ild4, w_ist5, w_ic, w_ist6, w_nil, true_and, and_true, Nat.reduceAdd, Nat.reduceSub, eq_self]
    exact n33 7 v v 0 hv (by omega) (fun q => q) (by omega) (by omega)
  have n23 : tT e d 3711 23 [some (.inr (.inr (.inl 664))), some (.inl (x1)), some (.inl (x2)), some (.inl (x3)), none, none, none, none, none] [] M n (tQi n (fun _ M' => MF M' D ∧ MC M M')) := by
    refine tb_X12_solve_23 (c := false) ?_
    simp only [kb_X12_solve_23, w_ic, w_nil, true_and, and_true, Nat.reduceAdd, Nat.reduceSub, eq_self]
    exact n24 0 (Or.inl rfl)
  refine tb_X12_solve_0 (c := false) ?_
  simp only [kb_X12_solve_0, w_ild_1, w_is1, tfr_0, tfr_1, tfr_2, tfr_3, tfr_4, w_if_eq, w_ild_2, w_i2l, w_lc0, w_ld2, w_is3, w_ic, w_goto, true_and, and_true, Nat.reduceAdd, Nat.reduceSub, eq_self]
  refine tc_i (D := 1) (fun d' hd' => o_isShelf h1 hd') (by omega) ?_
  rintro z1 M1 ⟨q1, rfl⟩
  try simp only [kb_X12_solve_0, w_ild_1, w_is1, tfr_0, tfr_1, tfr_2, tfr_3, tfr_4, w_if_eq, w_ild_2, w_i2l, w_lc0, w_ld2, w_is3, w_ic, w_goto, true_and, and_true, Nat.reduceAdd, Nat.reduceSub, eq_self]
  refine ⟨by omega, fun q => n23, fun q => ⟨by omega, ?_⟩⟩
  refine tc_i (D := 0) (fun d' hd' => c_in (by omega) (by omega) (by omega)) (by omega) ?_
  rintro z3 M3 ⟨q3, rfl⟩
  try simp only [kb_X12_solve_0, w_ild_1, w_is1, tfr_0, tfr_1, tfr_2, tfr_3, tfr_4, w_if_eq, w_ild_2, w_i2l, w_lc0, w_ld2, w_is3, w_ic, w_goto, true_and, and_true, Nat.reduceAdd, Nat.reduceSub, eq_self]
  exact ⟨by omega, fun q => n23, fun q => n24 1 (Or.inr ⟨rfl, by omega, by omega⟩)⟩
end MODEL
