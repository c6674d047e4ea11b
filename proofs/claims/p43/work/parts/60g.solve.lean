
/-! THE LAW: solve. -/
section LAW
variable {e : tE} {d n : Nat} {M : tM} {i : Int} {a b : Option tV} {Q : tR → tM → Nat → Prop}
theorem lc_1168 (he : EK e) (hl : i + 6 ≤ ((txl e 1 : Nat) : Int)) (hI : LI M n i) (hd : 300 ≤ d) (k : ∀ a' b' M' n', LI M' n' (i + 6) → tT e d 3853 2015 [some (.inr (.inr (.inr 1))), some (.inr (.inr (.inl 0))), some (.inr (.inr (.inl 664))), some (.inr (.inr (.inl 690))), some (.inl i), a', b'] [] M' n' Q) : tT e d 3853 1168 [some (.inr (.inr (.inr 1))), some (.inr (.inr (.inl 0))), some (.inr (.inr (.inl 664))), some (.inr (.inr (.inl 690))), some (.inl i), a, b] [] M n Q := by
  obtain ⟨c0, ⟨D, hF, hD⟩, hn⟩ := hI
  have m1228 : ∀ (y x1 x2 v : Int) M1 n1 , (n ≤ n1 ∧ n1 ≤ n + 1) → CK M1 → WE M M1 → (-2147483648 ≤ x1 ∧ x1 < 2147483648) → (-2147483648 ≤ x2 ∧ x2 < 2147483648) → (v = 0 ∨ v = 1) → tT e d 3853 1228 [some (.inr (.inr (.inr 1))), some (.inr (.inr (.inl 0))), some (.inr (.inr (.inl 664))), some (.inr (.inr (.inl 690))), some (.inl i), some (.inl y), b] [.inl v, .inl x2, .inl x1, .inr (.inr (.inl 664))] M1 n1 Q := by
    intro y x1 x2 v M1 n1 h1 c1 w1 hx1 hx2 hv
    refine tb_L_law_1228 (c := false) ?_
    simp only [kb_L_law_1228, w_iv3, tfr_0, tfr_1, tfr_2, tfr_3, tfr_4, w_ist6, tkl_n, tkl_i, tkl_l, tkl_r, w_goto, true_and, and_true, Nat.reduceAdd, Nat.reduceSub, eq_self, tshm_14, tshm_31, tshm_32, tykm_31, tykm_32, tci_15, tci_960, tykm_14, tci_14, tshm_667, tshm_668, tshm_669, tshm_670, tykm_33, tci_700, tsn_671, tyn_17, tcn_10, tzs_672, tzs_673, tzs_680, tzs_681, tzs_682, tzs_683, tzs_684, tzs_685, tzs_686, tzs_687, tzs_688, tzs_689, tzy_15, tzy_35, tzy_36, tzy_37, tzy_38, tzy_39, tzy_40, tzc_60, tzc_320, tzc_5, tzc_4, tzc_8]
    refine tc_i (D := 10) (fun d' hd' => o_solve (MF_we hF w1) hx1 hx2 hv hd') (by omega) ?_
    rintro z2 M2 ⟨f2, m2⟩
    try simp only [kb_L_law_1228, w_iv3, tfr_0, tfr_1, tfr_2, tfr_3, tfr_4, w_ist6, tkl_n, tkl_i, tkl_l, tkl_r, w_goto, true_and, and_true, Nat.reduceAdd, Nat.reduceSub, eq_self, tshm_14, tshm_31, tshm_32, tykm_31, tykm_32, tci_15, tci_960, tykm_14, tci_14, tshm_667, tshm_668, tshm_669, tshm_670, tykm_33, tci_700, tsn_671, tyn_17, tcn_10, tzs_672, tzs_673, tzs_680, tzs_681, tzs_682, tzs_683, tzs_684, tzs_685, tzs_686, tzs_687, tzs_688, tzs_689, tzy_15, tzy_35, tzy_36, tzy_37, tzy_38, tzy_39, tzy_40, tzc_60, tzc_320, tzc_5, tzc_4, tzc_8]
    exact k _ _ M2 n1 (LI_mk hn hD h1 c1 w1 f2 m2)
  have m1195 : ∀ (v : Int), (0 ≤ v ∧ v ≤ 1) → tT e d 3853 1195 [some (.inr (.inr (.inr 1))), some (.inr (.inr (.inl 0))), some (.inr (.inr (.inl 664))), some (.inr (.inr (.inl 690))), some (.inl i), a, b] [.inl v, .inl (txv e 1 (i + 2)), .inl (txv e 1 (i + 1)), .inr (.inr (.inl 0))] M n Q := by
    intro v hv
    refine tb_L_law_1195 (c := false) ?_
    simp only [kb_L_law_1195, w_ald_3, w_is5, tfr_0, tfr_1, tfr_2, tfr_3, tfr_4, w_ist5, tkl_n, tkl_i, tkl_l, tkl_r, w_ald_2, w_ald_0, w_ild4, w_ic, w_iadd, w_ia, w_iax, w_if_eq, w_goto, true_and, and_true, Nat.reduceAdd, Nat.reduceSub, eq_self, tshm_14, tshm_31, tshm_32, tykm_31, tykm_32, tci_15, tci_960, tykm_14, tci_14, tshm_667, tshm_668, tshm_669, tshm_670, tykm_33, tci_700, tsn_671, tyn_17, tcn_10, tzs_672, tzs_673, tzs_680, tzs_681, tzs_682, tzs_683, tzs_684, tzs_685, tzs_686, tzs_687, tzs_688, tzs_689, tzy_15, tzy_35, tzy_36, tzy_37, tzy_38, tzy_39, tzy_40, tzc_60, tzc_320, tzc_5, tzc_4, tzc_8]
    refine tc_w (D := 12) (fun d' hd' => lw_solve c0 he (rgi e _) (rgi e _) hv hd') (by omega) ?_
    intro z1 M1 n1 h1 c1 w1
    try simp only [kb_L_law_1195, w_ald_3, w_is5, tfr_0, tfr_1, tfr_2, tfr_3, tfr_4, w_ist5, tkl_n, tkl_i, tkl_l, tkl_r, w_ald_2, w_ald_0, w_ild4, w_ic, w_iadd, w_ia, w_iax, w_if_eq, w_goto, true_and, and_true, Nat.reduceAdd, Nat.reduceSub, eq_self, tshm_14, tshm_31, tshm_32, tykm_31, tykm_32, tci_15, tci_960, tykm_14, tci_14, tshm_667, tshm_668, tshm_669, tshm_670, tykm_33, tci_700, tsn_671, tyn_17, tcn_10, tzs_672, tzs_673, tzs_680, tzs_681, tzs_682, tzs_683, tzs_684, tzs_685, tzs_686, tzs_687, tzs_688, tzs_689, tzy_15, tzy_35, tzy_36, tzy_37, tzy_38, tzy_39, tzy_40, tzc_60, tzc_320, tzc_5, tzc_4, tzc_8]
    refine ⟨by decide, by first | rfl | decide, by omega, ?_⟩
    refine ⟨by decide, by first | rfl | decide, by omega, ?_⟩
    refine ⟨by decide, by first | rfl | decide, by omega, ?_⟩
    refine ⟨rgj e _, fun q => ?_, fun q => ?_⟩
    · refine tb_L_law_1227 (c := false) ?_
      simp only [kb_L_law_1227, w_ic, w_nil, true_and, and_true, Nat.reduceAdd, Nat.reduceSub, eq_self]
      exact m1228 _ _ _ 0 _ _ h1 c1 w1 (rgj e _) (rgj e _) (Or.inl rfl)
    · exact m1228 _ _ _ 1 _ _ h1 c1 w1 (rgj e _) (rgj e _) (Or.inr rfl)
  refine tb_L_law_1168 (c := false) ?_
  simp only [kb_L_law_1168, w_ald_1, w_ald_0, w_ild4, w_ic, w_iadd, w_ia, w_iax, w_if_eq, w_goto, true_and, and_true, Nat.reduceAdd, Nat.reduceSub, eq_self, tshm_14, tshm_31, tshm_32, tykm_31, tykm_32, tci_15, tci_960, tykm_14, tci_14, tshm_667, tshm_668, tshm_669, tshm_670, tykm_33, tci_700, tsn_671, tyn_17, tcn_10, tzs_672, tzs_673, tzs_680, tzs_681, tzs_682, tzs_683, tzs_684, tzs_685, tzs_686, tzs_687, tzs_688, tzs_689, tzy_15, tzy_35, tzy_36, tzy_37, tzy_38, tzy_39, tzy_40, tzc_60, tzc_320, tzc_5, tzc_4, tzc_8]
  refine ⟨by decide, by first | rfl | decide, by omega, ?_⟩
  refine ⟨by decide, by first | rfl | decide, by omega, ?_⟩
  refine ⟨by decide, by first | rfl | decide, by omega, ?_⟩
  refine ⟨rgj e _, fun q => ?_, fun q => ?_⟩
  · refine tb_L_law_1194 (c := false) ?_
    simp only [kb_L_law_1194, w_ic, w_nil, true_and, and_true, Nat.reduceAdd, Nat.reduceSub, eq_self]
    exact m1195 0 (by decide)
  · exact m1195 1 (by decide)
end LAW
