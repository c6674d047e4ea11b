
/-! THE LAW: setDigits and solve. -/
section LAW
variable {e : tE} {d n : Nat} {M : tM} {i : Int} {a b : Option tV} {Q : tR → tM → Nat → Prop}
theorem tc_sd {x1 : Int} {mi : Nat} {o : bO} {rest : List tV} {L : tL} {k : tL → List tV → tM → Nat → Prop} (hC : CK M) (h1 : -2147483648 ≤ x1 ∧ x1 ≤ 2147483647) (hd : 5 ≤ d) (hk : ∀ z M' n', (((0 ≤ x1 ∧ x1 ≤ 10) ∧ z = 0 ∧ n' = n ∧ CK M' ∧ M' 0 0 = x1 ∧ M' 690 0 = M 0 0 ∧ ∀ (k : Nat) (i : Int), 664 ≤ k → k ≠ 690 → M' k i = M k i) ∨ (¬ (0 ≤ x1 ∧ x1 ≤ 10) ∧ z = 1 ∧ n' = n + 1 ∧ M' = M)) → k L (.inl z :: rest) M' n') : tcall e d mi 3867 o [.inr (.inr (.inl 0)), .inl x1, .inr (.inr (.inl 690))] rest L M n Q k := by
  refine ⟨d - 1, by omega, _, lw_setDigits hC h1 (by omega), ?_, ?_⟩
  · rintro v M' n' (⟨hr, q, h⟩ | ⟨hr, q, h⟩)
    · cases q
      exact hk 0 M' n' (Or.inl ⟨hr, rfl, h⟩)
    · cases q
      exact hk 1 M' n' (Or.inr ⟨hr, rfl, h⟩)
  · rintro v M' n' (⟨hr, q, h⟩ | ⟨hr, q, h⟩)
    · cases q
    · cases q
theorem lc_224 (he : EK e) (hl : i + 6 ≤ ((txl e 1 : Nat) : Int)) (hI : LI M n i) (hd : 300 ≤ d) (k : ∀ a' b' M' n', LI M' n' (i + 6) → tT e d 3853 2015 [some (.inr (.inr (.inr 1))), some (.inr (.inr (.inl 0))), some (.inr (.inr (.inl 664))), some (.inr (.inr (.inl 690))), some (.inl i), a', b'] [] M' n' Q) : tT e d 3853 224 [some (.inr (.inr (.inr 1))), some (.inr (.inr (.inl 0))), some (.inr (.inr (.inl 664))), some (.inr (.inr (.inl 690))), some (.inl i), a, b] [] M n Q := by
  obtain ⟨c0, ⟨D, hF, hD⟩, hn⟩ := hI
  have hz := d00 c0.1
  refine tb_L_law_224 (c := false) ?_
  simp only [kb_L_law_224, w_ald_1, w_ald_0, w_ild4, w_ic, w_iadd, w_ia, w_iax, w_ald_3, w_is3, tfr_0, tfr_1, tfr_2, tfr_3, tfr_4, w_ist5, tkl_n, tkl_i, tkl_l, tkl_r, w_ald_2, w_iv1, w_ist6, w_goto, true_and, and_true, Nat.reduceAdd, Nat.reduceSub, eq_self, tshm_14, tshm_31, tshm_32, tykm_31, tykm_32, tci_15, tci_960, tykm_14, tci_14, tshm_667, tshm_668, tshm_669, tshm_670, tykm_33, tci_700, tsn_671, tyn_17, tcn_10, tzs_672, tzs_673, tzs_680, tzs_681, tzs_682, tzs_683, tzs_684, tzs_685, tzs_686, tzs_687, tzs_688, tzs_689, tzy_15, tzy_35, tzy_36, tzy_37, tzy_38, tzy_39, tzy_40, tzc_60, tzc_320, tzc_5, tzc_4, tzc_8]
  refine ⟨by decide, by first | rfl | decide, by omega, ?_⟩
  refine tc_sd c0 (rgi e _) (by omega) ?_
  have hx := rgj e (i + 1)
  generalize hy : txv e 1 (i + 1) = x at hx ⊢
  rintro z1 M1 n1 (⟨hr, rfl, rfl, c1, g0, g9, w1⟩ | ⟨hr, rfl, rfl, rfl⟩)
  · try simp only [kb_L_law_224, w_ald_1, w_ald_0, w_ild4, w_ic, w_iadd, w_ia, w_iax, w_ald_3, w_is3, tfr_0, tfr_1, tfr_2, tfr_3, tfr_4, w_ist5, tkl_n, tkl_i, tkl_l, tkl_r, w_ald_2, w_iv1, w_ist6, w_goto, true_and, and_true, Nat.reduceAdd, Nat.reduceSub, eq_self, tshm_14, tshm_31, tshm_32, tykm_31, tykm_32, tci_15, tci_960, tykm_14, tci_14, tshm_667, tshm_668, tshm_669, tshm_670, tykm_33, tci_700, tsn_671, tyn_17, tcn_10, tzs_672, tzs_673, tzs_680, tzs_681, tzs_682, tzs_683, tzs_684, tzs_685, tzs_686, tzs_687, tzs_688, tzs_689, tzy_15, tzy_35, tzy_36, tzy_37, tzy_38, tzy_39, tzy_40, tzc_60, tzc_320, tzc_5, tzc_4, tzc_8]
    refine ⟨by decide, by first | rfl | decide, by omega, ?_⟩
    have hF1 : MF M1 D := ⟨MP_same (fun k i q => w1 k i (by omega) (by omega)) hF.1, TX_same (fun k i q => w1 k i (by omega) (by omega)) hF.2.1, FI_same (fun k i q => w1 k i (by omega) (by omega)) hF.2.2.1, PJ_same (fun k i q => w1 k i (by omega) (by omega)) hF.2.2.2⟩
    rw [hy]
    refine tc_i (D := 1) (fun d' hd' => o_setDigits hF1.1 hx hd') (by omega) ?_
    rintro z2 M2 ⟨⟨_, rfl, t3, p2⟩ | ⟨q, _⟩, w2⟩
    · try simp only [kb_L_law_224, w_ald_1, w_ald_0, w_ild4, w_ic, w_iadd, w_ia, w_iax, w_ald_3, w_is3, tfr_0, tfr_1, tfr_2, tfr_3, tfr_4, w_ist5, tkl_n, tkl_i, tkl_l, tkl_r, w_ald_2, w_iv1, w_ist6, w_goto, true_and, and_true, Nat.reduceAdd, Nat.reduceSub, eq_self, tshm_14, tshm_31, tshm_32, tykm_31, tykm_32, tci_15, tci_960, tykm_14, tci_14, tshm_667, tshm_668, tshm_669, tshm_670, tykm_33, tci_700, tsn_671, tyn_17, tcn_10, tzs_672, tzs_673, tzs_680, tzs_681, tzs_682, tzs_683, tzs_684, tzs_685, tzs_686, tzs_687, tzs_688, tzs_689, tzy_15, tzy_35, tzy_36, tzy_37, tzy_38, tzy_39, tzy_40, tzc_60, tzc_320, tzc_5, tzc_4, tzc_8]
      have m2 : MC M1 M2 := fun k i q => w2 k i (by omega)
      have hI3 : LI M2 n1 (i + 6) := ⟨CK_mc c1 m2, ⟨x.toNat, ⟨p2, TX_same (fun k i q => w2 k i (by omega)) hF1.2.1, FI_same (fun k i q => w2 k i (by omega)) hF1.2.2.1, PJ_same (fun k i q => w2 k i (by omega)) hF1.2.2.2⟩, by rw [w2 0 0 (by omega), g0]; omega⟩, by omega⟩
      exact k _ _ _ _ hI3
    · exact absurd hr q
  · try simp only [kb_L_law_224, w_ald_1, w_ald_0, w_ild4, w_ic, w_iadd, w_ia, w_iax, w_ald_3, w_is3, tfr_0, tfr_1, tfr_2, tfr_3, tfr_4, w_ist5, tkl_n, tkl_i, tkl_l, tkl_r, w_ald_2, w_iv1, w_ist6, w_goto, true_and, and_true, Nat.reduceAdd, Nat.reduceSub, eq_self, tshm_14, tshm_31, tshm_32, tykm_31, tykm_32, tci_15, tci_960, tykm_14, tci_14, tshm_667, tshm_668, tshm_669, tshm_670, tykm_33, tci_700, tsn_671, tyn_17, tcn_10, tzs_672, tzs_673, tzs_680, tzs_681, tzs_682, tzs_683, tzs_684, tzs_685, tzs_686, tzs_687, tzs_688, tzs_689, tzy_15, tzy_35, tzy_36, tzy_37, tzy_38, tzy_39, tzy_40, tzc_60, tzc_320, tzc_5, tzc_4, tzc_8]
    refine ⟨by decide, by first | rfl | decide, by omega, ?_⟩
    rw [hy]
    refine tc_i (D := 1) (fun d' hd' => o_setDigits hF.1 hx hd') (by omega) ?_
    rintro z2 M2 ⟨⟨q, _⟩ | ⟨_, rfl, t3, p2⟩, w2⟩
    · exact absurd q hr
    · try simp only [kb_L_law_224, w_ald_1, w_ald_0, w_ild4, w_ic, w_iadd, w_ia, w_iax, w_ald_3, w_is3, tfr_0, tfr_1, tfr_2, tfr_3, tfr_4, w_ist5, tkl_n, tkl_i, tkl_l, tkl_r, w_ald_2, w_iv1, w_ist6, w_goto, true_and, and_true, Nat.reduceAdd, Nat.reduceSub, eq_self, tshm_14, tshm_31, tshm_32, tykm_31, tykm_32, tci_15, tci_960, tykm_14, tci_14, tshm_667, tshm_668, tshm_669, tshm_670, tykm_33, tci_700, tsn_671, tyn_17, tcn_10, tzs_672, tzs_673, tzs_680, tzs_681, tzs_682, tzs_683, tzs_684, tzs_685, tzs_686, tzs_687, tzs_688, tzs_689, tzy_15, tzy_35, tzy_36, tzy_37, tzy_38, tzy_39, tzy_40, tzc_60, tzc_320, tzc_5, tzc_4, tzc_8]
      have m2 : MC M1 M2 := fun k i q => w2 k i (by omega)
      have hI3 : LI M2 (n + 1) (i + 6) := ⟨CK_mc c0 m2, ⟨D, ⟨p2, TX_same (fun k i q => w2 k i (by omega)) hF.2.1, FI_same (fun k i q => w2 k i (by omega)) hF.2.2.1, PJ_same (fun k i q => w2 k i (by omega)) hF.2.2.2⟩, by rw [w2 0 0 (by omega), hD]⟩, by omega⟩
      exact k _ _ _ _ hI3
theorem lc_2002 (he : EK e) (hl : i + 6 ≤ ((txl e 1 : Nat) : Int)) (hI : LI M n i) (hd : 300 ≤ d) (k : ∀ a' b' M' n', LI M' n' (i + 6) → tT e d 3853 2015 [some (.inr (.inr (.inr 1))), some (.inr (.inr (.inl 0))), some (.inr (.inr (.inl 664))), some (.inr (.inr (.inl 690))), some (.inl i), a', b'] [] M' n' Q) : tT e d 3853 2002 [some (.inr (.inr (.inr 1))), some (.inr (.inr (.inl 0))), some (.inr (.inr (.inl 664))), some (.inr (.inr (.inl 690))), some (.inl i), a, b] [] M n Q := by
  obtain ⟨c0, ⟨D, hF, hD⟩, hn⟩ := hI
  refine tb_L_law_2002 (c := false) ?_
  simp only [kb_L_law_2002, w_ald_1, w_iv0, tfr_0, tfr_1, tfr_2, tfr_3, tfr_4, w_ald_2, w_ic_eq, w_ic, w_ire, trg, true_and, and_true, Nat.reduceAdd, Nat.reduceSub, eq_self, tshm_14, tshm_31, tshm_32, tykm_31, tykm_32, tci_15, tci_960, tykm_14, tci_14, tshm_667, tshm_668, tshm_669, tshm_670, tykm_33, tci_700, tsn_671, tyn_17, tcn_10, tzs_672, tzs_673, tzs_680, tzs_681, tzs_682, tzs_683, tzs_684, tzs_685, tzs_686, tzs_687, tzs_688, tzs_689, tzy_15, tzy_35, tzy_36, tzy_37, tzy_38, tzy_39, tzy_40, tzc_60, tzc_320, tzc_5, tzc_4, tzc_8, sh0a, sh0b]
  refine tc_i (D := 10) (fun d' hd' => v_isSound he.2.1 c0.2 c0.1 hd') (by omega) ?_
  rintro z1 M1 ⟨rfl, k1⟩
  have w1 := WE_p k1.1.2
  have h1 : n ≤ n ∧ n ≤ n + 1 := by omega
  try simp only [kb_L_law_2002, w_ald_1, w_iv0, tfr_0, tfr_1, tfr_2, tfr_3, tfr_4, w_ald_2, w_ic_eq, w_ic, w_ire, trg, true_and, and_true, Nat.reduceAdd, Nat.reduceSub, eq_self, tshm_14, tshm_31, tshm_32, tykm_31, tykm_32, tci_15, tci_960, tykm_14, tci_14, tshm_667, tshm_668, tshm_669, tshm_670, tykm_33, tci_700, tsn_671, tyn_17, tcn_10, tzs_672, tzs_673, tzs_680, tzs_681, tzs_682, tzs_683, tzs_684, tzs_685, tzs_686, tzs_687, tzs_688, tzs_689, tzy_15, tzy_35, tzy_36, tzy_37, tzy_38, tzy_39, tzy_40, tzc_60, tzc_320, tzc_5, tzc_4, tzc_8, sh0a, sh0b]
  refine tc_i (D := 0) (fun d' hd' => o_isSound (MF_we hF w1)) (by omega) ?_
  rintro z2 M2 ⟨rfl, f2, m2⟩
  try simp only [kb_L_law_2002, w_ald_1, w_iv0, tfr_0, tfr_1, tfr_2, tfr_3, tfr_4, w_ald_2, w_ic_eq, w_ic, w_ire, trg, true_and, and_true, Nat.reduceAdd, Nat.reduceSub, eq_self, tshm_14, tshm_31, tshm_32, tykm_31, tykm_32, tci_15, tci_960, tykm_14, tci_14, tshm_667, tshm_668, tshm_669, tshm_670, tykm_33, tci_700, tsn_671, tyn_17, tcn_10, tzs_672, tzs_673, tzs_680, tzs_681, tzs_682, tzs_683, tzs_684, tzs_685, tzs_686, tzs_687, tzs_688, tzs_689, tzy_15, tzy_35, tzy_36, tzy_37, tzy_38, tzy_39, tzy_40, tzc_60, tzc_320, tzc_5, tzc_4, tzc_8, sh0a, sh0b]
  repeat refine And.intro (by omega) ?_
  exact ⟨fun _ => k _ _ M2 n (LI_mk hn hD h1 (CK_ka k1) w1 f2 m2), fun q => absurd trivial q⟩
end LAW
