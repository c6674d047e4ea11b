
/-! THE LAW: setDigits and solve. -/
section LAW
variable {e : tE} {d n : Nat} {M : tM} {i : Int} {a b : Option tV} {Q : tR → tM → Nat → Prop}
theorem tc_sd {x1 : Int} {mi : Nat} {o : bO} {rest : List tV} {L : tL} {k : tL → List tV → tM → Nat → Prop} (hC : CI M) (h1 : -2147483648 ≤ x1 ∧ x1 ≤ 2147483647) (hd : 5 ≤ d) (hk : ∀ z M' n', (((0 ≤ x1 ∧ x1 ≤ 10) ∧ z = 0 ∧ n' = n ∧ (CI M' ∧ UN M') ∧ M' 0 0 = x1 ∧ M' 690 0 = M 0 0 ∧ ∀ (k : Nat) (i : Int), 664 ≤ k → k ≠ 690 → M' k i = M k i) ∨ (¬ (0 ≤ x1 ∧ x1 ≤ 10) ∧ z = 1 ∧ n' = n + 1 ∧ M' = M)) → k L (.inl z :: rest) M' n') : tcall e d mi 3867 o [.inr (.inr (.inl 0)), .inl x1, .inr (.inr (.inl 690))] rest L M n Q k := by
  refine ⟨d - 1, by omega, _, lw_setDigits hC h1 (by omega), ?_, ?_⟩
  · rintro v M' n' (⟨hr, q, h⟩ | ⟨hr, q, h⟩)
    · cases q
      exact hk 0 M' n' (Or.inl ⟨hr, rfl, h⟩)
    · cases q
      exact hk 1 M' n' (Or.inr ⟨hr, rfl, h⟩)
  · rintro v M' n' (⟨hr, q, h⟩ | ⟨hr, q, h⟩)
    · cases q
    · cases q
theorem lc_224 (he : EO e) (hl : i + 6 ≤ ((txl e 1 : Nat) : Int)) (hI : LI M n i) (hd : 300 ≤ d) (k : ∀ a' b' M' n', LI M' n' (i + 6) → tT e d 3853 2050 [some (.inr (.inr (.inr 1))), some (.inr (.inr (.inl 0))), some (.inr (.inr (.inl 664))), some (.inr (.inr (.inl 690))), some (.inl i), a', b'] [] M' n' Q) : tT e d 3853 224 [some (.inr (.inr (.inr 1))), some (.inr (.inr (.inl 0))), some (.inr (.inr (.inl 664))), some (.inr (.inr (.inl 690))), some (.inl i), a, b] [] M n Q := by
  obtain ⟨c0, ⟨D, hF, hD⟩, hn⟩ := hI
  have hz := d00 c0
  refine tb_L_law_224 (c := false) ?_
  simp only [kb_L_law_224, w_ald_1, w_ald_0, w_ild4, w_ic, w_iadd, w_ia, w_iax, w_ald_3, w_is3, tfr_0, tfr_1, tfr_2, tfr_3, tfr_4, w_ist5, tkl_n, tkl_i, tkl_l, tkl_r, w_ald_2, w_iv1, w_ist6, w_goto, true_and, and_true, Nat.reduceAdd, Nat.reduceSub, eq_self, tshm_14, tshm_31, tshm_32, tykm_31, tykm_32, tci_15, tci_960, tykm_14, tci_14, tshm_667, tshm_668, tshm_669, tshm_670, tykm_33, tci_700, tsn_671, tyn_17, tcn_10, tzs_672, tzs_673, tzs_680, tzs_681, tzs_682, tzs_683, tzs_684, tzs_685, tzs_686, tzs_687, tzs_688, tzs_689, tzy_15, tzy_35, tzy_36, tzy_37, tzy_38, tzy_39, tzy_40, tzc_60, tzc_320, tzc_5, tzc_4, tzc_8]
  refine ⟨by decide, by first | rfl | decide, by omega, ?_⟩
  refine tc_sd c0 (rgi e _) (by omega) ?_
  have hx := rgj e (i + 1)
  generalize hy : txv e 1 (i + 1) = x at hx ⊢
  rintro z1 M1 n1 (⟨hr, rfl, rfl, c1, g0, g9, w1⟩ | ⟨hr, rfl, rfl, rfl⟩)
  · try simp only [kb_L_law_224, w_ald_1, w_ald_0, w_ild4, w_ic, w_iadd, w_ia, w_iax, w_ald_3, w_is3, tfr_0, tfr_1, tfr_2, tfr_3, tfr_4, w_ist5, tkl_n, tkl_i, tkl_l, tkl_r, w_ald_2, w_iv1, w_ist6, w_goto, true_and, and_true, Nat.reduceAdd, Nat.reduceSub, eq_self, tshm_14, tshm_31, tshm_32, tykm_31, tykm_32, tci_15, tci_960, tykm_14, tci_14, tshm_667, tshm_668, tshm_669, tshm_670, tykm_33, tci_700, tsn_671, tyn_17, tcn_10, tzs_672, tzs_673, tzs_680, tzs_681, tzs_682, tzs_683, tzs_684, tzs_685, tzs_686, tzs_687, tzs_688, tzs_689, tzy_15, tzy_35, tzy_36, tzy_37, tzy_38, tzy_39, tzy_40, tzc_60, tzc_320, tzc_5, tzc_4, tzc_8]
    refine ⟨by decide, by first | rfl | decide, by omega, ?_⟩
    have hF1 : MF M1 D := ⟨MP_same (fun k i q => w1 k i (by omega) (by omega)) hF.1, TX_same (fun k i q => w1 k i (by omega) (by omega)) hF.2.1, FI_same (fun k i q => w1 k i (by omega) (by omega)) hF.2.2.1, PJ_same (fun k i q => w1 k i (by omega) (by omega)) hF.2.2.2⟩
    rw [hy]
    refine tc_i (D := 1) (fun d' hd' => o_setDigits hF1.1 hx hd') (by omega) ?_
    rintro z2 M2 ⟨⟨_, rfl, t3, p2⟩ | ⟨q, _⟩, w2⟩
    · try simp only [kb_L_law_224, w_ald_1, w_ald_0, w_ild4, w_ic, w_iadd, w_ia, w_iax, w_ald_3, w_is3, tfr_0, tfr_1, tfr_2, tfr_3, tfr_4, w_ist5, tkl_n, tkl_i, tkl_l, tkl_r, w_ald_2, w_iv1, w_ist6, w_goto, true_and, and_true, Nat.reduceAdd, Nat.reduceSub, eq_self, tshm_14, tshm_31, tshm_32, tykm_31, tykm_32, tci_15, tci_960, tykm_14, tci_14, tshm_667, tshm_668, tshm_669, tshm_670, tykm_33, tci_700, tsn_671, tyn_17, tcn_10, tzs_672, tzs_673, tzs_680, tzs_681, tzs_682, tzs_683, tzs_684, tzs_685, tzs_686, tzs_687, tzs_688, tzs_689, tzy_15, tzy_35, tzy_36, tzy_37, tzy_38, tzy_39, tzy_40, tzc_60, tzc_320, tzc_5, tzc_4, tzc_8]
      have m2 : MC M1 M2 := fun k i q => w2 k i (by omega)
      have hI3 : LI M2 n1 (i + 6) := ⟨CI_mc c1.1 m2, ⟨x.toNat, ⟨p2, TX_same (fun k i q => w2 k i (by omega)) hF1.2.1, FI_same (fun k i q => w2 k i (by omega)) hF1.2.2.1, PJ_same (fun k i q => w2 k i (by omega)) hF1.2.2.2⟩, by rw [w2 0 0 (by omega), g0]; omega⟩, ⟨by omega, UN_mc c1.2 m2⟩⟩
      exact k _ _ _ _ hI3
    · exact absurd hr q
  · try simp only [kb_L_law_224, w_ald_1, w_ald_0, w_ild4, w_ic, w_iadd, w_ia, w_iax, w_ald_3, w_is3, tfr_0, tfr_1, tfr_2, tfr_3, tfr_4, w_ist5, tkl_n, tkl_i, tkl_l, tkl_r, w_ald_2, w_iv1, w_ist6, w_goto, true_and, and_true, Nat.reduceAdd, Nat.reduceSub, eq_self, tshm_14, tshm_31, tshm_32, tykm_31, tykm_32, tci_15, tci_960, tykm_14, tci_14, tshm_667, tshm_668, tshm_669, tshm_670, tykm_33, tci_700, tsn_671, tyn_17, tcn_10, tzs_672, tzs_673, tzs_680, tzs_681, tzs_682, tzs_683, tzs_684, tzs_685, tzs_686, tzs_687, tzs_688, tzs_689, tzy_15, tzy_35, tzy_36, tzy_37, tzy_38, tzy_39, tzy_40, tzc_60, tzc_320, tzc_5, tzc_4, tzc_8]
    refine ⟨by decide, by first | rfl | decide, by omega, ?_⟩
    rw [hy]
    refine tc_i (D := 1) (fun d' hd' => o_setDigits hF.1 hx hd') (by omega) ?_
    rintro z2 M2 ⟨⟨q, _⟩ | ⟨_, rfl, t3, p2⟩, w2⟩
    · exact absurd q hr
    · try simp only [kb_L_law_224, w_ald_1, w_ald_0, w_ild4, w_ic, w_iadd, w_ia, w_iax, w_ald_3, w_is3, tfr_0, tfr_1, tfr_2, tfr_3, tfr_4, w_ist5, tkl_n, tkl_i, tkl_l, tkl_r, w_ald_2, w_iv1, w_ist6, w_goto, true_and, and_true, Nat.reduceAdd, Nat.reduceSub, eq_self, tshm_14, tshm_31, tshm_32, tykm_31, tykm_32, tci_15, tci_960, tykm_14, tci_14, tshm_667, tshm_668, tshm_669, tshm_670, tykm_33, tci_700, tsn_671, tyn_17, tcn_10, tzs_672, tzs_673, tzs_680, tzs_681, tzs_682, tzs_683, tzs_684, tzs_685, tzs_686, tzs_687, tzs_688, tzs_689, tzy_15, tzy_35, tzy_36, tzy_37, tzy_38, tzy_39, tzy_40, tzc_60, tzc_320, tzc_5, tzc_4, tzc_8]
      have m2 : MC M1 M2 := fun k i q => w2 k i (by omega)
      have hI3 : LI M2 (n + 1) (i + 6) := ⟨CI_mc c0 m2, ⟨D, ⟨p2, TX_same (fun k i q => w2 k i (by omega)) hF.2.1, FI_same (fun k i q => w2 k i (by omega)) hF.2.2.1, PJ_same (fun k i q => w2 k i (by omega)) hF.2.2.2⟩, by rw [w2 0 0 (by omega), hD]⟩, ⟨by omega, UN_mc hn.2 m2⟩⟩
      exact k _ _ _ _ hI3
theorem lc_2037 (he : EO e) (hl : i + 6 ≤ ((txl e 1 : Nat) : Int)) (hI : LI M n i) (hd : 300 ≤ d) (k : ∀ a' b' M' n', LI M' n' (i + 6) → tT e d 3853 2050 [some (.inr (.inr (.inr 1))), some (.inr (.inr (.inl 0))), some (.inr (.inr (.inl 664))), some (.inr (.inr (.inl 690))), some (.inl i), a', b'] [] M' n' Q) : tT e d 3853 2037 [some (.inr (.inr (.inr 1))), some (.inr (.inr (.inl 0))), some (.inr (.inr (.inl 664))), some (.inr (.inr (.inl 690))), some (.inl i), a, b] [] M n Q := by
  obtain ⟨c0, ⟨D, hF, hD⟩, hn⟩ := hI
  refine tb_L_law_2037 (c := false) ?_
  simp only [kb_L_law_2037, w_ald_1, w_iv0, tfr_0, tfr_1, tfr_2, tfr_3, tfr_4, w_popi, w_popr, w_ald_2, w_goto, true_and, and_true, Nat.reduceAdd, Nat.reduceSub, eq_self, tshm_14, tshm_31, tshm_32, tykm_31, tykm_32, tci_15, tci_960, tykm_14, tci_14, tshm_667, tshm_668, tshm_669, tshm_670, tykm_33, tci_700, tsn_671, tyn_17, tcn_10, tzs_672, tzs_673, tzs_680, tzs_681, tzs_682, tzs_683, tzs_684, tzs_685, tzs_686, tzs_687, tzs_688, tzs_689, tzy_15, tzy_35, tzy_36, tzy_37, tzy_38, tzy_39, tzy_40, tzc_60, tzc_320, tzc_5, tzc_4, tzc_8, sh0a, sh0b]
  refine tq_i (b := 0) (D := 10) (fun d' hd' => q_isSound hn.2 he c0 hd') (by omega) ?_
  intro z1 M1 _ c1 w1
  have w1 := WE_p w1
  have h1 : n ≤ n ∧ n ≤ n + 1 := by omega
  try simp only [kb_L_law_2037, w_ald_1, w_iv0, tfr_0, tfr_1, tfr_2, tfr_3, tfr_4, w_popi, w_popr, w_ald_2, w_goto, true_and, and_true, Nat.reduceAdd, Nat.reduceSub, eq_self, tshm_14, tshm_31, tshm_32, tykm_31, tykm_32, tci_15, tci_960, tykm_14, tci_14, tshm_667, tshm_668, tshm_669, tshm_670, tykm_33, tci_700, tsn_671, tyn_17, tcn_10, tzs_672, tzs_673, tzs_680, tzs_681, tzs_682, tzs_683, tzs_684, tzs_685, tzs_686, tzs_687, tzs_688, tzs_689, tzy_15, tzy_35, tzy_36, tzy_37, tzy_38, tzy_39, tzy_40, tzc_60, tzc_320, tzc_5, tzc_4, tzc_8, sh0a, sh0b]
  refine tc_i (D := 0) (fun d' hd' => o_isSound (MF_we hF w1)) (by omega) ?_
  rintro z2 M2 ⟨_, f2, m2⟩
  try simp only [kb_L_law_2037, w_ald_1, w_iv0, tfr_0, tfr_1, tfr_2, tfr_3, tfr_4, w_popi, w_popr, w_ald_2, w_goto, true_and, and_true, Nat.reduceAdd, Nat.reduceSub, eq_self, tshm_14, tshm_31, tshm_32, tykm_31, tykm_32, tci_15, tci_960, tykm_14, tci_14, tshm_667, tshm_668, tshm_669, tshm_670, tykm_33, tci_700, tsn_671, tyn_17, tcn_10, tzs_672, tzs_673, tzs_680, tzs_681, tzs_682, tzs_683, tzs_684, tzs_685, tzs_686, tzs_687, tzs_688, tzs_689, tzy_15, tzy_35, tzy_36, tzy_37, tzy_38, tzy_39, tzy_40, tzc_60, tzc_320, tzc_5, tzc_4, tzc_8, sh0a, sh0b]
  exact k _ _ M2 n (LI_mk hn hD h1 c1 w1 f2 m2)
theorem OP_4 {D : Nat} {x1 X x3 z : Int} {M' : tM} (op : OP D x1 X x3 z M') (g1 : (0 ≤ x1 ∧ x1 ≤ 9) ∧ (0 ≤ x3 ∧ x3 ≤ 18)) (g2 : ¬ (FZ (nlo D x3.toNat X) ∨ FZ (nhi D x3.toNat X))) : (z = 1 ∧ nlo D x3.toNat X = nhi D x3.toNat X) ∨ (z = 0 ∧ ¬ nlo D x3.toNat X = nhi D x3.toNat X) := by
  rcases op with ⟨k1, _⟩ | ⟨⟨_, k1⟩, _⟩ | ⟨_, k2, _⟩ | ⟨_, _, _, k⟩
  · exact absurd g1.1 k1
  · exact absurd g1.2 k1
  · exact absurd k2 g2
  · exact k
theorem lc_336 (he : EO e) (hl : i + 6 ≤ ((txl e 1 : Nat) : Int)) (hI : LI M n i) (hd : 300 ≤ d) (k : ∀ a' b' M' n', LI M' n' (i + 6) → tT e d 3853 2050 [some (.inr (.inr (.inr 1))), some (.inr (.inr (.inl 0))), some (.inr (.inr (.inl 664))), some (.inr (.inr (.inl 690))), some (.inl i), a', b'] [] M' n' Q) : tT e d 3853 336 [some (.inr (.inr (.inr 1))), some (.inr (.inr (.inl 0))), some (.inr (.inr (.inl 664))), some (.inr (.inr (.inl 690))), some (.inl i), a, b] [] M n Q := by
  obtain ⟨c0, ⟨D, hF, hD⟩, hn⟩ := hI
  have hD10 : D ≤ 10 := hF.1.1.2.1
  have hu : M 78 5 = TT (10 - D) := by
    have h : M 78 5 = un (M 0 0) := hn.2
    rw [h, hD]
    show ((tn (10 - ((D : Nat) : Int).toNat) : Nat) : Int) = ((tn (10 - D) : Nat) : Int)
    rw [Int.toNat_natCast]
  have nd : ∀ x y M' n', LI M' n' (i + 6) → tT e d 3853 452 [some (.inr (.inr (.inr 1))), some (.inr (.inr (.inl 0))), some (.inr (.inr (.inl 664))), some (.inr (.inr (.inl 690))), some (.inl i), x, y] [] M' n' Q := by
    intro x y M' n' h
    refine tb_L_law_452 (c := false) ?_
    simp only [kb_L_law_452, w_goto, true_and, and_true, Nat.reduceAdd, Nat.reduceSub, eq_self]
    exact k _ _ _ _ h
  have na : ∀ (z : Int) y M' n', LI M' n' (i + 6) → (1 ≤ z ∧ z ≤ 3) → tT e d 3853 428 [some (.inr (.inr (.inr 1))), some (.inr (.inr (.inl 0))), some (.inr (.inr (.inl 664))), some (.inr (.inr (.inl 690))), some (.inl i), some (.inl z), y] [] M' n' Q := by
    intro z y M' n' h hz
    refine tb_L_law_428 (c := false) ?_
    simp only [kb_L_law_428, w_ild5, w_if_ne, w_ald_3, w_ic, w_la, w_lax, tw_f, w_ild6, w_if_eq, w_lc1, w_goto, true_and, and_true, Nat.reduceAdd, Nat.reduceSub, eq_self, tshm_14, tshm_31, tshm_32, tykm_31, tykm_32, tci_15, tci_960, tykm_14, tci_14, tshm_667, tshm_668, tshm_669, tshm_670, tykm_33, tci_700, tsn_671, tyn_17, tcn_10, tzs_672, tzs_673, tzs_680, tzs_681, tzs_682, tzs_683, tzs_684, tzs_685, tzs_686, tzs_687, tzs_688, tzs_689, tzy_15, tzy_35, tzy_36, tzy_37, tzy_38, tzy_39, tzy_40, tzc_60, tzc_320, tzc_5, tzc_4, tzc_8, tsw_690, tyw_41, tcw_1]
    exact ⟨by omega, fun _ => nd _ _ _ _ h, fun q => absurd (by omega) q⟩
  refine tb_L_law_336 (c := false) ?_
  simp only [kb_L_law_336, w_ald_1, w_ald_0, w_ild4, w_ic, w_iadd, w_ia, w_iax, w_i2l, w_bi, w_lshl, w_ld2, w_land, w_lor, w_ald_3, w_is5, tfr_0, tfr_1, tfr_2, tfr_3, tfr_4, w_ist5, tkl_n, tkl_i, tkl_l, tkl_r, w_ald_2, w_iv3, w_ist6, w_iv0, w_ild5, w_ic_eq, w_ire, trg, true_and, and_true, Nat.reduceAdd, Nat.reduceSub, eq_self, tshm_14, tshm_31, tshm_32, tykm_31, tykm_32, tci_15, tci_960, tykm_14, tci_14, tshm_667, tshm_668, tshm_669, tshm_670, tykm_33, tci_700, tsn_671, tyn_17, tcn_10, tzs_672, tzs_673, tzs_680, tzs_681, tzs_682, tzs_683, tzs_684, tzs_685, tzs_686, tzs_687, tzs_688, tzs_689, tzy_15, tzy_35, tzy_36, tzy_37, tzy_38, tzy_39, tzy_40, tzc_60, tzc_320, tzc_5, tzc_4, tzc_8]
  refine ⟨by decide, by first | rfl | decide, by omega, ?_⟩
  refine ⟨by decide, by first | rfl | decide, by omega, ?_⟩
  refine ⟨rgj e _, ?_⟩
  refine ⟨by first | exact Or.inl rfl | exact Or.inl trivial, ?_⟩
  refine ⟨by decide, by first | rfl | decide, by omega, ?_⟩
  refine ⟨rgj e _, ?_⟩
  refine ⟨by decide, by first | rfl | decide, by omega, ?_⟩
  refine tc_pt c0 hD10 hu (rgi e _) (rgl _) (rgi e _) (by omega) ?_
  intro z1 M1 n1 h1 c1 w1 hz
  try simp only [kb_L_law_336, w_ald_1, w_ald_0, w_ild4, w_ic, w_iadd, w_ia, w_iax, w_i2l, w_bi, w_lshl, w_ld2, w_land, w_lor, w_ald_3, w_is5, tfr_0, tfr_1, tfr_2, tfr_3, tfr_4, w_ist5, tkl_n, tkl_i, tkl_l, tkl_r, w_ald_2, w_iv3, w_ist6, w_iv0, w_ild5, w_ic_eq, w_ire, trg, true_and, and_true, Nat.reduceAdd, Nat.reduceSub, eq_self, tshm_14, tshm_31, tshm_32, tykm_31, tykm_32, tci_15, tci_960, tykm_14, tci_14, tshm_667, tshm_668, tshm_669, tshm_670, tykm_33, tci_700, tsn_671, tyn_17, tcn_10, tzs_672, tzs_673, tzs_680, tzs_681, tzs_682, tzs_683, tzs_684, tzs_685, tzs_686, tzs_687, tzs_688, tzs_689, tzy_15, tzy_35, tzy_36, tzy_37, tzy_38, tzy_39, tzy_40, tzc_60, tzc_320, tzc_5, tzc_4, tzc_8]
  refine ⟨by decide, by first | rfl | decide, by omega, ?_⟩
  refine ⟨by decide, by first | rfl | decide, by omega, ?_⟩
  refine ⟨rgj e _, ?_⟩
  refine ⟨by first | exact Or.inl rfl | exact Or.inl trivial, ?_⟩
  refine ⟨by decide, by first | rfl | decide, by omega, ?_⟩
  refine ⟨rgj e _, ?_⟩
  refine ⟨by decide, by first | rfl | decide, by omega, ?_⟩
  refine tc_i (D := 6) (fun d' hd' => o_put_x (MF_we hF w1) (rgj e _) (rgl _) (rgj e _) hd') (by omega) ?_
  rintro z2 M2 ⟨op, f2, m2⟩
  try simp only [kb_L_law_336, w_ald_1, w_ald_0, w_ild4, w_ic, w_iadd, w_ia, w_iax, w_i2l, w_bi, w_lshl, w_ld2, w_land, w_lor, w_ald_3, w_is5, tfr_0, tfr_1, tfr_2, tfr_3, tfr_4, w_ist5, tkl_n, tkl_i, tkl_l, tkl_r, w_ald_2, w_iv3, w_ist6, w_iv0, w_ild5, w_ic_eq, w_ire, trg, true_and, and_true, Nat.reduceAdd, Nat.reduceSub, eq_self, tshm_14, tshm_31, tshm_32, tykm_31, tykm_32, tci_15, tci_960, tykm_14, tci_14, tshm_667, tshm_668, tshm_669, tshm_670, tykm_33, tci_700, tsn_671, tyn_17, tcn_10, tzs_672, tzs_673, tzs_680, tzs_681, tzs_682, tzs_683, tzs_684, tzs_685, tzs_686, tzs_687, tzs_688, tzs_689, tzy_15, tzy_35, tzy_36, tzy_37, tzy_38, tzy_39, tzy_40, tzc_60, tzc_320, tzc_5, tzc_4, tzc_8]
  have hI3 := LI_mk hn hD h1 c1 w1 f2 m2
  have e9 : M2 690 0 = M1 690 0 := m2 690 0 (Or.inr rfl)
  have op2 := op
  unfold OP at op
  have hz4 : 0 ≤ z1 ∧ z1 ≤ 3 := by
    rcases hz with ⟨_, g⟩ | ⟨_, g⟩ | ⟨_, _, g⟩ | ⟨_, _, g, _⟩ <;> omega
  have t3 : M2 664 3 = z1 := by
    rcases hz with ⟨g1, g⟩ | ⟨g1, g⟩ | ⟨g1, g2, g⟩ | ⟨g1, g2, g, _⟩ <;> rcases op with ⟨k1, k⟩ | ⟨k1, k⟩ | ⟨k1, k2, k⟩ | ⟨k1, k2, k, _⟩ <;> first | exact k.trans g.symm | exact absurd g2 k2 | exact absurd k2 g2 | (exfalso; omega)
  refine tc_i (D := 0) (fun d' hd' => o_thrown (by omega)) (by omega) ?_
  rintro z3 M3 ⟨rfl, rfl⟩
  try simp only [kb_L_law_336, w_ald_1, w_ald_0, w_ild4, w_ic, w_iadd, w_ia, w_iax, w_i2l, w_bi, w_lshl, w_ld2, w_land, w_lor, w_ald_3, w_is5, tfr_0, tfr_1, tfr_2, tfr_3, tfr_4, w_ist5, tkl_n, tkl_i, tkl_l, tkl_r, w_ald_2, w_iv3, w_ist6, w_iv0, w_ild5, w_ic_eq, w_ire, trg, true_and, and_true, Nat.reduceAdd, Nat.reduceSub, eq_self, tshm_14, tshm_31, tshm_32, tykm_31, tykm_32, tci_15, tci_960, tykm_14, tci_14, tshm_667, tshm_668, tshm_669, tshm_670, tykm_33, tci_700, tsn_671, tyn_17, tcn_10, tzs_672, tzs_673, tzs_680, tzs_681, tzs_682, tzs_683, tzs_684, tzs_685, tzs_686, tzs_687, tzs_688, tzs_689, tzy_15, tzy_35, tzy_36, tzy_37, tzy_38, tzy_39, tzy_40, tzc_60, tzc_320, tzc_5, tzc_4, tzc_8]
  rw [t3]
  refine ⟨by omega, fun _ => ?_, fun q => absurd rfl q⟩
  rcases hz with ⟨_, rfl⟩ | ⟨_, rfl⟩ | ⟨_, _, rfl⟩ | ⟨g1, g2, rfl, g3⟩
  · exact na _ _ _ _ hI3 (by omega)
  · exact na _ _ _ _ hI3 (by omega)
  · exact na _ _ _ _ hI3 (by omega)
  · have hb := OP_4 op2 g1 g2
    have hz2 : z2 = 0 ∨ z2 = 1 := by
      rcases hb with ⟨q, _⟩ | ⟨q, _⟩
      · exact Or.inr q
      · exact Or.inl q
    have hv : M3 690 0 = z2 := by
      rcases g3 with ⟨a1, a2⟩ | ⟨a1, a2⟩ <;> rcases hb with ⟨b1, b2⟩ | ⟨b1, b2⟩ <;> first | exact e9.trans (a1.trans b1.symm) | exact absurd a2 b2 | exact absurd b2 a2
    refine tb_L_law_428 (c := false) ?_
    simp only [kb_L_law_428, w_ild5, w_if_ne, w_ald_3, w_ic, w_la, w_lax, tw_f, w_ild6, w_if_eq, w_lc1, w_goto, true_and, and_true, Nat.reduceAdd, Nat.reduceSub, eq_self, tshm_14, tshm_31, tshm_32, tykm_31, tykm_32, tci_15, tci_960, tykm_14, tci_14, tshm_667, tshm_668, tshm_669, tshm_670, tykm_33, tci_700, tsn_671, tyn_17, tcn_10, tzs_672, tzs_673, tzs_680, tzs_681, tzs_682, tzs_683, tzs_684, tzs_685, tzs_686, tzs_687, tzs_688, tzs_689, tzy_15, tzy_35, tzy_36, tzy_37, tzy_38, tzy_39, tzy_40, tzc_60, tzc_320, tzc_5, tzc_4, tzc_8, tsw_690, tyw_41, tcw_1]
    refine ⟨by decide, fun q => absurd rfl q, fun _ => ?_⟩
    refine ⟨by decide, by omega, fun h => ?_, fun h => ?_⟩
    · refine tb_L_law_445 (c := false) ?_
      simp only [kb_L_law_445, w_lc0, w_nil, true_and, and_true, Nat.reduceAdd, Nat.reduceSub, eq_self]
      refine tb_L_law_446 (c := false) ?_
      simp only [kb_L_law_446, w_lcmp, ne_eq, tlc_r, tlc_eq, tlc_lt, tlc_ge, tlc_gt, tlc_le, w_if_eq, w_ic, w_ire, trg, true_and, and_true, Nat.reduceAdd, Nat.reduceSub, eq_self]
      exact ⟨by omega, fun _ => nd _ _ _ _ hI3, fun q => absurd (by omega) q⟩
    · refine tb_L_law_446 (c := false) ?_
      simp only [kb_L_law_446, w_lcmp, ne_eq, tlc_r, tlc_eq, tlc_lt, tlc_ge, tlc_gt, tlc_le, w_if_eq, w_ic, w_ire, trg, true_and, and_true, Nat.reduceAdd, Nat.reduceSub, eq_self]
      exact ⟨by omega, fun _ => nd _ _ _ _ hI3, fun q => absurd (by omega) q⟩
end LAW
