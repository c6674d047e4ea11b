/-! THE MODEL: a bound as a text. -/

section MODEL
variable {e : tE} {d n D : Nat} {M : tM}
theorem o_spells {u l : Int} (ht : TX M) (hl : 0 ≤ l ∧ l < 1000000000) (hu : -100000000000000 ≤ u ∧ u ≤ 100000000000000) (hd : 1 ≤ d) : tC e d 3714 [.inr (.inr (.inl 664)), .inr (.inl u), .inr (.inl l)] M n (tQn n (fun M' => TE M M' ∧ TX M' ∧ (1 ≤ M' 664 18 ∧ M' 664 18 ≤ 40))) := by
  refine tst_X12_spells ?_
  have n273 : ∀ (L : tL) (M1 : tM), TE M M1 → TX M1 → (1 ≤ M1 664 18 ∧ M1 664 18 ≤ 40) → tT e d 3714 273 (some (.inr (.inr (.inl 664))) :: L) [] M1 n (tQn n (fun M' => TE M M' ∧ TX M' ∧ (1 ≤ M' 664 18 ∧ M' 664 18 ≤ 40))) := by
    intro L M1 a1 a2 a3
    refine tb_X12_spells_273 (c := false) ?_
    simp only [kb_X12_spells_273, w_re, true_and, and_true, Nat.reduceAdd, Nat.reduceSub, eq_self]
    exact ⟨rfl, rfl, a1, a2, a3⟩
  have n244 : ∀ (fu : Nat) (L : tL) (M1 : tM) (p : Int), TE M M1 → TX M1 → 0 ≤ p → M1 673 p = 46 → p < M1 664 18 → M1 664 18 ≤ p + (fu : Int) → M1 664 18 ≤ 40 → tT e d 3714 244 (some (.inr (.inr (.inl 664))) :: L) [] M1 n (tQn n (fun M' => TE M M' ∧ TX M' ∧ (1 ≤ M' 664 18 ∧ M' 664 18 ≤ 40))) := by
    intro fu
    induction fu with
    | zero => intro L M1 p a1 a2 a3 a4 a5 a6; exfalso; omega
    | succ fu ih =>
      intro L M1 p a1 a2 a3 a4 a5 a6 a7
      have g := a2.2.2 (M1 664 18 - 1) (by omega) (by omega)
      refine tb_X12_spells_244 (c := false) ?_
      simp (disch := decide) only [kb_X12_spells_244, w_ald_0, w_gf_14_16, tw_f, w_gf_14_18, w_ic, w_isub, w_ca, w_bi, w_ic_ne, w_dupi, w_dupr, w_pf_14_18, w_goto, true_and, and_true, Nat.reduceAdd, Nat.reduceSub, eq_self, tshm_14, tykm_14, tci_14, tshm_667, tshm_668, tshm_669, tshm_670, tykm_33, tci_700, tsn_671, tyn_17, tcn_10, tzs_672, tzs_673, tzs_680, tzs_681, tzs_682, tzs_683, tzs_684, tzs_685, tzs_686, tzs_687, tzs_688, tzs_689, tzy_15, tzy_35, tzy_36, tzy_37, tzy_38, tzy_39, tzy_40, tzc_60, tzc_320, tzc_5, tzc_4, tzc_8, tU_nk, tU_ni, tU_eq]
      refine ⟨by omega, by omega, fun h => n273 L M1 a1 a2 (by omega), fun h => ?_⟩
      have hp : M1 664 18 - 1 ≠ p := fun q => by rw [q, a4] at h; exact h (by decide)
      exact ih L _ p (TE_tr a1 (TE_U (by omega))) (TX_o a2 (by decide)) a3 ((tU_nk (by decide)).trans a4) (by rw [tU_eq]; omega) (by rw [tU_eq]; omega) (by rw [tU_eq]; omega)
  have n190 : ∀ (fu : Nat) (A B C E : Option tV) (M1 : tM) (r k : Int), TE M M1 → TX M1 → (0 ≤ M1 664 18 ∧ M1 664 18 ≤ 20) → M1 673 (M1 664 18) = 46 → (0 ≤ k ∧ k ≤ 10) → k ≤ (fu : Int) → (0 ≤ r ∧ r < 9000000000000000000) → tT e d 3714 190 [some (.inr (.inr (.inl 664))), some (.inr (.inl u)), none, some (.inr (.inl l)), none, A, B, some (.inr (.inl r)), none, C, some (.inl k), E] [] M1 n (tQn n (fun M' => TE M M' ∧ TX M' ∧ (1 ≤ M' 664 18 ∧ M' 664 18 ≤ 40))) := by
    intro fu
    induction fu with
    | zero =>
      intro A B C E M1 r k a1 a2 a3 a4 a5 a6 a7
      refine tb_X12_spells_190 (c := false) ?_
      simp (disch := decide) only [kb_X12_spells_190, w_ild10, w_if_le, w_ald_0, w_gf_14_16, tw_f, w_gf_14_18, w_iadd, w_ld2, w_lld7, w_lrem, w_ladd, w_l2i, w_i2c, w_casz, w_ldiv, w_lst7, tkl_n, tkl_i, tkl_l, tkl_r, w_inc10, w_goto, true_and, and_true, Nat.reduceAdd, Nat.reduceSub, eq_self, tshm_14, tykm_14, tci_14, tshm_667, tshm_668, tshm_669, tshm_670, tykm_33, tci_700, tsn_671, tyn_17, tcn_10, tzs_672, tzs_673, tzs_680, tzs_681, tzs_682, tzs_683, tzs_684, tzs_685, tzs_686, tzs_687, tzs_688, tzs_689, tzy_15, tzy_35, tzy_36, tzy_37, tzy_38, tzy_39, tzy_40, tzc_60, tzc_320, tzc_5, tzc_4, tzc_8, tU_nk, tU_ni, tU_eq]
      refine ⟨by omega, fun h => ?_, fun h => by exfalso; omega⟩
      refine tb_X12_spells_233 (c := false) ?_
      simp (disch := decide) only [kb_X12_spells_233, w_ald_0, w_dupi, w_dupr, w_gf_14_18, tw_f, w_bi, w_iadd, w_pf_14_18, w_nil, true_and, and_true, Nat.reduceAdd, Nat.reduceSub, eq_self, tshm_14, tykm_14, tci_14, tshm_667, tshm_668, tshm_669, tshm_670, tykm_33, tci_700, tsn_671, tyn_17, tcn_10, tzs_672, tzs_673, tzs_680, tzs_681, tzs_682, tzs_683, tzs_684, tzs_685, tzs_686, tzs_687, tzs_688, tzs_689, tzy_15, tzy_35, tzy_36, tzy_37, tzy_38, tzy_39, tzy_40, tzc_60, tzc_320, tzc_5, tzc_4, tzc_8, tU_nk, tU_ni, tU_eq]
      exact n244 11 _ _ (M1 664 18) (TE_tr a1 (TE_U (by omega))) (TX_o a2 (by decide)) a3.1 ((tU_nk (by decide)).trans a4) (by rw [tU_eq]; omega) (by rw [tU_eq]; omega) (by rw [tU_eq]; omega)
    | succ fu ih =>
      intro A B C E M1 r k a1 a2 a3 a4 a5 a6 a7
      refine tb_X12_spells_190 (c := false) ?_
      simp (disch := decide) only [kb_X12_spells_190, w_ild10, w_if_le, w_ald_0, w_gf_14_16, tw_f, w_gf_14_18, w_iadd, w_ld2, w_lld7, w_lrem, w_ladd, w_l2i, w_i2c, w_casz, w_ldiv, w_lst7, tkl_n, tkl_i, tkl_l, tkl_r, w_inc10, w_goto, true_and, and_true, Nat.reduceAdd, Nat.reduceSub, eq_self, tshm_14, tykm_14, tci_14, tshm_667, tshm_668, tshm_669, tshm_670, tykm_33, tci_700, tsn_671, tyn_17, tcn_10, tzs_672, tzs_673, tzs_680, tzs_681, tzs_682, tzs_683, tzs_684, tzs_685, tzs_686, tzs_687, tzs_688, tzs_689, tzy_15, tzy_35, tzy_36, tzy_37, tzy_38, tzy_39, tzy_40, tzc_60, tzc_320, tzc_5, tzc_4, tzc_8, tU_nk, tU_ni, tU_eq]
      rw [tz_d10 a7.1, tz_m10 a7.1]
      refine ⟨by omega, fun h => ?_, fun h => ⟨by omega, by omega, by omega, by omega, ?_⟩⟩
      · refine tb_X12_spells_233 (c := false) ?_
        simp (disch := decide) only [kb_X12_spells_233, w_ald_0, w_dupi, w_dupr, w_gf_14_18, tw_f, w_bi, w_iadd, w_pf_14_18, w_nil, true_and, and_true, Nat.reduceAdd, Nat.reduceSub, eq_self, tshm_14, tykm_14, tci_14, tshm_667, tshm_668, tshm_669, tshm_670, tykm_33, tci_700, tsn_671, tyn_17, tcn_10, tzs_672, tzs_673, tzs_680, tzs_681, tzs_682, tzs_683, tzs_684, tzs_685, tzs_686, tzs_687, tzs_688, tzs_689, tzy_15, tzy_35, tzy_36, tzy_37, tzy_38, tzy_39, tzy_40, tzc_60, tzc_320, tzc_5, tzc_4, tzc_8, tU_nk, tU_ni, tU_eq]
        exact n244 11 _ _ (M1 664 18) (TE_tr a1 (TE_U (by omega))) (TX_o a2 (by decide)) a3.1 ((tU_nk (by decide)).trans a4) (by rw [tU_eq]; omega) (by rw [tU_eq]; omega) (by rw [tU_eq]; omega)
      · refine ih _ _ _ _ _ (r / 10) (k + -1) (TE_tr a1 (TE_U (by omega))) (TX_d a2 (by omega)) ?_ ?_ (by omega) (by omega) (by omega)
        · rw [tU_nk (by decide)]; exact a3
        · rw [tU_nk (k := 673) (k' := 664) (by decide), tU_ni (by omega)]; exact a4
  have n113 : ∀ (fu : Nat) (E : Option tV) (M1 : tM) (w r p k : Int), TE M M1 → TX M1 → (0 ≤ M1 664 18 ∧ M1 664 18 ≤ 1) → (1 ≤ p ∧ p ≤ 16) → (-1 ≤ k ∧ k < p) → k < (fu : Int) → (0 ≤ w ∧ w < 9000000000000000000) → (0 ≤ r ∧ r < 9000000000000000000) → tT e d 3714 113 [some (.inr (.inr (.inl 664))), some (.inr (.inl u)), none, some (.inr (.inl l)), none, some (.inr (.inl w)), none, some (.inr (.inl r)), none, some (.inl p), some (.inl k), E] [] M1 n (tQn n (fun M' => TE M M' ∧ TX M' ∧ (1 ≤ M' 664 18 ∧ M' 664 18 ≤ 40))) := by
    intro fu
    have n156 : ∀ (E : Option tV) (M1 : tM) (w r p k : Int), TE M M1 → TX M1 → (0 ≤ M1 664 18 ∧ M1 664 18 ≤ 1) → (1 ≤ p ∧ p ≤ 16) → (0 ≤ r ∧ r < 9000000000000000000) → tT e d 3714 156 [some (.inr (.inr (.inl 664))), some (.inr (.inl u)), none, some (.inr (.inl l)), none, some (.inr (.inl w)), none, some (.inr (.inl r)), none, some (.inl p), some (.inl k), E] [] M1 n (tQn n (fun M' => TE M M' ∧ TX M' ∧ (1 ≤ M' 664 18 ∧ M' 664 18 ≤ 40))) := by
      intro E M1 w r p k a1 a2 a3 a4 a5
      refine tb_X12_spells_156 (c := false) ?_
      simp (disch := decide) only [kb_X12_spells_156, w_ald_0, w_dupi, w_dupr, w_gf_14_18, tw_f, w_ild9, w_iadd, w_pf_14_18, w_lld7, w_lc0, w_lcmp, ne_eq, tlc_r, tlc_eq, tlc_lt, tlc_ge, tlc_gt, tlc_le, w_if_ne, w_re, true_and, and_true, Nat.reduceAdd, Nat.reduceSub, eq_self, tshm_14, tykm_14, tci_14, tshm_667, tshm_668, tshm_669, tshm_670, tykm_33, tci_700, tsn_671, tyn_17, tcn_10, tzs_672, tzs_673, tzs_680, tzs_681, tzs_682, tzs_683, tzs_684, tzs_685, tzs_686, tzs_687, tzs_688, tzs_689, tzy_15, tzy_35, tzy_36, tzy_37, tzy_38, tzy_39, tzy_40, tzc_60, tzc_320, tzc_5, tzc_4, tzc_8, tU_nk, tU_ni, tU_eq]
      refine ⟨by omega, fun h => ?_, fun h => ?_⟩
      · refine tb_X12_spells_175 (c := false) ?_
        simp (disch := decide) only [kb_X12_spells_175, w_ald_0, w_gf_14_16, tw_f, w_gf_14_18, w_bi, w_casz, w_ist10, tkl_n, tkl_i, tkl_l, tkl_r, w_nil, true_and, and_true, Nat.reduceAdd, Nat.reduceSub, eq_self, tshm_14, tykm_14, tci_14, tshm_667, tshm_668, tshm_669, tshm_670, tykm_33, tci_700, tsn_671, tyn_17, tcn_10, tzs_672, tzs_673, tzs_680, tzs_681, tzs_682, tzs_683, tzs_684, tzs_685, tzs_686, tzs_687, tzs_688, tzs_689, tzy_15, tzy_35, tzy_36, tzy_37, tzy_38, tzy_39, tzy_40, tzc_60, tzc_320, tzc_5, tzc_4, tzc_8, tU_nk, tU_ni, tU_eq]
        refine ⟨by omega, by omega, ?_⟩
        refine n190 10 _ _ _ _ _ r 10 (TE_tr (TE_tr a1 (TE_U (by omega))) (TE_U (by omega))) (TX_d (TX_o a2 (by decide)) (by omega)) ?_ ?_ (by omega) (by omega) a5
        · rw [tU_nk (by decide), tU_eq]; omega
        · rw [tU_nk (k := 673) (k' := 664) (by decide), tU_eq, tU_eq]
      · exact ⟨rfl, rfl, TE_tr a1 (TE_U (by omega)), TX_o a2 (by decide), by rw [tU_eq]; omega⟩
    induction fu with
    | zero =>
      intro E M1 w r p k a1 a2 a3 a4 a5 a6 a7 a8
      refine tb_X12_spells_113 (c := false) ?_
      simp (disch := decide) only [kb_X12_spells_113, w_ild10, w_if_lt, w_ald_0, w_gf_14_16, tw_f, w_gf_14_18, w_iadd, w_ld2, w_lld5, w_lrem, w_ladd, w_l2i, w_i2c, w_casz, w_ldiv, w_lst5, tkl_n, tkl_i, tkl_l, tkl_r, w_inc10, w_goto, true_and, and_true, Nat.reduceAdd, Nat.reduceSub, eq_self, tshm_14, tykm_14, tci_14, tshm_667, tshm_668, tshm_669, tshm_670, tykm_33, tci_700, tsn_671, tyn_17, tcn_10, tzs_672, tzs_673, tzs_680, tzs_681, tzs_682, tzs_683, tzs_684, tzs_685, tzs_686, tzs_687, tzs_688, tzs_689, tzy_15, tzy_35, tzy_36, tzy_37, tzy_38, tzy_39, tzy_40, tzc_60, tzc_320, tzc_5, tzc_4, tzc_8, tU_nk, tU_ni, tU_eq]
      rw [tz_d10 a7.1, tz_m10 a7.1]
      exact ⟨by omega, fun h => n156 _ _ _ _ _ _ a1 a2 a3 a4 a8, fun h => by exfalso; omega⟩
    | succ fu ih =>
      intro E M1 w r p k a1 a2 a3 a4 a5 a6 a7 a8
      refine tb_X12_spells_113 (c := false) ?_
      simp (disch := decide) only [kb_X12_spells_113, w_ild10, w_if_lt, w_ald_0, w_gf_14_16, tw_f, w_gf_14_18, w_iadd, w_ld2, w_lld5, w_lrem, w_ladd, w_l2i, w_i2c, w_casz, w_ldiv, w_lst5, tkl_n, tkl_i, tkl_l, tkl_r, w_inc10, w_goto, true_and, and_true, Nat.reduceAdd, Nat.reduceSub, eq_self, tshm_14, tykm_14, tci_14, tshm_667, tshm_668, tshm_669, tshm_670, tykm_33, tci_700, tsn_671, tyn_17, tcn_10, tzs_672, tzs_673, tzs_680, tzs_681, tzs_682, tzs_683, tzs_684, tzs_685, tzs_686, tzs_687, tzs_688, tzs_689, tzy_15, tzy_35, tzy_36, tzy_37, tzy_38, tzy_39, tzy_40, tzc_60, tzc_320, tzc_5, tzc_4, tzc_8, tU_nk, tU_ni, tU_eq]
      rw [tz_d10 a7.1, tz_m10 a7.1]
      refine ⟨by omega, fun h => n156 _ _ _ _ _ _ a1 a2 a3 a4 a8, fun h => ⟨by omega, by omega, by omega, by omega, ?_⟩⟩
      refine ih _ _ (w / 10) r p (k + -1) (TE_tr a1 (TE_U (by omega))) (TX_d a2 (by omega)) ?_ a4 (by omega) (by omega) (by omega) a8
      rw [tU_nk (by decide)]; exact a3
  have n86 : ∀ (fu : Nat) (M1 : tM) (w r p v : Int), TE M M1 → TX M1 → (0 ≤ M1 664 18 ∧ M1 664 18 ≤ 1) → (1 ≤ p ∧ p + (fu : Int) ≤ 16) → (0 ≤ v ∧ v < 10 ^ fu) → v < 9000000000000000000 → (0 ≤ w ∧ w < 9000000000000000000) → (0 ≤ r ∧ r < 9000000000000000000) → tT e d 3714 86 [some (.inr (.inr (.inl 664))), some (.inr (.inl u)), none, some (.inr (.inl l)), none, some (.inr (.inl w)), none, some (.inr (.inl r)), none, some (.inl p), some (.inr (.inl v)), none] [] M1 n (tQn n (fun M' => TE M M' ∧ TX M' ∧ (1 ≤ M' 664 18 ∧ M' 664 18 ≤ 40))) := by
    intro fu
    have n107 : ∀ (M1 : tM) (w r p v : Int), TE M M1 → TX M1 → (0 ≤ M1 664 18 ∧ M1 664 18 ≤ 1) → (1 ≤ p ∧ p ≤ 16) → (0 ≤ w ∧ w < 9000000000000000000) → (0 ≤ r ∧ r < 9000000000000000000) → tT e d 3714 107 [some (.inr (.inr (.inl 664))), some (.inr (.inl u)), none, some (.inr (.inl l)), none, some (.inr (.inl w)), none, some (.inr (.inl r)), none, some (.inl p), some (.inr (.inl v)), none] [] M1 n (tQn n (fun M' => TE M M' ∧ TX M' ∧ (1 ≤ M' 664 18 ∧ M' 664 18 ≤ 40))) := by
      intro M1 w r p v a1 a2 a3 a4 a5 a6
      refine tb_X12_spells_107 (c := false) ?_
      simp only [kb_X12_spells_107, w_ild9, w_ic, w_isub, w_ist10, tkl_n, tkl_i, tkl_l, tkl_r, w_nil, true_and, and_true, Nat.reduceAdd, Nat.reduceSub, eq_self]
      exact n113 16 _ M1 w r p (p - 1) a1 a2 a3 a4 (by omega) (by omega) a5 a6
    induction fu with
    | zero =>
      intro M1 w r p v a1 a2 a3 a4 a5 a6 a7 a8
      have : (10 : Int) ^ 0 = 1 := rfl
      refine tb_X12_spells_86 (c := false) ?_
      simp only [kb_X12_spells_86, w_lld10, w_lc0, w_lcmp, ne_eq, tlc_r, tlc_eq, tlc_lt, tlc_ge, tlc_gt, tlc_le, w_if_le, w_inc9, tkl_n, tkl_i, tkl_l, tkl_r, w_ld2, w_ldiv, tw_f, w_lst10, w_goto, true_and, and_true, Nat.reduceAdd, Nat.reduceSub, eq_self]
      rw [tz_d10 a5.1]
      exact ⟨by omega, fun h => n107 _ _ _ _ _ a1 a2 a3 (by omega) a7 a8, fun h => by exfalso; omega⟩
    | succ fu ih =>
      intro M1 w r p v a1 a2 a3 a4 a5 a6 a7 a8
      have hp : (10 : Int) ^ (fu + 1) = 10 ^ fu * 10 := Int.pow_succ ..
      rw [hp] at a5
      generalize (10 : Int) ^ fu = y at a5 ih
      refine tb_X12_spells_86 (c := false) ?_
      simp only [kb_X12_spells_86, w_lld10, w_lc0, w_lcmp, ne_eq, tlc_r, tlc_eq, tlc_lt, tlc_ge, tlc_gt, tlc_le, w_if_le, w_inc9, tkl_n, tkl_i, tkl_l, tkl_r, w_ld2, w_ldiv, tw_f, w_lst10, w_goto, true_and, and_true, Nat.reduceAdd, Nat.reduceSub, eq_self]
      rw [tz_d10 a5.1]
      exact ⟨by omega, fun h => n107 _ _ _ _ _ a1 a2 a3 (by omega) a7 a8, fun h => ⟨by omega, ih _ _ _ _ _ a1 a2 a3 (by omega) (by omega) (by omega) a7 a8⟩⟩
  have n46 : ∀ M1 : tM, TE M M1 → TX M1 → (0 ≤ M1 664 18 ∧ M1 664 18 ≤ 1) → (0 ≤ M1 664 4 ∧ M1 664 4 ≤ 100000000000000) → (0 ≤ M1 664 5 ∧ M1 664 5 < 1000000000) → tT e d 3714 46 [some (.inr (.inr (.inl 664))), some (.inr (.inl u)), none, some (.inr (.inl l)), none, none, none, none, none, none, none, none] [] M1 n (tQn n (fun M' => TE M M' ∧ TX M' ∧ (1 ≤ M' 664 18 ∧ M' 664 18 ≤ 40))) := by
    intro M1 a1 a2 a3 a4 a5
    refine tb_X12_spells_46 (c := false) ?_
    simp only [kb_X12_spells_46, w_ald_0, w_gf_14_4, tw_f, w_ld2, w_ldiv, w_lst5, tkl_n, tkl_i, tkl_l, tkl_r, w_lrem, w_lmul, w_gf_14_5, w_ladd, w_lst7, w_ic, w_ist9, w_lld5, w_lst10, w_nil, true_and, and_true, Nat.reduceAdd, Nat.reduceSub, eq_self, tshm_14, tykm_14, tci_14, tshm_667, tshm_668, tshm_669, tshm_670, tykm_33, tci_700, tsn_671, tyn_17, tcn_10, tzs_672, tzs_673, tzs_680, tzs_681, tzs_682, tzs_683, tzs_684, tzs_685, tzs_686, tzs_687, tzs_688, tzs_689, tzy_15, tzy_35, tzy_36, tzy_37, tzy_38, tzy_39, tzy_40, tzc_60, tzc_320, tzc_5, tzc_4, tzc_8]
    rw [tz_d10 a4.1, tz_m10 a4.1]
    rw [tz_d10 (show 0 ≤ M1 664 4 / 10 by omega)]
    refine ⟨by omega, by omega, by omega, ?_⟩
    have : (10 : Int) ^ 14 = 100000000000000 := by decide
    exact n86 14 M1 _ _ 1 _ a1 a2 a3 (by omega) (by omega) (by omega) (by omega) (by omega)
  refine tb_X12_spells_0 (c := false) ?_
  simp (disch := decide) only [kb_X12_spells_0, w_ald_0, w_ic, w_pf_14_18, w_lld_1, w_pf_14_4, w_lld_3, w_pf_14_5, w_lc0, w_lcmp, ne_eq, tlc_r, tlc_eq, tlc_lt, tlc_ge, tlc_gt, tlc_le, w_if_ge, w_gf_14_16, tw_f, w_gf_14_18, w_bi, w_casz, w_dupi, w_dupr, w_iadd, w_iv0, tfr_0, tfr_1, tfr_2, tfr_3, tfr_4, w_nil, true_and, and_true, Nat.reduceAdd, Nat.reduceSub, eq_self, tshm_14, tykm_14, tci_14, tshm_667, tshm_668, tshm_669, tshm_670, tykm_33, tci_700, tsn_671, tyn_17, tcn_10, tzs_672, tzs_673, tzs_680, tzs_681, tzs_682, tzs_683, tzs_684, tzs_685, tzs_686, tzs_687, tzs_688, tzs_689, tzy_15, tzy_35, tzy_36, tzy_37, tzy_38, tzy_39, tzy_40, tzc_60, tzc_320, tzc_5, tzc_4, tzc_8, tU_nk, tU_ni, tU_eq]
  refine ⟨by omega, fun h => ?_, fun h => ⟨by omega, by omega, ?_⟩⟩
  · refine n46 _ (TE_tr (TE_tr (TE_U (by omega)) (TE_U (by omega))) (TE_U (by omega))) (TX_o (TX_o (TX_o ht (by decide)) (by decide)) (by decide)) ?_ ?_ ?_
    · simp (disch := decide) only [tU_nk, tU_ni, tU_eq]; omega
    · simp (disch := decide) only [tU_nk, tU_ni, tU_eq]; omega
    · simp (disch := decide) only [tU_nk, tU_ni, tU_eq]; omega
  have e1 : TE M (tU (tU (tU (tU (tU M 664 18 0) 664 4 u) 664 5 l) 673 0 45) 664 18 (0 + 1)) := TE_tr (TE_tr (TE_tr (TE_tr (TE_U (by omega)) (TE_U (by omega))) (TE_U (by omega))) (TE_U (by omega))) (TE_U (by omega))
  have e2 : TX (tU (tU (tU (tU (tU M 664 18 0) 664 4 u) 664 5 l) 673 0 45) 664 18 (0 + 1)) := TX_o (TX_d (TX_o (TX_o (TX_o ht (by decide)) (by decide)) (by decide)) (by omega)) (by decide)
  have e3 : tU (tU (tU (tU (tU M 664 18 0) 664 4 u) 664 5 l) 673 0 45) 664 18 (0 + 1) 664 18 = 1 := by rw [tU_eq]; decide
  have e4 : tU (tU (tU (tU (tU M 664 18 0) 664 4 u) 664 5 l) 673 0 45) 664 18 (0 + 1) 664 4 = u := by simp (disch := decide) only [tU_nk, tU_ni, tU_eq]
  have e5 : tU (tU (tU (tU (tU M 664 18 0) 664 4 u) 664 5 l) 673 0 45) 664 18 (0 + 1) 664 5 = l := by simp (disch := decide) only [tU_nk, tU_ni, tU_eq]
  generalize tU (tU (tU (tU (tU M 664 18 0) 664 4 u) 664 5 l) 673 0 45) 664 18 (0 + 1) = M1 at e1 e2 e3 e4 e5 ⊢
  refine tc_n (D := 0) (fun d' hd' => c_turns (by unfold cb; rw [e4, e5]; omega) (by unfold zb; rw [e4, e5]; omega)) (by omega) ?_
  rintro M2 ⟨q1, q2, q3⟩
  try simp only [kb_X12_spells_0, w_ald_0, w_ic, w_pf_14_18, w_lld_1, w_pf_14_4, w_lld_3, w_pf_14_5, w_lc0, w_lcmp, ne_eq, tlc_r, tlc_eq, tlc_lt, tlc_ge, tlc_gt, tlc_le, w_if_ge, w_gf_14_16, tw_f, w_gf_14_18, w_bi, w_casz, w_dupi, w_dupr, w_iadd, w_iv0, tfr_0, tfr_1, tfr_2, tfr_3, tfr_4, w_nil, true_and, and_true, Nat.reduceAdd, Nat.reduceSub, eq_self, tshm_14, tykm_14, tci_14, tshm_667, tshm_668, tshm_669, tshm_670, tykm_33, tci_700, tsn_671, tyn_17, tcn_10, tzs_672, tzs_673, tzs_680, tzs_681, tzs_682, tzs_683, tzs_684, tzs_685, tzs_686, tzs_687, tzs_688, tzs_689, tzy_15, tzy_35, tzy_36, tzy_37, tzy_38, tzy_39, tzy_40, tzc_60, tzc_320, tzc_5, tzc_4, tzc_8]
  unfold zb at q1
  unfold cb at q2
  rw [e4, e5] at q1
  exact n46 M2 (TE_tr e1 (TE_u q3)) (TX_same (fun k i g => q3 k i (by omega)) e2) (by rw [q3 664 18 (by omega)]; omega) (by omega) q2.1
theorem o_writes {u l : Int} (hP : MF M D) (hl : 0 ≤ l ∧ l < 1000000000) (hu : -100000000000000 ≤ u ∧ u ≤ 100000000000000) (hd : 2 ≤ d) : tC e d 3736 [.inr (.inr (.inl 664)), .inr (.inl u), .inr (.inl l)] M n (tQi n (fun _ M' => MF M' D ∧ MC M M')) := by
  refine tst_X12_writes ?_
  have n9 : ∀ (fu : Nat) (M1 : tM) (k : Int), TE M M1 → TX M1 → (1 ≤ M1 664 18 ∧ M1 664 18 ≤ 40) → (0 ≤ k ∧ k ≤ M1 664 18) → M1 664 18 < k + (fu : Int) → tT e d 3736 9 [some (.inr (.inr (.inl 664))), some (.inr (.inl u)), none, some (.inr (.inl l)), none, some (.inl k)] [] M1 n (tQi n (fun _ M' => MF M' D ∧ MC M M')) := by
    intro fu
    induction fu with
    | zero => intro M1 k a1 a2 a3 a4 a5; exfalso; omega
    | succ fu ih =>
      intro M1 k a1 a2 a3 a4 a5
      refine tb_X12_writes_9 (c := false) ?_
      simp (disch := decide) only [kb_X12_writes_9, w_ild5, w_ald_0, w_gf_14_18, tw_f, w_ic_ge, w_gf_14_15, w_gf_14_16, w_ca, w_casz, w_inc5, tkl_n, tkl_i, tkl_l, tkl_r, w_goto, true_and, and_true, Nat.reduceAdd, Nat.reduceSub, eq_self, tshm_14, tykm_14, tci_14, tshm_667, tshm_668, tshm_669, tshm_670, tykm_33, tci_700, tsn_671, tyn_17, tcn_10, tzs_672, tzs_673, tzs_680, tzs_681, tzs_682, tzs_683, tzs_684, tzs_685, tzs_686, tzs_687, tzs_688, tzs_689, tzy_15, tzy_35, tzy_36, tzy_37, tzy_38, tzy_39, tzy_40, tzc_60, tzc_320, tzc_5, tzc_4, tzc_8, tU_nk, tU_ni, tU_eq]
      refine ⟨by omega, fun h => ?_, fun h => ⟨by omega, by omega, a2.2.2 k (by omega) (by omega), ?_⟩⟩
      · refine tb_X12_writes_38 (c := false) ?_
        simp (disch := decide) only [kb_X12_writes_38, w_ald_0, w_gf_14_18, tw_f, w_pf_14_17, w_gf_14_17, w_ire, trg, true_and, and_true, Nat.reduceAdd, Nat.reduceSub, eq_self, tshm_14, tykm_14, tci_14, tshm_667, tshm_668, tshm_669, tshm_670, tykm_33, tci_700, tsn_671, tyn_17, tcn_10, tzs_672, tzs_673, tzs_680, tzs_681, tzs_682, tzs_683, tzs_684, tzs_685, tzs_686, tzs_687, tzs_688, tzs_689, tzy_15, tzy_35, tzy_36, tzy_37, tzy_38, tzy_39, tzy_40, tzc_60, tzc_320, tzc_5, tzc_4, tzc_8, tU_nk, tU_ni, tU_eq]
        exact ⟨_, rfl, rfl, MF_te hP (TE_tr a1 (TE_U (by omega))) (TX_l a2 (by omega))⟩
      · refine ih _ (k + 1) (TE_tr a1 (TE_U (by omega))) (TX_c a2 (a2.2.2 k (by omega) (by omega))) ?_ ?_ ?_
        · rw [tU_nk (by decide)]; exact a3
        · rw [tU_nk (by decide)]; omega
        · rw [tU_nk (by decide)]; omega
  refine tb_X12_writes_0 (c := false) ?_
  simp only [kb_X12_writes_0, w_ald_0, w_lld_1, w_lld_3, w_iv2, tfr_0, tfr_1, tfr_2, tfr_3, tfr_4, w_ic, w_ist5, tkl_n, tkl_i, tkl_l, tkl_r, w_nil, true_and, and_true, Nat.reduceAdd, Nat.reduceSub, eq_self, tshm_14, tykm_14, tci_14, tshm_667, tshm_668, tshm_669, tshm_670, tykm_33, tci_700, tsn_671, tyn_17, tcn_10, tzs_672, tzs_673, tzs_680, tzs_681, tzs_682, tzs_683, tzs_684, tzs_685, tzs_686, tzs_687, tzs_688, tzs_689, tzy_15, tzy_35, tzy_36, tzy_37, tzy_38, tzy_39, tzy_40, tzc_60, tzc_320, tzc_5, tzc_4, tzc_8]
  refine tc_n (D := 1) (fun d' hd' => o_spells hP.2.1 hl hu hd') (by omega) ?_
  rintro M1 ⟨q1, q2, q3⟩
  try simp only [kb_X12_writes_0, w_ald_0, w_lld_1, w_lld_3, w_iv2, tfr_0, tfr_1, tfr_2, tfr_3, tfr_4, w_ic, w_ist5, tkl_n, tkl_i, tkl_l, tkl_r, w_nil, true_and, and_true, Nat.reduceAdd, Nat.reduceSub, eq_self, tshm_14, tykm_14, tci_14, tshm_667, tshm_668, tshm_669, tshm_670, tykm_33, tci_700, tsn_671, tyn_17, tcn_10, tzs_672, tzs_673, tzs_680, tzs_681, tzs_682, tzs_683, tzs_684, tzs_685, tzs_686, tzs_687, tzs_688, tzs_689, tzy_15, tzy_35, tzy_36, tzy_37, tzy_38, tzy_39, tzy_40, tzc_60, tzc_320, tzc_5, tzc_4, tzc_8]
  exact n9 41 M1 0 q1 q2 q3 (by omega) (by omega)
end MODEL
