/-! THE MODEL: bounds moved outward, moves, areas. -/

section MODEL
variable {e : tE} {d n D : Nat} {M : tM}
theorem o_outward {b f : Int} (h : MB M D f) (hb : 0 ≤ b ∧ b < 700) (ob : OB M b) (hd : 2 ≤ d) : tC e d 3672 [.inr (.inr (.inl 664)), .inl b] M n (tQi n (fun z M' => (z = 0 ∨ z = 2) ∧ (z = 0 → OB M' b) ∧ xE (fun r => r = b) M M')) := by
  obtain ⟨h1, h2, h3, h4, h5, h6⟩ := h
  have ca := h5 b hb.1 hb.2
  unfold bcan at ca
  have ob2 := ob
  unfold OB at ob2
  have ob3 := ob2
  unfold zlo zhi at ob3
  refine tst_X12_outward ?_
  have n36 : ∀ (u m : Int), (0 ≤ u ∧ u ≤ 1000000000) → (0 ≤ m ∧ m ≤ 10) → tT e d 3672 36 [some (.inr (.inr (.inl 664))), some (.inl (b)), some (.inr (.inl (u))), none, none, none] [.inr (.inl m)] M n (tQi n (fun z M' => (z = 0 ∨ z = 2) ∧ (z = 0 → OB M' b) ∧ xE (fun r => r = b) M M')) := by
    intro u m hu hm
    have n174 : ∀ (M2 M3 : tM), xE (fun r => r = b) M M2 → uE M2 M3 → cb M3 → zb M3 ≤ zlo M b → (zhi M b ≤ zhi M2 b ∧ zhi M2 b ≤ 10000000000000000000000) → (-1000000000000000000000000 ≤ zb M3 ∧ zb M3 ≤ 1000000000000000000000000) → tT e d 3672 174 [some (.inr (.inr (.inl 664))), some (.inl (b)), some (.inr (.inl (u))), none, some (.inr (.inl (m))), none] [] M3 n (tQi n (fun z M' => (z = 0 ∨ z = 2) ∧ (z = 0 → OB M' b) ∧ xE (fun r => r = b) M M')) := by
      intro M2 M3 x2 u3 c3 z3 g3 w3
      refine tb_X12_outward_174 (c := false) ?_
      simp only [kb_X12_outward_174, w_ald_0, w_iv0, tfr_0, tfr_1, tfr_2, tfr_3, tfr_4, w_if_eq, w_ic, w_ire, trg, true_and, and_true, Nat.reduceAdd, Nat.reduceSub, eq_self, tshm_14, tshm_31, tshm_32, tykm_31, tykm_32, tci_15, tci_960, tykm_14, tci_14, tshm_667, tshm_668, tshm_669, tshm_670, tykm_33, tci_700, tsn_671, tyn_17, tcn_10, tzs_672, tzs_673, tzs_680, tzs_681, tzs_682, tzs_683, tzs_684, tzs_685, tzs_686, tzs_687, tzs_688, tzs_689, tzy_15, tzy_35, tzy_36, tzy_37, tzy_38, tzy_39, tzy_40, tzc_60, tzc_320, tzc_5, tzc_4, tzc_8]
      refine tc_i (D := 0) (fun d' _ => c_isTooGreat c3) (by omega) ?_
      rintro z _ ⟨q4, rfl⟩
      try simp only [kb_X12_outward_174, w_ald_0, w_iv0, tfr_0, tfr_1, tfr_2, tfr_3, tfr_4, w_if_eq, w_ic, w_ire, trg, true_and, and_true, Nat.reduceAdd, Nat.reduceSub, eq_self, tshm_14, tshm_31, tshm_32, tykm_31, tykm_32, tci_15, tci_960, tykm_14, tci_14, tshm_667, tshm_668, tshm_669, tshm_670, tykm_33, tci_700, tsn_671, tyn_17, tcn_10, tzs_672, tzs_673, tzs_680, tzs_681, tzs_682, tzs_683, tzs_684, tzs_685, tzs_686, tzs_687, tzs_688, tzs_689, tzy_15, tzy_35, tzy_36, tzy_37, tzy_38, tzy_39, tzy_40, tzc_60, tzc_320, tzc_5, tzc_4, tzc_8]
      refine ⟨by omega, fun hz => ?_, fun hz => ⟨2, rfl, rfl, Or.inr rfl, fun q => absurd q (by decide), xE_tr x2 (xE_u u3)⟩⟩
      have q5 : ¬ far (zb M3) := by rcases q4 with ⟨q, -⟩ | ⟨-, q⟩; omega; exact q
      have q6 := nfar q5
      unfold cb at c3
      unfold zb at q6 z3
      refine tb_X12_outward_183 (c := false) ?_
      simp only [kb_X12_outward_183, w_ald_0, w_ild_1, w_gf_14_4, tw_f, w_gf_14_5, w_iv3, tfr_0, tfr_1, tfr_2, tfr_3, tfr_4, w_ic, w_ire, trg, true_and, and_true, Nat.reduceAdd, Nat.reduceSub, eq_self, tshm_14, tshm_31, tshm_32, tykm_31, tykm_32, tci_15, tci_960, tykm_14, tci_14, tshm_667, tshm_668, tshm_669, tshm_670, tykm_33, tci_700, tsn_671, tyn_17, tcn_10, tzs_672, tzs_673, tzs_680, tzs_681, tzs_682, tzs_683, tzs_684, tzs_685, tzs_686, tzs_687, tzs_688, tzs_689, tzy_15, tzy_35, tzy_36, tzy_37, tzy_38, tzy_39, tzy_40, tzc_60, tzc_320, tzc_5, tzc_4, tzc_8]
      refine tc_n (D := 0) (fun d' _ => c_low hb) (by omega) ?_
      rintro _ rfl
      try simp only [kb_X12_outward_183, w_ald_0, w_ild_1, w_gf_14_4, tw_f, w_gf_14_5, w_iv3, tfr_0, tfr_1, tfr_2, tfr_3, tfr_4, w_ic, w_ire, trg, true_and, and_true, Nat.reduceAdd, Nat.reduceSub, eq_self, tshm_14, tshm_31, tshm_32, tykm_31, tykm_32, tci_15, tci_960, tykm_14, tci_14, tshm_667, tshm_668, tshm_669, tshm_670, tykm_33, tci_700, tsn_671, tyn_17, tcn_10, tzs_672, tzs_673, tzs_680, tzs_681, tzs_682, tzs_683, tzs_684, tzs_685, tzs_686, tzs_687, tzs_688, tzs_689, tzy_15, tzy_35, tzy_36, tzy_37, tzy_38, tzy_39, tzy_40, tzc_60, tzc_320, tzc_5, tzc_4, tzc_8]
      refine ⟨0, rfl, rfl, Or.inl rfl, fun _ => ?_, xE_tr x2 (xE_tr (xE_u u3) (sLo_xE rfl c3.1 (by omega)))⟩
      have e9 : zhi M3 b = zhi M2 b := by unfold zhi; rw [u3 669 b (by omega), u3 670 b (by omega)]
      unfold OB
      rw [sLo_lo, sLo_hi, e9]
      omega
    have n96 : ∀ M1 : tM, uE M M1 → cb M1 → zhi M b ≤ zb M1 → (-1000000000000000000000000 ≤ zb M1 ∧ zb M1 ≤ 1000000000000000000000000) → tT e d 3672 96 [some (.inr (.inr (.inl 664))), some (.inl (b)), some (.inr (.inl (u))), none, some (.inr (.inl (m))), none] [] M1 n (tQi n (fun z M' => (z = 0 ∨ z = 2) ∧ (z = 0 → OB M' b) ∧ xE (fun r => r = b) M M')) := by
      intro M1 u1 c1 z1 w1
      refine tb_X12_outward_96 (c := false) ?_
      simp only [kb_X12_outward_96, w_ald_0, w_iv0, tfr_0, tfr_1, tfr_2, tfr_3, tfr_4, w_if_eq, w_ic, w_ire, trg, true_and, and_true, Nat.reduceAdd, Nat.reduceSub, eq_self, tshm_14, tshm_31, tshm_32, tykm_31, tykm_32, tci_15, tci_960, tykm_14, tci_14, tshm_667, tshm_668, tshm_669, tshm_670, tykm_33, tci_700, tsn_671, tyn_17, tcn_10, tzs_672, tzs_673, tzs_680, tzs_681, tzs_682, tzs_683, tzs_684, tzs_685, tzs_686, tzs_687, tzs_688, tzs_689, tzy_15, tzy_35, tzy_36, tzy_37, tzy_38, tzy_39, tzy_40, tzc_60, tzc_320, tzc_5, tzc_4, tzc_8]
      refine tc_i (D := 0) (fun d' _ => c_isTooGreat c1) (by omega) ?_
      rintro z _ ⟨q4, rfl⟩
      try simp only [kb_X12_outward_96, w_ald_0, w_iv0, tfr_0, tfr_1, tfr_2, tfr_3, tfr_4, w_if_eq, w_ic, w_ire, trg, true_and, and_true, Nat.reduceAdd, Nat.reduceSub, eq_self, tshm_14, tshm_31, tshm_32, tykm_31, tykm_32, tci_15, tci_960, tykm_14, tci_14, tshm_667, tshm_668, tshm_669, tshm_670, tykm_33, tci_700, tsn_671, tyn_17, tcn_10, tzs_672, tzs_673, tzs_680, tzs_681, tzs_682, tzs_683, tzs_684, tzs_685, tzs_686, tzs_687, tzs_688, tzs_689, tzy_15, tzy_35, tzy_36, tzy_37, tzy_38, tzy_39, tzy_40, tzc_60, tzc_320, tzc_5, tzc_4, tzc_8]
      refine ⟨by omega, fun hz => ?_, fun hz => ⟨2, rfl, rfl, Or.inr rfl, fun q => absurd q (by decide), xE_u u1⟩⟩
      have q5 : ¬ far (zb M1) := by rcases q4 with ⟨q, -⟩ | ⟨-, q⟩; omega; exact q
      have q6 := nfar q5
      unfold cb at c1
      have e7 : M1 667 b = M 667 b := u1 667 b (by omega)
      have e8 : M1 668 b = M 668 b := u1 668 b (by omega)
      unfold zb at q6 z1
      refine tb_X12_outward_105 (c := false) ?_
      simp only [kb_X12_outward_105, w_ald_0, w_ild_1, w_gf_14_4, tw_f, w_gf_14_5, w_iv3, tfr_0, tfr_1, tfr_2, tfr_3, tfr_4, w_gf_14_6, w_la, w_lax, w_lld4, w_lsub, w_pf_14_4, w_gf_14_7, w_lld_2, w_pf_14_5, w_lc0, w_lcmp, ne_eq, tlc_r, tlc_eq, tlc_lt, tlc_ge, tlc_gt, tlc_le, w_if_ge, w_dupi, w_dupr, w_ld2, w_ladd, w_lc1, w_nil, true_and, and_true, Nat.reduceAdd, Nat.reduceSub, eq_self, tshm_14, tshm_31, tshm_32, tykm_31, tykm_32, tci_15, tci_960, tykm_14, tci_14, tshm_667, tshm_668, tshm_669, tshm_670, tykm_33, tci_700, tsn_671, tyn_17, tcn_10, tzs_672, tzs_673, tzs_680, tzs_681, tzs_682, tzs_683, tzs_684, tzs_685, tzs_686, tzs_687, tzs_688, tzs_689, tzy_15, tzy_35, tzy_36, tzy_37, tzy_38, tzy_39, tzy_40, tzc_60, tzc_320, tzc_5, tzc_4, tzc_8]
      refine tc_n (D := 0) (fun d' _ => c_high hb) (by omega) ?_
      rintro _ rfl
      have x2 : xE (fun r => r = b) M (sHi M1 b (M1 664 4) (M1 664 5)) := xE_tr (xE_u u1) (sHi_xE rfl c1.1 (by omega))
      have k7 : sHi M1 b (M1 664 4) (M1 664 5) 667 b = M 667 b := by rw [← e7]; unfold sHi; simp (disch := decide) only [tU_nk]
      have k8 : sHi M1 b (M1 664 4) (M1 664 5) 668 b = M 668 b := by rw [← e8]; unfold sHi; simp (disch := decide) only [tU_nk]
      have g2 : zhi (sHi M1 b (M1 664 4) (M1 664 5)) b = M1 664 4 * 1000000000 + M1 664 5 := sHi_hi ..
      generalize sHi M1 b (M1 664 4) (M1 664 5) = M2 at x2 k7 k8 g2 ⊢
      try simp (disch := decide) only [kb_X12_outward_105, w_ald_0, w_ild_1, w_gf_14_4, tw_f, w_gf_14_5, w_iv3, tfr_0, tfr_1, tfr_2, tfr_3, tfr_4, w_gf_14_6, w_la, w_lax, w_lld4, w_lsub, w_pf_14_4, w_gf_14_7, w_lld_2, w_pf_14_5, w_lc0, w_lcmp, ne_eq, tlc_r, tlc_eq, tlc_lt, tlc_ge, tlc_gt, tlc_le, w_if_ge, w_dupi, w_dupr, w_ld2, w_ladd, w_lc1, w_nil, true_and, and_true, Nat.reduceAdd, Nat.reduceSub, eq_self, tshm_14, tshm_31, tshm_32, tykm_31, tykm_32, tci_15, tci_960, tykm_14, tci_14, tshm_667, tshm_668, tshm_669, tshm_670, tykm_33, tci_700, tsn_671, tyn_17, tcn_10, tzs_672, tzs_673, tzs_680, tzs_681, tzs_682, tzs_683, tzs_684, tzs_685, tzs_686, tzs_687, tzs_688, tzs_689, tzy_15, tzy_35, tzy_36, tzy_37, tzy_38, tzy_39, tzy_40, tzc_60, tzc_320, tzc_5, tzc_4, tzc_8, k7, k8, tU_nk, tU_ni, tU_eq]
      have lo : zlo M b = M 667 b * 1000000000 + M 668 b := rfl
      have hi : zhi M b = M 669 b * 1000000000 + M 670 b := rfl
      have u3 : uE M2 (tU (tU M2 664 4 (M 667 b - m)) 664 5 (M 668 b - u)) := uE_tr uE_4 uE_5
      refine ⟨hb, hb, by omega, fun q => n174 M2 _ x2 u3 ?_ ?_ (by omega) ?_, fun q => n174 M2 _ x2 (uE_tr u3 (uE_tr uE_5 uE_4)) ?_ ?_ (by omega) ?_⟩
      · unfold cb; simp (disch := decide) only [tU_nk, tU_ni, tU_eq]; omega
      · unfold zb; simp (disch := decide) only [tU_nk, tU_ni, tU_eq]; omega
      · unfold zb; simp (disch := decide) only [tU_nk, tU_ni, tU_eq]; omega
      · unfold cb; simp (disch := decide) only [tU_nk, tU_ni, tU_eq]; omega
      · unfold zb; simp (disch := decide) only [tU_nk, tU_ni, tU_eq]; omega
      · unfold zb; simp (disch := decide) only [tU_nk, tU_ni, tU_eq]; omega
    have hi : zhi M b = M 669 b * 1000000000 + M 670 b := rfl
    have u0 : uE M (tU (tU M 664 4 (M 669 b + m)) 664 5 (M 670 b + u)) := uE_tr uE_4 uE_5
    refine tb_X12_outward_36 (c := false) ?_
    simp (disch := decide) only [kb_X12_outward_36, w_lst4, tkl_n, tkl_i, tkl_l, tkl_r, w_ald_0, w_gf_14_8, tw_f, w_ild_1, w_la, w_lax, w_lld4, w_ladd, w_pf_14_4, w_gf_14_9, w_lld_2, w_pf_14_5, w_gf_14_5, w_ld2, w_lcmp, ne_eq, tlc_r, tlc_eq, tlc_lt, tlc_ge, tlc_gt, tlc_le, w_if_lt, w_dupi, w_dupr, w_lsub, w_gf_14_4, w_lc1, w_nil, true_and, and_true, Nat.reduceAdd, Nat.reduceSub, eq_self, tshm_14, tshm_31, tshm_32, tykm_31, tykm_32, tci_15, tci_960, tykm_14, tci_14, tshm_667, tshm_668, tshm_669, tshm_670, tykm_33, tci_700, tsn_671, tyn_17, tcn_10, tzs_672, tzs_673, tzs_680, tzs_681, tzs_682, tzs_683, tzs_684, tzs_685, tzs_686, tzs_687, tzs_688, tzs_689, tzy_15, tzy_35, tzy_36, tzy_37, tzy_38, tzy_39, tzy_40, tzc_60, tzc_320, tzc_5, tzc_4, tzc_8, tU_nk, tU_ni, tU_eq]
    refine ⟨hb, hb, by omega, fun q => n96 _ u0 ?_ ?_ ?_, fun q => n96 _ (uE_tr u0 (uE_tr uE_5 uE_4)) ?_ ?_ ?_⟩
    · unfold cb; simp (disch := decide) only [tU_nk, tU_ni, tU_eq]; omega
    · unfold zb; simp (disch := decide) only [tU_nk, tU_ni, tU_eq]; omega
    · unfold zb; simp (disch := decide) only [tU_nk, tU_ni, tU_eq]; omega
    · unfold cb; simp (disch := decide) only [tU_nk, tU_ni, tU_eq]; omega
    · unfold zb; simp (disch := decide) only [tU_nk, tU_ni, tU_eq]; omega
    · unfold zb; simp (disch := decide) only [tU_nk, tU_ni, tU_eq]; omega
  have n21 : ∀ u : Int, (0 ≤ u ∧ u ≤ 1000000000) → tT e d 3672 21 [some (.inr (.inr (.inl 664))), some (.inl (b)), none, none, none, none] [.inr (.inl u)] M n (tQi n (fun z M' => (z = 0 ∨ z = 2) ∧ (z = 0 → OB M' b) ∧ xE (fun r => r = b) M M')) := by
    intro u hu
    refine tb_X12_outward_21 (c := false) ?_
    simp only [kb_X12_outward_21, w_lst_2, tkl_n, tkl_i, tkl_l, tkl_r, w_ald_0, w_gf_14_2, tw_f, w_if_ne, w_ld2, w_goto, true_and, and_true, Nat.reduceAdd, Nat.reduceSub, eq_self, tshm_14, tshm_31, tshm_32, tykm_31, tykm_32, tci_15, tci_960, tykm_14, tci_14, tshm_667, tshm_668, tshm_669, tshm_670, tykm_33, tci_700, tsn_671, tyn_17, tcn_10, tzs_672, tzs_673, tzs_680, tzs_681, tzs_682, tzs_683, tzs_684, tzs_685, tzs_686, tzs_687, tzs_688, tzs_689, tzy_15, tzy_35, tzy_36, tzy_37, tzy_38, tzy_39, tzy_40, tzc_60, tzc_320, tzc_5, tzc_4, tzc_8]
    refine ⟨by omega, fun q => ?_, fun q => n36 u 10 hu (by omega)⟩
    refine tb_X12_outward_35 (c := false) ?_
    simp only [kb_X12_outward_35, w_lc0, w_nil, true_and, and_true, Nat.reduceAdd, Nat.reduceSub, eq_self]
    exact n36 u 0 hu (by omega)
  refine tb_X12_outward_0 (c := false) ?_
  simp only [kb_X12_outward_0, w_ald_0, w_gf_14_2, tw_f, w_if_ne, w_lc0, w_goto, true_and, and_true, Nat.reduceAdd, Nat.reduceSub, eq_self, tshm_14, tshm_31, tshm_32, tykm_31, tykm_32, tci_15, tci_960, tykm_14, tci_14, tshm_667, tshm_668, tshm_669, tshm_670, tykm_33, tci_700, tsn_671, tyn_17, tcn_10, tzs_672, tzs_673, tzs_680, tzs_681, tzs_682, tzs_683, tzs_684, tzs_685, tzs_686, tzs_687, tzs_688, tzs_689, tzy_15, tzy_35, tzy_36, tzy_37, tzy_38, tzy_39, tzy_40, tzc_60, tzc_320, tzc_5, tzc_4, tzc_8]
  refine ⟨by omega, fun q => ?_, fun q => n21 0 (by omega)⟩
  refine tb_X12_outward_11 (c := false) ?_
  simp only [kb_X12_outward_11, w_bi, w_ald_0, w_gf_14_2, tw_f, w_isub, w_is1, tfr_0, tfr_1, tfr_2, tfr_3, tfr_4, w_nil, true_and, and_true, Nat.reduceAdd, Nat.reduceSub, eq_self, tshm_14, tshm_31, tshm_32, tykm_31, tykm_32, tci_15, tci_960, tykm_14, tci_14, tshm_667, tshm_668, tshm_669, tshm_670, tykm_33, tci_700, tsn_671, tyn_17, tcn_10, tzs_672, tzs_673, tzs_680, tzs_681, tzs_682, tzs_683, tzs_684, tzs_685, tzs_686, tzs_687, tzs_688, tzs_689, tzy_15, tzy_35, tzy_36, tzy_37, tzy_38, tzy_39, tzy_40, tzc_60, tzc_320, tzc_5, tzc_4, tzc_8, h1]
  rw [show (10 : Int) - (D : Int) = ((10 - D : Nat) : Int) by omega]
  refine tc_l (D := 0) (fun d' hd' => c_ten (by omega)) (by omega) ?_
  rintro z M2 ⟨q1, rfl⟩
  try simp only [kb_X12_outward_11, w_bi, w_ald_0, w_gf_14_2, tw_f, w_isub, w_is1, tfr_0, tfr_1, tfr_2, tfr_3, tfr_4, w_nil, true_and, and_true, Nat.reduceAdd, Nat.reduceSub, eq_self, tshm_14, tshm_31, tshm_32, tykm_31, tykm_32, tci_15, tci_960, tykm_14, tci_14, tshm_667, tshm_668, tshm_669, tshm_670, tykm_33, tci_700, tsn_671, tyn_17, tcn_10, tzs_672, tzs_673, tzs_680, tzs_681, tzs_682, tzs_683, tzs_684, tzs_685, tzs_686, tzs_687, tzs_688, tzs_689, tzy_15, tzy_35, tzy_36, tzy_37, tzy_38, tzy_39, tzy_40, tzc_60, tzc_320, tzc_5, tzc_4, tzc_8]
  have t9 := tn_le9 (k := 10 - D) (by omega)
  exact n21 z (by omega)
theorem o_moves {fo a st g : Int} (h : MB M D g) (hF : FI M) (hf : 0 ≤ fo ∧ fo ≤ 3) (hu : M 687 fo ≠ 0) (ha : 0 ≤ a ∧ a ≤ 9) (oa : OB M a) (hs : 1 ≤ st ∧ st ≤ 1000) (hd : 72 ≤ d) : tC e d 3658 [.inr (.inr (.inl 664)), .inl 60, .inl fo, .inl a, .inl st] M n (tQi n (fun z M' => OK3 z M' 60 ∧ vE (fun r => 60 ≤ r) M M' ∧ M' 664 11 = 65)) := by
  refine tst_X12_moves ?_
  have ps : ∀ M2 : tM, vE (fun r => 60 ≤ r) M M2 → M2 664 11 = 65 → MB M2 D 65 ∧ FI M2 ∧ M2 687 fo ≠ 0 ∧ OB M2 a := fun M2 k1 k2 => ⟨MB_v h k1 k2 (by omega), FI_v hF k1, by rw [vE_k k1 687 fo (by omega)]; exact hu, OB_v oa k1 (by omega)⟩
  have mv : ∀ (M2 M3 : tM) (y : Int), vE (fun r => 60 ≤ r) M M2 → 60 ≤ y → xE (toF y 65) M2 M3 → vE (fun r => 60 ≤ r) M M3 := fun M2 M3 y k1 k2 k3 => vE_tr k1 (vE_y (yE_mono k3.1 (fun r q => by rcases q with q | q <;> omega)))
  have mw : ∀ (M2 M3 : tM) (y : Int), vE (fun r => 60 ≤ r) M M2 → 60 ≤ y → zE (toF y 65) M2 M3 → vE (fun r => 60 ≤ r) M M3 := fun M2 M3 y k1 k2 k3 => vE_tr k1 (vE_mono k3.1 (fun r q => by rcases q with q | q <;> omega))
  have mx : ∀ (M2 M3 : tM) (y : Int), vE (fun r => 60 ≤ r) M M2 → 60 ≤ y → xE (fun r => r = y) M2 M3 → vE (fun r => 60 ≤ r) M M3 := fun M2 M3 y k1 k2 k3 => vE_tr k1 (vE_y (yE_mono k3.1 (fun r q => by omega)))
  have n67 : ∀ (fu : Nat) (M1 : tM) (w k : Int) (A B : Option tV), vE (fun r => 60 ≤ r) M M1 → M1 664 11 = 65 → OB M1 61 → OB M1 64 → (0 ≤ k ∧ k ≤ 8) → 8 - k < (fu : Int) → tT e d 3658 67 [some (.inr (.inr (.inl 664))), some (.inl (60)), some (.inl (fo)), some (.inl (a)), some (.inl (st)), some (.inl (61)), some (.inl (62)), some (.inl (63)), some (.inl (64)), some (.inr (.inl (w))), none, some (.inl (k)), A, B] [] M1 n (tQi n (fun z M' => OK3 z M' 60 ∧ vE (fun r => 60 ≤ r) M M' ∧ M' 664 11 = 65)) := by
    intro fu
    induction fu with
    | zero => intro M1 w k A B a1 a2 a3 a4 a5 a6; exfalso; omega
    | succ fu ih =>
      intro M1 w k A B a1 a2 a3 a4 a5 a6
      have n191 : ∀ (M2 : tM) (z : Int) (B : Option tV), k < 8 → vE (fun r => 60 ≤ r) M M2 → M2 664 11 = 65 → OB M2 61 → OB M2 64 → OB M2 63 → tT e d 3658 191 [some (.inr (.inr (.inl 664))), some (.inl (60)), some (.inl (fo)), some (.inl (a)), some (.inl (st)), some (.inl (61)), some (.inl (62)), some (.inl (63)), some (.inl (64)), some (.inr (.inl (w))), none, some (.inl (k)), some (.inl (z)), B] [] M2 n (tQi n (fun z M' => OK3 z M' 60 ∧ vE (fun r => 60 ≤ r) M M' ∧ M' 664 11 = 65)) := by
        intro M2 z B hk b1 b2 b3 b4 b5
        obtain ⟨i1, i2, i3, i4⟩ := ps M2 b1 b2
        refine tb_X12_moves_191 (c := false) ?_
        simp only [kb_X12_moves_191, w_ald_0, w_ild5, w_ild7, w_ic, w_iv4, tfr_0, tfr_1, tfr_2, tfr_3, tfr_4, w_ist13, tkl_n, tkl_i, tkl_l, tkl_r, w_iv1, w_if_le, w_ire, trg, true_and, and_true, Nat.reduceAdd, Nat.reduceSub, eq_self, tshm_14, tshm_31, tshm_32, tykm_31, tykm_32, tci_15, tci_960, tykm_14, tci_14, tshm_667, tshm_668, tshm_669, tshm_670, tykm_33, tci_700, tsn_671, tyn_17, tcn_10, tzs_672, tzs_673, tzs_680, tzs_681, tzs_682, tzs_683, tzs_684, tzs_685, tzs_686, tzs_687, tzs_688, tzs_689, tzy_15, tzy_35, tzy_36, tzy_37, tzy_38, tzy_39, tzy_40, tzc_60, tzc_320, tzc_5, tzc_4, tzc_8]
        refine tc_i (D := 2) (fun d' hd' => o_joinsg i1.2.2.2.2.1 (by omega) (by omega) (by omega) b3 b5 (Or.inl rfl) hd') (by omega) ?_
        rintro v M3 ⟨r1, r2, r3⟩
        have v3 := mx M2 M3 61 b1 (by omega) r3
        have f3 := r3.2.trans b2
        have o3 : OB M3 61 := r2 (Or.inr rfl)
        have o4 : OB M3 64 := OB_y b4 r3.1 (by omega)
        try simp only [kb_X12_moves_191, w_ald_0, w_ild5, w_ild7, w_ic, w_iv4, tfr_0, tfr_1, tfr_2, tfr_3, tfr_4, w_ist13, tkl_n, tkl_i, tkl_l, tkl_r, w_iv1, w_if_le, w_ire, trg, true_and, and_true, Nat.reduceAdd, Nat.reduceSub, eq_self, tshm_14, tshm_31, tshm_32, tykm_31, tykm_32, tci_15, tci_960, tykm_14, tci_14, tshm_667, tshm_668, tshm_669, tshm_670, tykm_33, tci_700, tsn_671, tyn_17, tcn_10, tzs_672, tzs_673, tzs_680, tzs_681, tzs_682, tzs_683, tzs_684, tzs_685, tzs_686, tzs_687, tzs_688, tzs_689, tzy_15, tzy_35, tzy_36, tzy_37, tzy_38, tzy_39, tzy_40, tzc_60, tzc_320, tzc_5, tzc_4, tzc_8]
        refine tc_i (D := 2) (fun d' hd' => o_outward (ps M3 v3 f3).1 (by omega) o3 hd') (by omega) ?_
        rintro y M4 ⟨s1, s2, s3⟩
        have v4 := mx M3 M4 61 v3 (by omega) s3
        have f4 := s3.2.trans f3
        have hy : 0 ≤ y ∧ y ≤ 2 := by omega
        try simp only [kb_X12_moves_191, w_ald_0, w_ild5, w_ild7, w_ic, w_iv4, tfr_0, tfr_1, tfr_2, tfr_3, tfr_4, w_ist13, tkl_n, tkl_i, tkl_l, tkl_r, w_iv1, w_if_le, w_ire, trg, true_and, and_true, Nat.reduceAdd, Nat.reduceSub, eq_self, tshm_14, tshm_31, tshm_32, tykm_31, tykm_32, tci_15, tci_960, tykm_14, tci_14, tshm_667, tshm_668, tshm_669, tshm_670, tykm_33, tci_700, tsn_671, tyn_17, tcn_10, tzs_672, tzs_673, tzs_680, tzs_681, tzs_682, tzs_683, tzs_684, tzs_685, tzs_686, tzs_687, tzs_688, tzs_689, tzy_15, tzy_35, tzy_36, tzy_37, tzy_38, tzy_39, tzy_40, tzc_60, tzc_320, tzc_5, tzc_4, tzc_8]
        refine ⟨by omega, fun q => ?_, fun q => ⟨2, rfl, rfl, ⟨Or.inr (Or.inr rfl), fun q => absurd q (by decide)⟩, v4, f4⟩⟩
        refine tb_X12_moves_215 (c := false) ?_
        simp only [kb_X12_moves_215, w_inc11, tkl_n, tkl_i, tkl_l, tkl_r, w_goto, true_and, and_true, Nat.reduceAdd, Nat.reduceSub, eq_self]
        exact ih M4 w (k + 1) _ _ v4 f4 (s2 (by omega)) (OB_y o4 s3.1 (by omega)) (by omega) (by omega)
      have n190 : ∀ (L : tL) (M2 : tM) (z : Int), OK3 z M2 60 → vE (fun r => 60 ≤ r) M M2 → M2 664 11 = 65 → tT e d 3658 190 L [.inl z] M2 n (tQi n (fun z M' => OK3 z M' 60 ∧ vE (fun r => 60 ≤ r) M M' ∧ M' 664 11 = 65)) := by
        intro L M2 z b1 b2 b3
        refine tb_X12_moves_190 (c := false) ?_
        simp only [kb_X12_moves_190, w_ire, trg, true_and, and_true, Nat.reduceAdd, Nat.reduceSub, eq_self]
        exact ⟨z, rfl, rfl, b1, b2, b3⟩
      have n129 : ∀ (M2 : tM) (z : Int) (B : Option tV), k < 8 → vE (fun r => 60 ≤ r) M M2 → M2 664 11 = 65 → OB M2 61 → OB M2 64 → OB M2 63 → tT e d 3658 129 [some (.inr (.inr (.inl 664))), some (.inl (60)), some (.inl (fo)), some (.inl (a)), some (.inl (st)), some (.inl (61)), some (.inl (62)), some (.inl (63)), some (.inl (64)), some (.inr (.inl (w))), none, some (.inl (k)), some (.inl (z)), B] [] M2 n (tQi n (fun z M' => OK3 z M' 60 ∧ vE (fun r => 60 ≤ r) M M' ∧ M' 664 11 = 65)) := by
        intro M2 z B hk b1 b2 b3 b4 b5
        obtain ⟨i1, i2, i3, i4⟩ := ps M2 b1 b2
        have c64 := i1.2.2.2.2.1 64 (by omega) (by omega)
        unfold bcan at c64
        refine tb_X12_moves_129 (c := false) ?_
        simp only [kb_X12_moves_129, w_ald_0, w_ild7, w_ild5, w_iv2, tfr_0, tfr_1, tfr_2, tfr_3, tfr_4, w_if_eq, w_ild8, w_gf_14_8, tw_f, w_la, w_lax, w_gf_14_9, w_iv3, w_ild6, w_ist12, tkl_n, tkl_i, tkl_l, tkl_r, w_ild12, w_if_le, w_goto, true_and, and_true, Nat.reduceAdd, Nat.reduceSub, eq_self, tshm_14, tshm_31, tshm_32, tykm_31, tykm_32, tci_15, tci_960, tykm_14, tci_14, tshm_667, tshm_668, tshm_669, tshm_670, tykm_33, tci_700, tsn_671, tyn_17, tcn_10, tzs_672, tzs_673, tzs_680, tzs_681, tzs_682, tzs_683, tzs_684, tzs_685, tzs_686, tzs_687, tzs_688, tzs_689, tzy_15, tzy_35, tzy_36, tzy_37, tzy_38, tzy_39, tzy_40, tzc_60, tzc_320, tzc_5, tzc_4, tzc_8]
        refine tc_i (D := 1) (fun d' hd' => o_isWithinOf i1.2.2.2.2.1 (by omega) (by omega) hd') (by omega) ?_
        rintro v M3 ⟨r1, rfl⟩
        try simp only [kb_X12_moves_129, w_ald_0, w_ild7, w_ild5, w_iv2, tfr_0, tfr_1, tfr_2, tfr_3, tfr_4, w_if_eq, w_ild8, w_gf_14_8, tw_f, w_la, w_lax, w_gf_14_9, w_iv3, w_ild6, w_ist12, tkl_n, tkl_i, tkl_l, tkl_r, w_ild12, w_if_le, w_goto, true_and, and_true, Nat.reduceAdd, Nat.reduceSub, eq_self, tshm_14, tshm_31, tshm_32, tykm_31, tykm_32, tci_15, tci_960, tykm_14, tci_14, tshm_667, tshm_668, tshm_669, tshm_670, tykm_33, tci_700, tsn_671, tyn_17, tcn_10, tzs_672, tzs_673, tzs_680, tzs_681, tzs_682, tzs_683, tzs_684, tzs_685, tzs_686, tzs_687, tzs_688, tzs_689, tzy_15, tzy_35, tzy_36, tzy_37, tzy_38, tzy_39, tzy_40, tzc_60, tzc_320, tzc_5, tzc_4, tzc_8]
        refine ⟨by omega, fun q => n191 _ z _ hk b1 b2 b3 b4 b5, fun q => ⟨by omega, by omega, ?_⟩⟩
        refine tc_n (D := 0) (fun d' _ => c_low (by omega)) (by omega) ?_
        rintro _ rfl
        have x5 : xE (fun r => r = 64) M3 (sLo M3 64 (M3 669 64) (M3 670 64)) := sLo_xE rfl c64.1.2 (by omega)
        generalize sLo M3 64 (M3 669 64) (M3 670 64) = M5 at x5 ⊢
        have v5 := mx M3 M5 64 b1 (by omega) x5
        have f5 := x5.2.trans b2
        try simp only [kb_X12_moves_129, w_ald_0, w_ild7, w_ild5, w_iv2, tfr_0, tfr_1, tfr_2, tfr_3, tfr_4, w_if_eq, w_ild8, w_gf_14_8, tw_f, w_la, w_lax, w_gf_14_9, w_iv3, w_ild6, w_ist12, tkl_n, tkl_i, tkl_l, tkl_r, w_ild12, w_if_le, w_goto, true_and, and_true, Nat.reduceAdd, Nat.reduceSub, eq_self, tshm_14, tshm_31, tshm_32, tykm_31, tykm_32, tci_15, tci_960, tykm_14, tci_14, tshm_667, tshm_668, tshm_669, tshm_670, tykm_33, tci_700, tsn_671, tyn_17, tcn_10, tzs_672, tzs_673, tzs_680, tzs_681, tzs_682, tzs_683, tzs_684, tzs_685, tzs_686, tzs_687, tzs_688, tzs_689, tzy_15, tzy_35, tzy_36, tzy_37, tzy_38, tzy_39, tzy_40, tzc_60, tzc_320, tzc_5, tzc_4, tzc_8]
        refine tc_i (D := 6) (fun d' hd' => o_product (ps M5 v5 f5).1 (by omega) (by omega) (by omega) hd') (by omega) ?_
        rintro z2 M6 ⟨s1, s2⟩
        have v6 := mv M5 M6 63 v5 (by omega) s2
        have f6 := s2.2.trans f5
        have hz2 := z3_r s1.1
        try simp only [kb_X12_moves_129, w_ald_0, w_ild7, w_ild5, w_iv2, tfr_0, tfr_1, tfr_2, tfr_3, tfr_4, w_if_eq, w_ild8, w_gf_14_8, tw_f, w_la, w_lax, w_gf_14_9, w_iv3, w_ild6, w_ist12, tkl_n, tkl_i, tkl_l, tkl_r, w_ild12, w_if_le, w_goto, true_and, and_true, Nat.reduceAdd, Nat.reduceSub, eq_self, tshm_14, tshm_31, tshm_32, tykm_31, tykm_32, tci_15, tci_960, tykm_14, tci_14, tshm_667, tshm_668, tshm_669, tshm_670, tykm_33, tci_700, tsn_671, tyn_17, tcn_10, tzs_672, tzs_673, tzs_680, tzs_681, tzs_682, tzs_683, tzs_684, tzs_685, tzs_686, tzs_687, tzs_688, tzs_689, tzy_15, tzy_35, tzy_36, tzy_37, tzy_38, tzy_39, tzy_40, tzc_60, tzc_320, tzc_5, tzc_4, tzc_8]
        refine ⟨by omega, fun q => ?_, fun q => n190 _ M6 z2 ⟨s1.1, fun g => absurd g (by omega)⟩ v6 f6⟩
        refine tb_X12_moves_182 (c := false) ?_
        simp only [kb_X12_moves_182, w_ald_0, w_ild_1, w_ild_3, w_ild7, w_iv3, tfr_0, tfr_1, tfr_2, tfr_3, tfr_4, w_nil, true_and, and_true, Nat.reduceAdd, Nat.reduceSub, eq_self, tshm_14, tshm_31, tshm_32, tykm_31, tykm_32, tci_15, tci_960, tykm_14, tci_14, tshm_667, tshm_668, tshm_669, tshm_670, tykm_33, tci_700, tsn_671, tyn_17, tcn_10, tzs_672, tzs_673, tzs_680, tzs_681, tzs_682, tzs_683, tzs_684, tzs_685, tzs_686, tzs_687, tzs_688, tzs_689, tzy_15, tzy_35, tzy_36, tzy_37, tzy_38, tzy_39, tzy_40, tzc_60, tzc_320, tzc_5, tzc_4, tzc_8]
        refine tc_i (D := 3) (fun d' hd' => o_sum (ps M6 v6 f6).1 (by omega) (by omega) (by omega) (ps M6 v6 f6).2.2.2 (s1.2 (by omega)) hd') (by omega) ?_
        rintro z3 M7 ⟨t1, t2⟩
        try simp only [kb_X12_moves_182, w_ald_0, w_ild_1, w_ild_3, w_ild7, w_iv3, tfr_0, tfr_1, tfr_2, tfr_3, tfr_4, w_nil, true_and, and_true, Nat.reduceAdd, Nat.reduceSub, eq_self, tshm_14, tshm_31, tshm_32, tykm_31, tykm_32, tci_15, tci_960, tykm_14, tci_14, tshm_667, tshm_668, tshm_669, tshm_670, tykm_33, tci_700, tsn_671, tyn_17, tcn_10, tzs_672, tzs_673, tzs_680, tzs_681, tzs_682, tzs_683, tzs_684, tzs_685, tzs_686, tzs_687, tzs_688, tzs_689, tzy_15, tzy_35, tzy_36, tzy_37, tzy_38, tzy_39, tzy_40, tzc_60, tzc_320, tzc_5, tzc_4, tzc_8]
        exact n190 _ M7 z3 t1 (mv M6 M7 60 v6 (by omega) t2) (t2.2.trans f6)
      have n121 : ∀ (M2 : tM) (z : Int) (B : Option tV), k < 8 → (z = 0 ∨ z = 1 ∨ z = 2) → vE (fun r => 60 ≤ r) M M2 → M2 664 11 = 65 → OB M2 61 → OB M2 64 → (z = 0 → OB M2 63) → tT e d 3658 121 [some (.inr (.inr (.inl 664))), some (.inl (60)), some (.inl (fo)), some (.inl (a)), some (.inl (st)), some (.inl (61)), some (.inl (62)), some (.inl (63)), some (.inl (64)), some (.inr (.inl (w))), none, some (.inl (k)), some (.inl (z)), B] [] M2 n (tQi n (fun z M' => OK3 z M' 60 ∧ vE (fun r => 60 ≤ r) M M' ∧ M' 664 11 = 65)) := by
        intro M2 z B hk hz b1 b2 b3 b4 b5
        have hzr := z3_r hz
        refine tb_X12_moves_121 (c := false) ?_
        simp only [kb_X12_moves_121, w_ild12, w_if_le, w_ire, trg, true_and, and_true, Nat.reduceAdd, Nat.reduceSub, eq_self]
        exact ⟨by omega, fun q => n129 M2 z _ hk b1 b2 b3 b4 (b5 (by omega)), fun q => ⟨z, rfl, rfl, ⟨hz, fun g => absurd g (by omega)⟩, b1, b2⟩⟩
      have n105 : ∀ (M2 : tM) (z : Int) (B : Option tV), k < 8 → (z = 0 ∨ z = 1 ∨ z = 2) → vE (fun r => 60 ≤ r) M M2 → M2 664 11 = 65 → OB M2 61 → OB M2 64 → (z = 0 → OB M2 63) → tT e d 3658 105 [some (.inr (.inr (.inl 664))), some (.inl (60)), some (.inl (fo)), some (.inl (a)), some (.inl (st)), some (.inl (61)), some (.inl (62)), some (.inl (63)), some (.inl (64)), some (.inr (.inl (w))), none, some (.inl (k)), some (.inl (z)), B] [] M2 n (tQi n (fun z M' => OK3 z M' 60 ∧ vE (fun r => 60 ≤ r) M M' ∧ M' 664 11 = 65)) := by
        intro M2 z B hk hz b1 b2 b3 b4 b5
        have hzr := z3_r hz
        refine tb_X12_moves_105 (c := false) ?_
        simp only [kb_X12_moves_105, w_ild12, w_if_ne, w_ald_0, w_ild7, w_ild_3, w_iv3, tfr_0, tfr_1, tfr_2, tfr_3, tfr_4, w_ist12, tkl_n, tkl_i, tkl_l, tkl_r, w_nil, true_and, and_true, Nat.reduceAdd, Nat.reduceSub, eq_self, tshm_14, tshm_31, tshm_32, tykm_31, tykm_32, tci_15, tci_960, tykm_14, tci_14, tshm_667, tshm_668, tshm_669, tshm_670, tykm_33, tci_700, tsn_671, tyn_17, tcn_10, tzs_672, tzs_673, tzs_680, tzs_681, tzs_682, tzs_683, tzs_684, tzs_685, tzs_686, tzs_687, tzs_688, tzs_689, tzy_15, tzy_35, tzy_36, tzy_37, tzy_38, tzy_39, tzy_40, tzc_60, tzc_320, tzc_5, tzc_4, tzc_8]
        refine ⟨by omega, fun q => n121 M2 z _ hk hz b1 b2 b3 b4 (fun g => absurd g q), fun q => ?_⟩
        refine tc_i (D := 3) (fun d' hd' => o_sum (ps M2 b1 b2).1 (by omega) (by omega) (by omega) (ps M2 b1 b2).2.2.2 (b5 (by omega)) hd') (by omega) ?_
        rintro z3 M7 ⟨t1, t2⟩
        try simp only [kb_X12_moves_105, w_ild12, w_if_ne, w_ald_0, w_ild7, w_ild_3, w_iv3, tfr_0, tfr_1, tfr_2, tfr_3, tfr_4, w_ist12, tkl_n, tkl_i, tkl_l, tkl_r, w_nil, true_and, and_true, Nat.reduceAdd, Nat.reduceSub, eq_self, tshm_14, tshm_31, tshm_32, tykm_31, tykm_32, tci_15, tci_960, tykm_14, tci_14, tshm_667, tshm_668, tshm_669, tshm_670, tykm_33, tci_700, tsn_671, tyn_17, tcn_10, tzs_672, tzs_673, tzs_680, tzs_681, tzs_682, tzs_683, tzs_684, tzs_685, tzs_686, tzs_687, tzs_688, tzs_689, tzy_15, tzy_35, tzy_36, tzy_37, tzy_38, tzy_39, tzy_40, tzc_60, tzc_320, tzc_5, tzc_4, tzc_8]
        exact n121 M7 z3 _ hk t1.1 (mv M2 M7 63 b1 (by omega) t2) (t2.2.trans b2) (OB_x t2 b3 (by omega) (by omega)) (OB_x t2 b4 (by omega) (by omega)) t1.2
      obtain ⟨i1, i2, i3, i4⟩ := ps M1 a1 a2
      refine tb_X12_moves_67 (c := false) ?_
      simp only [kb_X12_moves_67, w_ild11, w_bi, w_ic_ge, w_ald_0, w_ild6, w_ild_2, w_ild5, w_ic, w_iv5, tfr_0, tfr_1, tfr_2, tfr_3, tfr_4, w_ist12, tkl_n, tkl_i, tkl_l, tkl_r, w_ild12, w_if_ne, w_ild7, w_ild8, w_iv3, w_nil, true_and, and_true, Nat.reduceAdd, Nat.reduceSub, eq_self, tshm_14, tshm_31, tshm_32, tykm_31, tykm_32, tci_15, tci_960, tykm_14, tci_14, tshm_667, tshm_668, tshm_669, tshm_670, tykm_33, tci_700, tsn_671, tyn_17, tcn_10, tzs_672, tzs_673, tzs_680, tzs_681, tzs_682, tzs_683, tzs_684, tzs_685, tzs_686, tzs_687, tzs_688, tzs_689, tzy_15, tzy_35, tzy_36, tzy_37, tzy_38, tzy_39, tzy_40, tzc_60, tzc_320, tzc_5, tzc_4, tzc_8]
      refine ⟨by omega, fun q => ?_, fun q => ?_⟩
      · refine tb_X12_moves_221 (c := false) ?_
        simp only [kb_X12_moves_221, w_ic, w_ire, trg, true_and, and_true, Nat.reduceAdd, Nat.reduceSub, eq_self]
        exact ⟨2, rfl, rfl, ⟨Or.inr (Or.inr rfl), fun q => absurd q (by decide)⟩, a1, a2⟩
      refine tc_i (D := 71) (fun d' hd' => o_told i1 i2 hf i3 (by omega) a3 (by omega) a3 (by omega) (by omega) (Or.inl rfl) hd') (by omega) ?_
      rintro z M2 ⟨p1, p2⟩
      have v2 := mw M1 M2 62 a1 (by omega) p2
      have f2 := p2.2.trans a2
      have o61 := OB_z a3 p2 (by omega) (by omega)
      have o64 := OB_z a4 p2 (by omega) (by omega)
      have hz := p1.1
      have hzr := z3_r hz
      try simp only [kb_X12_moves_67, w_ild11, w_bi, w_ic_ge, w_ald_0, w_ild6, w_ild_2, w_ild5, w_ic, w_iv5, tfr_0, tfr_1, tfr_2, tfr_3, tfr_4, w_ist12, tkl_n, tkl_i, tkl_l, tkl_r, w_ild12, w_if_ne, w_ild7, w_ild8, w_iv3, w_nil, true_and, and_true, Nat.reduceAdd, Nat.reduceSub, eq_self, tshm_14, tshm_31, tshm_32, tykm_31, tykm_32, tci_15, tci_960, tykm_14, tci_14, tshm_667, tshm_668, tshm_669, tshm_670, tykm_33, tci_700, tsn_671, tyn_17, tcn_10, tzs_672, tzs_673, tzs_680, tzs_681, tzs_682, tzs_683, tzs_684, tzs_685, tzs_686, tzs_687, tzs_688, tzs_689, tzy_15, tzy_35, tzy_36, tzy_37, tzy_38, tzy_39, tzy_40, tzc_60, tzc_320, tzc_5, tzc_4, tzc_8]
      refine ⟨by omega, fun q => n105 M2 z _ (by omega) hz v2 f2 o61 o64 (fun g => absurd g q), fun q => ?_⟩
      refine tc_i (D := 6) (fun d' hd' => o_product (ps M2 v2 f2).1 (by omega) (by omega) (by omega) hd') (by omega) ?_
      rintro z2 M3 ⟨s1, s2⟩
      try simp only [kb_X12_moves_67, w_ild11, w_bi, w_ic_ge, w_ald_0, w_ild6, w_ild_2, w_ild5, w_ic, w_iv5, tfr_0, tfr_1, tfr_2, tfr_3, tfr_4, w_ist12, tkl_n, tkl_i, tkl_l, tkl_r, w_ild12, w_if_ne, w_ild7, w_ild8, w_iv3, w_nil, true_and, and_true, Nat.reduceAdd, Nat.reduceSub, eq_self, tshm_14, tshm_31, tshm_32, tykm_31, tykm_32, tci_15, tci_960, tykm_14, tci_14, tshm_667, tshm_668, tshm_669, tshm_670, tykm_33, tci_700, tsn_671, tyn_17, tcn_10, tzs_672, tzs_673, tzs_680, tzs_681, tzs_682, tzs_683, tzs_684, tzs_685, tzs_686, tzs_687, tzs_688, tzs_689, tzy_15, tzy_35, tzy_36, tzy_37, tzy_38, tzy_39, tzy_40, tzc_60, tzc_320, tzc_5, tzc_4, tzc_8]
      exact n105 M3 z2 _ (by omega) s1.1 (mv M2 M3 63 v2 (by omega) s2) (s2.2.trans f2) (OB_x s2 o61 (by omega) (by omega)) (OB_x s2 o64 (by omega) (by omega)) s1.2
  have v0 : vE (fun r => 60 ≤ r) M (tU M 664 11 65) := vE_free
  have f0 : tU M 664 11 65 664 11 = 65 := tU_eq ..
  refine tb_X12_moves_0 (c := false) ?_
  simp only [kb_X12_moves_0, w_bi, w_ist5, tkl_n, tkl_i, tkl_l, tkl_r, w_ist6, w_ist7, w_ist8, w_ald_0, w_pf_14_11, w_ild_3, w_ild5, w_iv2, tfr_0, tfr_1, tfr_2, tfr_3, tfr_4, w_ild4, w_i2l, w_ld2, w_lmul, tw_f, w_lst9, w_ild8, w_lc0, w_iv3, w_lld9, w_ldiv, w_lrem, w_ic, w_ist11, w_nil, true_and, and_true, Nat.reduceAdd, Nat.reduceSub, eq_self, tshm_14, tshm_31, tshm_32, tykm_31, tykm_32, tci_15, tci_960, tykm_14, tci_14, tshm_667, tshm_668, tshm_669, tshm_670, tykm_33, tci_700, tsn_671, tyn_17, tcn_10, tzs_672, tzs_673, tzs_680, tzs_681, tzs_682, tzs_683, tzs_684, tzs_685, tzs_686, tzs_687, tzs_688, tzs_689, tzy_15, tzy_35, tzy_36, tzy_37, tzy_38, tzy_39, tzy_40, tzc_60, tzc_320, tzc_5, tzc_4, tzc_8]
  generalize tU M 664 11 65 = M0 at v0 f0 ⊢
  obtain ⟨i1, i2, i3, i4⟩ := ps M0 v0 f0
  refine tc_n (D := 0) (fun d' _ => c_takes (by omega) (by omega)) (by omega) ?_
  rintro _ rfl
  have x1 : xE (fun r => r = 61) M0 (sTk M0 a 61) := sTk_xE rfl (i1.2.2.2.2.1 a (by omega) (by omega))
  have o1 : OB (sTk M0 a 61) 61 := by
    unfold OB at i4 ⊢
    rw [sTk_lo, sTk_hi]
    exact i4
  generalize sTk M0 a 61 = M1 at x1 o1 ⊢
  have v1 := mx M0 M1 61 v0 (by omega) x1
  have f1 := x1.2.trans f0
  try simp only [kb_X12_moves_0, w_bi, w_ist5, tkl_n, tkl_i, tkl_l, tkl_r, w_ist6, w_ist7, w_ist8, w_ald_0, w_pf_14_11, w_ild_3, w_ild5, w_iv2, tfr_0, tfr_1, tfr_2, tfr_3, tfr_4, w_ild4, w_i2l, w_ld2, w_lmul, tw_f, w_lst9, w_ild8, w_lc0, w_iv3, w_lld9, w_ldiv, w_lrem, w_ic, w_ist11, w_nil, true_and, and_true, Nat.reduceAdd, Nat.reduceSub, eq_self, tshm_14, tshm_31, tshm_32, tykm_31, tykm_32, tci_15, tci_960, tykm_14, tci_14, tshm_667, tshm_668, tshm_669, tshm_670, tykm_33, tci_700, tsn_671, tyn_17, tcn_10, tzs_672, tzs_673, tzs_680, tzs_681, tzs_682, tzs_683, tzs_684, tzs_685, tzs_686, tzs_687, tzs_688, tzs_689, tzy_15, tzy_35, tzy_36, tzy_37, tzy_38, tzy_39, tzy_40, tzc_60, tzc_320, tzc_5, tzc_4, tzc_8]
  refine ⟨by omega, ?_⟩
  refine tc_n (D := 0) (fun d' _ => c_low (by omega)) (by omega) ?_
  rintro _ rfl
  have x2 : xE (fun r => r = 64) M1 (sLo M1 64 0 0) := sLo_xE rfl (by omega) (by omega)
  have l2 : zlo (sLo M1 64 0 0) 64 = 0 * 1000000000 + 0 := sLo_lo ..
  generalize sLo M1 64 0 0 = M2 at x2 l2 ⊢
  have ed : (st * 10000000).tdiv 1000000000 = st * 10000000 / 1000000000 := Int.tdiv_eq_ediv_of_nonneg (by omega)
  have em : (st * 10000000).tmod 1000000000 = st * 10000000 % 1000000000 := Int.tmod_eq_emod_of_nonneg (by omega)
  try simp only [kb_X12_moves_0, w_bi, w_ist5, tkl_n, tkl_i, tkl_l, tkl_r, w_ist6, w_ist7, w_ist8, w_ald_0, w_pf_14_11, w_ild_3, w_ild5, w_iv2, tfr_0, tfr_1, tfr_2, tfr_3, tfr_4, w_ild4, w_i2l, w_ld2, w_lmul, tw_f, w_lst9, w_ild8, w_lc0, w_iv3, w_lld9, w_ldiv, w_lrem, w_ic, w_ist11, w_nil, true_and, and_true, Nat.reduceAdd, Nat.reduceSub, eq_self, tshm_14, tshm_31, tshm_32, tykm_31, tykm_32, tci_15, tci_960, tykm_14, tci_14, tshm_667, tshm_668, tshm_669, tshm_670, tykm_33, tci_700, tsn_671, tyn_17, tcn_10, tzs_672, tzs_673, tzs_680, tzs_681, tzs_682, tzs_683, tzs_684, tzs_685, tzs_686, tzs_687, tzs_688, tzs_689, tzy_15, tzy_35, tzy_36, tzy_37, tzy_38, tzy_39, tzy_40, tzc_60, tzc_320, tzc_5, tzc_4, tzc_8]
  rw [ed, em]
  refine ⟨by omega, by omega, ?_⟩
  refine tc_n (D := 0) (fun d' _ => c_high (by omega)) (by omega) ?_
  rintro _ rfl
  have x3 : xE (fun r => r = 64) M2 (sHi M2 64 (st * 10000000 / 1000000000) (st * 10000000 % 1000000000)) := sHi_xE rfl (by omega) (by omega)
  have h3 : zhi (sHi M2 64 (st * 10000000 / 1000000000) (st * 10000000 % 1000000000)) 64 = st * 10000000 / 1000000000 * 1000000000 + st * 10000000 % 1000000000 := sHi_hi ..
  have l3 : zlo (sHi M2 64 (st * 10000000 / 1000000000) (st * 10000000 % 1000000000)) 64 = zlo M2 64 := sHi_lo ..
  generalize sHi M2 64 (st * 10000000 / 1000000000) (st * 10000000 % 1000000000) = M3 at x3 h3 l3 ⊢
  have o64 : OB M3 64 := by
    unfold OB
    rw [h3, l3, l2]
    omega
  have o61 : OB M3 61 := OB_y (OB_y o1 x2.1 (by omega)) x3.1 (by omega)
  have v3 := mx M2 M3 64 (mx M1 M2 64 v1 (by omega) x2) (by omega) x3
  try simp only [kb_X12_moves_0, w_bi, w_ist5, tkl_n, tkl_i, tkl_l, tkl_r, w_ist6, w_ist7, w_ist8, w_ald_0, w_pf_14_11, w_ild_3, w_ild5, w_iv2, tfr_0, tfr_1, tfr_2, tfr_3, tfr_4, w_ild4, w_i2l, w_ld2, w_lmul, tw_f, w_lst9, w_ild8, w_lc0, w_iv3, w_lld9, w_ldiv, w_lrem, w_ic, w_ist11, w_nil, true_and, and_true, Nat.reduceAdd, Nat.reduceSub, eq_self, tshm_14, tshm_31, tshm_32, tykm_31, tykm_32, tci_15, tci_960, tykm_14, tci_14, tshm_667, tshm_668, tshm_669, tshm_670, tykm_33, tci_700, tsn_671, tyn_17, tcn_10, tzs_672, tzs_673, tzs_680, tzs_681, tzs_682, tzs_683, tzs_684, tzs_685, tzs_686, tzs_687, tzs_688, tzs_689, tzy_15, tzy_35, tzy_36, tzy_37, tzy_38, tzy_39, tzy_40, tzc_60, tzc_320, tzc_5, tzc_4, tzc_8]
  exact n67 9 M3 _ 0 _ _ v3 (x3.2.trans (x2.2.trans f1)) o61 o64 (by omega) (by omega)
theorem o_move {x1 x2 x3 x4 : Int} (hP : MF M D) (h1 : (-2147483648 ≤ x1 ∧ x1 < 2147483648)) (h2 : (-2147483648 ≤ x2 ∧ x2 < 2147483648)) (h3 : (-2147483648 ≤ x3 ∧ x3 < 2147483648)) (h4 : (-2147483648 ≤ x4 ∧ x4 < 2147483648)) (hd : 73 ≤ d) : tC e d 3657 [.inr (.inr (.inl 664)), .inl x1, .inl x2, .inl x3, .inl x4] M n (tQi n (fun _ M' => MF M' D ∧ MC M M')) := by
  refine tst_X12_move ?_
  have n73 : ∀ v : Int, (0 ≤ v ∧ v ≤ 4) → (v = 0 → (0 ≤ x1 ∧ x1 ≤ 9) ∧ (0 ≤ x2 ∧ x2 ≤ 3) ∧ (0 ≤ x3 ∧ x3 ≤ 9) ∧ (1 ≤ x4 ∧ x4 ≤ 1000) ∧ M 687 x2 ≠ 0) → tT e d 3657 73 [some (.inr (.inr (.inl 664))), some (.inl (x1)), some (.inl (x2)), some (.inl (x3)), some (.inl (x4)), none] [.inl v, .inr (.inr (.inl 664))] M n (tQi n (fun _ M' => MF M' D ∧ MC M M')) := by
    intro v hv hv0
    refine tb_X12_move_73 (c := false) ?_
    simp only [kb_X12_move_73, w_iv1, tfr_0, tfr_1, tfr_2, tfr_3, tfr_4, w_if_eq, w_ic, w_ire, trg, true_and, and_true, Nat.reduceAdd, Nat.reduceSub, eq_self, tshm_14, tshm_31, tshm_32, tykm_31, tykm_32, tci_15, tci_960, tykm_14, tci_14, tshm_667, tshm_668, tshm_669, tshm_670, tykm_33, tci_700, tsn_671, tyn_17, tcn_10, tzs_672, tzs_673, tzs_680, tzs_681, tzs_682, tzs_683, tzs_684, tzs_685, tzs_686, tzs_687, tzs_688, tzs_689, tzy_15, tzy_35, tzy_36, tzy_37, tzy_38, tzy_39, tzy_40, tzc_60, tzc_320, tzc_5, tzc_4, tzc_8]
    refine tc_i (D := 0) (fun d' hd' => o_fails (by omega)) (by omega) ?_
    rintro z M2 ⟨q2, rfl⟩
    try simp only [kb_X12_move_73, w_iv1, tfr_0, tfr_1, tfr_2, tfr_3, tfr_4, w_if_eq, w_ic, w_ire, trg, true_and, and_true, Nat.reduceAdd, Nat.reduceSub, eq_self, tshm_14, tshm_31, tshm_32, tykm_31, tykm_32, tci_15, tci_960, tykm_14, tci_14, tshm_667, tshm_668, tshm_669, tshm_670, tykm_33, tci_700, tsn_671, tyn_17, tcn_10, tzs_672, tzs_673, tzs_680, tzs_681, tzs_682, tzs_683, tzs_684, tzs_685, tzs_686, tzs_687, tzs_688, tzs_689, tzy_15, tzy_35, tzy_36, tzy_37, tzy_38, tzy_39, tzy_40, tzc_60, tzc_320, tzc_5, tzc_4, tzc_8]
    have h5 := MF_3 (v := v) hP
    refine ⟨by omega, fun q => ?_, fun q => ⟨by omega, 0, rfl, rfl, h5⟩⟩
    obtain ⟨g1, g2, g3, g4, g5⟩ := hv0 (by omega)
    have g5 : tU M 664 3 v 687 x2 ≠ 0 := by rw [tU_nk (by decide)]; exact g5
    refine tb_X12_move_81 (c := false) ?_
    simp only [kb_X12_move_81, w_ald_0, w_bi, w_ild_2, w_ild_3, w_ild4, w_iv4, tfr_0, tfr_1, tfr_2, tfr_3, tfr_4, w_ist5, tkl_n, tkl_i, tkl_l, tkl_r, w_pf_14_11, w_ild_1, w_ild5, w_ic, w_ire, trg, true_and, and_true, Nat.reduceAdd, Nat.reduceSub, eq_self, tshm_14, tshm_31, tshm_32, tykm_31, tykm_32, tci_15, tci_960, tykm_14, tci_14, tshm_667, tshm_668, tshm_669, tshm_670, tykm_33, tci_700, tsn_671, tyn_17, tcn_10, tzs_672, tzs_673, tzs_680, tzs_681, tzs_682, tzs_683, tzs_684, tzs_685, tzs_686, tzs_687, tzs_688, tzs_689, tzy_15, tzy_35, tzy_36, tzy_37, tzy_38, tzy_39, tzy_40, tzc_60, tzc_320, tzc_5, tzc_4, tzc_8]
    refine tc_i (D := 72) (fun d' hd' => o_moves h5.1.1.1 h5.1.2.2.1 g2 g5 g3 (h5.1.1.2.2 x3 (by omega) (by omega)) g4 hd') (by omega) ?_
    rintro w M3 ⟨p1, p2, p3⟩
    have m := MF_w h5.1 (vE_tr p2 (vE_free (v := 60))) (tU_eq ..) (fun _ q => q)
    try simp only [kb_X12_move_81, w_ald_0, w_bi, w_ild_2, w_ild_3, w_ild4, w_iv4, tfr_0, tfr_1, tfr_2, tfr_3, tfr_4, w_ist5, tkl_n, tkl_i, tkl_l, tkl_r, w_pf_14_11, w_ild_1, w_ild5, w_ic, w_ire, trg, true_and, and_true, Nat.reduceAdd, Nat.reduceSub, eq_self, tshm_14, tshm_31, tshm_32, tykm_31, tykm_32, tci_15, tci_960, tykm_14, tci_14, tshm_667, tshm_668, tshm_669, tshm_670, tykm_33, tci_700, tsn_671, tyn_17, tcn_10, tzs_672, tzs_673, tzs_680, tzs_681, tzs_682, tzs_683, tzs_684, tzs_685, tzs_686, tzs_687, tzs_688, tzs_689, tzy_15, tzy_35, tzy_36, tzy_37, tzy_38, tzy_39, tzy_40, tzc_60, tzc_320, tzc_5, tzc_4, tzc_8]
    refine tc_i (D := 3) (fun d' hd' => o_makes_f m.1 g1 p1.1 (fun q => OB_v (p1.2 q) (vE_free (T := fun _ => False)) id) (by omega) (by omega) hd') (by omega) ?_
    rintro z2 M4 ⟨r1, r2, r3⟩
    try simp only [kb_X12_move_81, w_ald_0, w_bi, w_ild_2, w_ild_3, w_ild4, w_iv4, tfr_0, tfr_1, tfr_2, tfr_3, tfr_4, w_ist5, tkl_n, tkl_i, tkl_l, tkl_r, w_pf_14_11, w_ild_1, w_ild5, w_ic, w_ire, trg, true_and, and_true, Nat.reduceAdd, Nat.reduceSub, eq_self, tshm_14, tshm_31, tshm_32, tykm_31, tykm_32, tci_15, tci_960, tykm_14, tci_14, tshm_667, tshm_668, tshm_669, tshm_670, tykm_33, tci_700, tsn_671, tyn_17, tcn_10, tzs_672, tzs_673, tzs_680, tzs_681, tzs_682, tzs_683, tzs_684, tzs_685, tzs_686, tzs_687, tzs_688, tzs_689, tzy_15, tzy_35, tzy_36, tzy_37, tzy_38, tzy_39, tzy_40, tzc_60, tzc_320, tzc_5, tzc_4, tzc_8]
    exact ⟨by omega, z2, rfl, rfl, r2, MC_tr h5.2 (MC_tr m.2 r3)⟩
  have n17 : tT e d 3657 17 [some (.inr (.inr (.inl 664))), some (.inl (x1)), some (.inl (x2)), some (.inl (x3)), some (.inl (x4)), none] [.inr (.inr (.inl 664))] M n (tQi n (fun _ M' => MF M' D ∧ MC M M')) := by
    refine tb_X12_move_17 (c := false) ?_
    simp only [kb_X12_move_17, w_ic, w_goto, true_and, and_true, Nat.reduceAdd, Nat.reduceSub, eq_self]
    exact n73 1 (by omega) (fun q => absurd q (by decide))
  have n56 : tT e d 3657 56 [some (.inr (.inr (.inl 664))), some (.inl (x1)), some (.inl (x2)), some (.inl (x3)), some (.inl (x4)), none] [.inr (.inr (.inl 664))] M n (tQi n (fun _ M' => MF M' D ∧ MC M M')) := by
    refine tb_X12_move_56 (c := false) ?_
    simp only [kb_X12_move_56, w_ic, w_goto, true_and, and_true, Nat.reduceAdd, Nat.reduceSub, eq_self]
    exact n73 3 (by omega) (fun q => absurd q (by decide))
  refine tb_X12_move_0 (c := false) ?_
  simp only [kb_X12_move_0, w_ald_0, w_ild_1, w_is1, tfr_0, tfr_1, tfr_2, tfr_3, tfr_4, w_if_eq, w_ild_2, w_ild_3, w_iv2, w_if_le, w_nil, true_and, and_true, Nat.reduceAdd, Nat.reduceSub, eq_self, tshm_14, tshm_31, tshm_32, tykm_31, tykm_32, tci_15, tci_960, tykm_14, tci_14, tshm_667, tshm_668, tshm_669, tshm_670, tykm_33, tci_700, tsn_671, tyn_17, tcn_10, tzs_672, tzs_673, tzs_680, tzs_681, tzs_682, tzs_683, tzs_684, tzs_685, tzs_686, tzs_687, tzs_688, tzs_689, tzy_15, tzy_35, tzy_36, tzy_37, tzy_38, tzy_39, tzy_40, tzc_60, tzc_320, tzc_5, tzc_4, tzc_8]
  refine tc_i (D := 1) (fun d' hd' => o_isShelf h1 hd') (by omega) ?_
  rintro z1 M1 ⟨q1, rfl⟩
  try simp only [kb_X12_move_0, w_ald_0, w_ild_1, w_is1, tfr_0, tfr_1, tfr_2, tfr_3, tfr_4, w_if_eq, w_ild_2, w_ild_3, w_iv2, w_if_le, w_nil, true_and, and_true, Nat.reduceAdd, Nat.reduceSub, eq_self, tshm_14, tshm_31, tshm_32, tykm_31, tykm_32, tci_15, tci_960, tykm_14, tci_14, tshm_667, tshm_668, tshm_669, tshm_670, tykm_33, tci_700, tsn_671, tyn_17, tcn_10, tzs_672, tzs_673, tzs_680, tzs_681, tzs_682, tzs_683, tzs_684, tzs_685, tzs_686, tzs_687, tzs_688, tzs_689, tzy_15, tzy_35, tzy_36, tzy_37, tzy_38, tzy_39, tzy_40, tzc_60, tzc_320, tzc_5, tzc_4, tzc_8]
  refine ⟨by omega, fun q => n17, fun q => ?_⟩
  refine tc_i (D := 2) (fun d' hd' => o_noLook h2 h3 hd') (by omega) ?_
  rintro z2 M2 ⟨q2, rfl⟩
  try simp only [kb_X12_move_0, w_ald_0, w_ild_1, w_is1, tfr_0, tfr_1, tfr_2, tfr_3, tfr_4, w_if_eq, w_ild_2, w_ild_3, w_iv2, w_if_le, w_nil, true_and, and_true, Nat.reduceAdd, Nat.reduceSub, eq_self, tshm_14, tshm_31, tshm_32, tykm_31, tykm_32, tci_15, tci_960, tykm_14, tci_14, tshm_667, tshm_668, tshm_669, tshm_670, tykm_33, tci_700, tsn_671, tyn_17, tcn_10, tzs_672, tzs_673, tzs_680, tzs_681, tzs_682, tzs_683, tzs_684, tzs_685, tzs_686, tzs_687, tzs_688, tzs_689, tzy_15, tzy_35, tzy_36, tzy_37, tzy_38, tzy_39, tzy_40, tzc_60, tzc_320, tzc_5, tzc_4, tzc_8]
  refine ⟨by omega, fun q => ?_, fun q => n17⟩
  refine tb_X12_move_21 (c := false) ?_
  simp only [kb_X12_move_21, w_ild4, w_i2l, w_lc1, w_ld2, w_is3, tfr_0, tfr_1, tfr_2, tfr_3, tfr_4, w_if_ne, w_ic, w_goto, true_and, and_true, Nat.reduceAdd, Nat.reduceSub, eq_self]
  refine ⟨by omega, ?_⟩
  refine tc_i (D := 0) (fun d' hd' => c_in (by omega) (by omega) (by omega)) (by omega) ?_
  rintro z3 M3 ⟨q3, rfl⟩
  try simp only [kb_X12_move_21, w_ild4, w_i2l, w_lc1, w_ld2, w_is3, tfr_0, tfr_1, tfr_2, tfr_3, tfr_4, w_if_ne, w_ic, w_goto, true_and, and_true, Nat.reduceAdd, Nat.reduceSub, eq_self]
  have hz3 : 0 ≤ z3 ∧ z3 ≤ 1 := by omega
  refine ⟨by omega, fun q => ?_, fun q => n73 2 (by omega) (fun q => absurd q (by decide))⟩
  have g := hP.2.2.1 x2 (by omega) (by omega)
  have k := hP.1.2.1.2.2 x3 (by omega) (by omega)
  have g := g.1
  refine tb_X12_move_38 (c := false) ?_
  simp only [kb_X12_move_38, w_ald_0, w_gf_14_33, tw_f, w_ild_2, w_ba, w_if_eq, w_gf_14_10, w_ild_3, w_if_ne, w_nil, true_and, and_true, Nat.reduceAdd, Nat.reduceSub, eq_self, tshm_14, tshm_31, tshm_32, tykm_31, tykm_32, tci_15, tci_960, tykm_14, tci_14, tshm_667, tshm_668, tshm_669, tshm_670, tykm_33, tci_700, tsn_671, tyn_17, tcn_10, tzs_672, tzs_673, tzs_680, tzs_681, tzs_682, tzs_683, tzs_684, tzs_685, tzs_686, tzs_687, tzs_688, tzs_689, tzy_15, tzy_35, tzy_36, tzy_37, tzy_38, tzy_39, tzy_40, tzc_60, tzc_320, tzc_5, tzc_4, tzc_8]
  refine ⟨by omega, by omega, fun q => n56, fun q => ⟨by omega, by omega, fun q => ?_, fun q => n56⟩⟩
  refine tb_X12_move_60 (c := false) ?_
  simp only [kb_X12_move_60, w_ald_0, w_ild_2, w_iv1, tfr_0, tfr_1, tfr_2, tfr_3, tfr_4, w_if_eq, w_ic, w_goto, true_and, and_true, Nat.reduceAdd, Nat.reduceSub, eq_self, tshm_14, tshm_31, tshm_32, tykm_31, tykm_32, tci_15, tci_960, tykm_14, tci_14, tshm_667, tshm_668, tshm_669, tshm_670, tykm_33, tci_700, tsn_671, tyn_17, tcn_10, tzs_672, tzs_673, tzs_680, tzs_681, tzs_682, tzs_683, tzs_684, tzs_685, tzs_686, tzs_687, tzs_688, tzs_689, tzy_15, tzy_35, tzy_36, tzy_37, tzy_38, tzy_39, tzy_40, tzc_60, tzc_320, tzc_5, tzc_4, tzc_8]
  refine tc_i (D := 0) (fun d' hd' => o_hasYOf hP.2.2.1 (by omega) (by omega)) (by omega) ?_
  rintro z4 M4 ⟨q4, rfl⟩
  try simp only [kb_X12_move_60, w_ald_0, w_ild_2, w_iv1, tfr_0, tfr_1, tfr_2, tfr_3, tfr_4, w_if_eq, w_ic, w_goto, true_and, and_true, Nat.reduceAdd, Nat.reduceSub, eq_self, tshm_14, tshm_31, tshm_32, tykm_31, tykm_32, tci_15, tci_960, tykm_14, tci_14, tshm_667, tshm_668, tshm_669, tshm_670, tykm_33, tci_700, tsn_671, tyn_17, tcn_10, tzs_672, tzs_673, tzs_680, tzs_681, tzs_682, tzs_683, tzs_684, tzs_685, tzs_686, tzs_687, tzs_688, tzs_689, tzy_15, tzy_35, tzy_36, tzy_37, tzy_38, tzy_39, tzy_40, tzc_60, tzc_320, tzc_5, tzc_4, tzc_8]
  refine ⟨by omega, fun q => ?_, fun q => n73 4 (by omega) (fun q => absurd q (by decide))⟩
  refine tb_X12_move_72 (c := false) ?_
  simp only [kb_X12_move_72, w_ic, w_nil, true_and, and_true, Nat.reduceAdd, Nat.reduceSub, eq_self]
  exact n73 0 (by omega) (fun _ => by omega)
theorem o_areas {fo a cu g : Int} (h : MB M D g) (hF : FI M) (hO : AO M) (hf : 0 ≤ fo ∧ fo ≤ 3) (hu : M 687 fo ≠ 0) (ha : 0 ≤ a ∧ a ≤ 9) (hs : 0 ≤ cu ∧ cu ≤ 3) (hd : 72 ≤ d) : tC e d 3592 [.inr (.inr (.inl 664)), .inl 60, .inl fo, .inl a, .inl cu] M n (tQi n (fun z M' => OK3 z M' 60 ∧ vE (fun _ => True) M M' ∧ AO M' ∧ M' 664 11 = 63)) := by
  refine tst_X12_areas ?_
  have ps : ∀ M2 : tM, vE (fun _ => True) M M2 → M2 664 11 = 63 → MB M2 D 63 ∧ FI M2 ∧ M2 687 fo ≠ 0 := fun M2 k1 k2 => ⟨MB_v h k1 k2 (by omega), FI_v hF k1, by rw [vE_k k1 687 fo (by omega)]; exact hu⟩
  have n28 : ∀ (fu : Nat) (M1 : tM) (m k : Int) (A : Option tV), vE (fun _ => True) M M1 → AO M1 → M1 664 11 = 63 → (1 ≤ m ∧ m ≤ 8) → (0 ≤ k ∧ k ≤ m) → m - k < (fu : Int) → (0 < k → OB M1 60) → tT e d 3592 28 [some (.inr (.inr (.inl 664))), some (.inl (60)), some (.inl (fo)), some (.inl (a)), some (.inl (cu)), some (.inl (61)), some (.inl (62)), some (.inl (m)), some (.inl (k)), A] [] M1 n (tQi n (fun z M' => OK3 z M' 60 ∧ vE (fun _ => True) M M' ∧ AO M' ∧ M' 664 11 = 63)) := by
    intro fu
    induction fu with
    | zero => intro M1 m k A a1 a2 a3 a4 a5 a6 a7; exfalso; omega
    | succ fu ih =>
      intro M1 m k A a1 a2 a3 a4 a5 a6 a7
      have n135 : ∀ (M2 : tM) (z : Int), k < m → vE (fun _ => True) M M2 → AO M2 → M2 664 11 = 63 → OB M2 60 → tT e d 3592 135 [some (.inr (.inr (.inl 664))), some (.inl (60)), some (.inl (fo)), some (.inl (a)), some (.inl (cu)), some (.inl (61)), some (.inl (62)), some (.inl (m)), some (.inl (k)), some (.inl (z))] [] M2 n (tQi n (fun z M' => OK3 z M' 60 ∧ vE (fun _ => True) M M' ∧ AO M' ∧ M' 664 11 = 63)) := by
        intro M2 z hk b1 b2 b3 b4
        refine tb_X12_areas_135 (c := false) ?_
        simp only [kb_X12_areas_135, w_inc8, tkl_n, tkl_i, tkl_l, tkl_r, w_goto, true_and, and_true, Nat.reduceAdd, Nat.reduceSub, eq_self]
        exact ih M2 m (k + 1) _ b1 b2 b3 a4 (by omega) (by omega) (fun _ => b4)
      have n115 : ∀ (M2 : tM) (z : Int), k < m → (z = 0 ∨ z = 1 ∨ z = 2) → vE (fun _ => True) M M2 → AO M2 → M2 664 11 = 63 → (z = 0 → 0 < k → OB M2 60) → (z = 0 → k = 0 → OB M2 61) → tT e d 3592 115 [some (.inr (.inr (.inl 664))), some (.inl (60)), some (.inl (fo)), some (.inl (a)), some (.inl (cu)), some (.inl (61)), some (.inl (62)), some (.inl (m)), some (.inl (k)), some (.inl (z))] [] M2 n (tQi n (fun z M' => OK3 z M' 60 ∧ vE (fun _ => True) M M' ∧ AO M' ∧ M' 664 11 = 63)) := by
        intro M2 z hk hz b1 b2 b3 b4 b5
        have hzr := z3_r hz
        refine tb_X12_areas_115 (c := false) ?_
        simp only [kb_X12_areas_115, w_ild9, w_if_le, w_ire, trg, true_and, and_true, Nat.reduceAdd, Nat.reduceSub, eq_self]
        refine ⟨by omega, fun q => ?_, fun q => ⟨z, rfl, rfl, ⟨hz, fun g => absurd g (by omega)⟩, b1, b2, b3⟩⟩
        have hz0 : z = 0 := by omega
        refine tb_X12_areas_123 (c := false) ?_
        simp only [kb_X12_areas_123, w_ild8, w_if_ne, w_ald_0, w_ild5, w_ild_1, w_iv2, tfr_0, tfr_1, tfr_2, tfr_3, tfr_4, w_nil, true_and, and_true, Nat.reduceAdd, Nat.reduceSub, eq_self, tshm_14, tshm_31, tshm_32, tykm_31, tykm_32, tci_15, tci_960, tykm_14, tci_14, tshm_667, tshm_668, tshm_669, tshm_670, tykm_33, tci_700, tsn_671, tyn_17, tcn_10, tzs_672, tzs_673, tzs_680, tzs_681, tzs_682, tzs_683, tzs_684, tzs_685, tzs_686, tzs_687, tzs_688, tzs_689, tzy_15, tzy_35, tzy_36, tzy_37, tzy_38, tzy_39, tzy_40, tzc_60, tzc_320, tzc_5, tzc_4, tzc_8]
        refine ⟨by omega, fun q => n135 M2 z hk b1 b2 b3 (b4 hz0 (by omega)), fun q => ?_⟩
        have o61 := b5 hz0 (by omega)
        refine tc_n (D := 0) (fun d' _ => c_takes (by omega) (by omega)) (by omega) ?_
        rintro _ rfl
        have x1 : xE (fun r => r = 60) M2 (sTk M2 61 60) := sTk_xE rfl ((ps M2 b1 b3).1.2.2.2.2.1 61 (by omega) (by omega))
        have o1 : OB (sTk M2 61 60) 60 := by
          unfold OB at o61 ⊢
          rw [sTk_lo, sTk_hi]
          exact o61
        try simp only [kb_X12_areas_123, w_ild8, w_if_ne, w_ald_0, w_ild5, w_ild_1, w_iv2, tfr_0, tfr_1, tfr_2, tfr_3, tfr_4, w_nil, true_and, and_true, Nat.reduceAdd, Nat.reduceSub, eq_self, tshm_14, tshm_31, tshm_32, tykm_31, tykm_32, tci_15, tci_960, tykm_14, tci_14, tshm_667, tshm_668, tshm_669, tshm_670, tykm_33, tci_700, tsn_671, tyn_17, tcn_10, tzs_672, tzs_673, tzs_680, tzs_681, tzs_682, tzs_683, tzs_684, tzs_685, tzs_686, tzs_687, tzs_688, tzs_689, tzy_15, tzy_35, tzy_36, tzy_37, tzy_38, tzy_39, tzy_40, tzc_60, tzc_320, tzc_5, tzc_4, tzc_8]
        exact n135 _ z hk (vE_tr b1 (vE_y (yE_mono x1.1 (fun _ _ => trivial)))) (AO_v b2 (vE_y x1.1) (fun r q => by omega)) (x1.2.trans b3) o1
      have n95 : ∀ (M2 : tM) (z : Int), k < m → (z = 0 ∨ z = 1 ∨ z = 2) → vE (fun _ => True) M M2 → AO M2 → M2 664 11 = 63 → (0 < k → OB M2 60) → (z = 0 → OB M2 61) → tT e d 3592 95 [some (.inr (.inr (.inl 664))), some (.inl (60)), some (.inl (fo)), some (.inl (a)), some (.inl (cu)), some (.inl (61)), some (.inl (62)), some (.inl (m)), some (.inl (k)), some (.inl (z))] [] M2 n (tQi n (fun z M' => OK3 z M' 60 ∧ vE (fun _ => True) M M' ∧ AO M' ∧ M' 664 11 = 63)) := by
        intro M2 z hk hz b1 b2 b3 b4 b5
        have hzr := z3_r hz
        refine tb_X12_areas_95 (c := false) ?_
        simp only [kb_X12_areas_95, w_ild9, w_if_ne, w_ild8, w_if_le, w_ald_0, w_ild_1, w_ild5, w_iv3, tfr_0, tfr_1, tfr_2, tfr_3, tfr_4, w_ist9, tkl_n, tkl_i, tkl_l, tkl_r, w_nil, true_and, and_true, Nat.reduceAdd, Nat.reduceSub, eq_self, tshm_14, tshm_31, tshm_32, tykm_31, tykm_32, tci_15, tci_960, tykm_14, tci_14, tshm_667, tshm_668, tshm_669, tshm_670, tykm_33, tci_700, tsn_671, tyn_17, tcn_10, tzs_672, tzs_673, tzs_680, tzs_681, tzs_682, tzs_683, tzs_684, tzs_685, tzs_686, tzs_687, tzs_688, tzs_689, tzy_15, tzy_35, tzy_36, tzy_37, tzy_38, tzy_39, tzy_40, tzc_60, tzc_320, tzc_5, tzc_4, tzc_8]
        refine ⟨by omega, fun q => n115 M2 z hk hz b1 b2 b3 (fun _ g => b4 g) (fun g _ => b5 g), fun q => ⟨by omega, fun q => n115 M2 z hk hz b1 b2 b3 (fun _ g => b4 g) (fun g _ => b5 g), fun q => ?_⟩⟩
        refine tc_i (D := 3) (fun d' hd' => o_sum (ps M2 b1 b3).1 (by omega) (by omega) (by omega) (b4 (by omega)) (b5 (by omega)) hd') (by omega) ?_
        rintro z3 M7 ⟨t1, t2⟩
        try simp only [kb_X12_areas_95, w_ild9, w_if_ne, w_ild8, w_if_le, w_ald_0, w_ild_1, w_ild5, w_iv3, tfr_0, tfr_1, tfr_2, tfr_3, tfr_4, w_ist9, tkl_n, tkl_i, tkl_l, tkl_r, w_nil, true_and, and_true, Nat.reduceAdd, Nat.reduceSub, eq_self, tshm_14, tshm_31, tshm_32, tykm_31, tykm_32, tci_15, tci_960, tykm_14, tci_14, tshm_667, tshm_668, tshm_669, tshm_670, tykm_33, tci_700, tsn_671, tyn_17, tcn_10, tzs_672, tzs_673, tzs_680, tzs_681, tzs_682, tzs_683, tzs_684, tzs_685, tzs_686, tzs_687, tzs_688, tzs_689, tzy_15, tzy_35, tzy_36, tzy_37, tzy_38, tzy_39, tzy_40, tzc_60, tzc_320, tzc_5, tzc_4, tzc_8]
        exact n115 M7 z3 hk t1.1 (vE_tr b1 (vE_y (yE_mono t2.1 (fun _ _ => trivial)))) (AO_v b2 (vE_y t2.1) (fun r q => by rcases q with q | q <;> omega)) (t2.2.trans b3) (fun g _ => t1.2 g) (fun _ g => by exfalso; omega)
      obtain ⟨i1, i2, i3⟩ := ps M1 a1 a3
      refine tb_X12_areas_28 (c := false) ?_
      simp only [kb_X12_areas_28, w_ild8, w_ild7, w_ic_ge, w_ald_0, w_ild5, w_ild_2, w_bi, w_iadd, w_ic, w_iv5, tfr_0, tfr_1, tfr_2, tfr_3, tfr_4, w_ist9, tkl_n, tkl_i, tkl_l, tkl_r, w_iv1, w_ild6, w_gf_14_4, tw_f, w_gf_14_5, w_iv3, w_ild9, w_if_ne, w_nil, true_and, and_true, Nat.reduceAdd, Nat.reduceSub, eq_self, tshm_14, tshm_31, tshm_32, tykm_31, tykm_32, tci_15, tci_960, tykm_14, tci_14, tshm_667, tshm_668, tshm_669, tshm_670, tykm_33, tci_700, tsn_671, tyn_17, tcn_10, tzs_672, tzs_673, tzs_680, tzs_681, tzs_682, tzs_683, tzs_684, tzs_685, tzs_686, tzs_687, tzs_688, tzs_689, tzy_15, tzy_35, tzy_36, tzy_37, tzy_38, tzy_39, tzy_40, tzc_60, tzc_320, tzc_5, tzc_4, tzc_8]
      refine ⟨by omega, fun q => ?_, fun q => ?_⟩
      · refine tb_X12_areas_141 (c := false) ?_
        simp only [kb_X12_areas_141, w_ic, w_ire, trg, true_and, and_true, Nat.reduceAdd, Nat.reduceSub, eq_self]
        exact ⟨0, rfl, rfl, ⟨Or.inl rfl, fun _ => a7 (by omega)⟩, a1, a2, a3⟩
      have ok := a2 (30 + k) (by omega) (by omega)
      refine tc_i (D := 71) (fun d' hd' => o_told i1 i2 hf i3 (by omega) ok (by omega) ok (by omega) (by omega) (Or.inl rfl) hd') (by omega) ?_
      rintro z M2 ⟨p1, p2⟩
      have v2 : vE (fun _ => True) M M2 := vE_tr a1 (vE_mono p2.1 (fun _ _ => trivial))
      have f2 := p2.2.trans a3
      have o2 : AO M2 := AO_v a2 p2.1 (fun r q => by rcases q with q | q <;> omega)
      have s2 : 0 < k → OB M2 60 := fun g => OB_z (a7 g) p2 (by omega) (by omega)
      have hz := p1.1
      have hzr := z3_r hz
      have ok2 := o2 (30 + k) (by omega) (by omega)
      have c2 := (ps M2 v2 f2).1.2.2.2.2.1 (30 + k) (by omega) (by omega)
      try simp only [kb_X12_areas_28, w_ild8, w_ild7, w_ic_ge, w_ald_0, w_ild5, w_ild_2, w_bi, w_iadd, w_ic, w_iv5, tfr_0, tfr_1, tfr_2, tfr_3, tfr_4, w_ist9, tkl_n, tkl_i, tkl_l, tkl_r, w_iv1, w_ild6, w_gf_14_4, tw_f, w_gf_14_5, w_iv3, w_ild9, w_if_ne, w_nil, true_and, and_true, Nat.reduceAdd, Nat.reduceSub, eq_self, tshm_14, tshm_31, tshm_32, tykm_31, tykm_32, tci_15, tci_960, tykm_14, tci_14, tshm_667, tshm_668, tshm_669, tshm_670, tykm_33, tci_700, tsn_671, tyn_17, tcn_10, tzs_672, tzs_673, tzs_680, tzs_681, tzs_682, tzs_683, tzs_684, tzs_685, tzs_686, tzs_687, tzs_688, tzs_689, tzy_15, tzy_35, tzy_36, tzy_37, tzy_38, tzy_39, tzy_40, tzc_60, tzc_320, tzc_5, tzc_4, tzc_8]
      refine tc_n (D := 1) (fun d' hd' => o_spans (by omega) c2 hd') (by omega) ?_
      rintro M3 ⟨q3, q4, q5⟩
      have x3 : xE (fun _ => False) M2 M3 := xE_u q5
      have v3 : vE (fun _ => True) M M3 := vE_tr v2 (vE_y (yE_mono x3.1 (fun _ _ => trivial)))
      have f3 := x3.2.trans f2
      unfold OB at ok2
      unfold zb at q3
      unfold cb at q4
      try simp only [kb_X12_areas_28, w_ild8, w_ild7, w_ic_ge, w_ald_0, w_ild5, w_ild_2, w_bi, w_iadd, w_ic, w_iv5, tfr_0, tfr_1, tfr_2, tfr_3, tfr_4, w_ist9, tkl_n, tkl_i, tkl_l, tkl_r, w_iv1, w_ild6, w_gf_14_4, tw_f, w_gf_14_5, w_iv3, w_ild9, w_if_ne, w_nil, true_and, and_true, Nat.reduceAdd, Nat.reduceSub, eq_self, tshm_14, tshm_31, tshm_32, tykm_31, tykm_32, tci_15, tci_960, tykm_14, tci_14, tshm_667, tshm_668, tshm_669, tshm_670, tykm_33, tci_700, tsn_671, tyn_17, tcn_10, tzs_672, tzs_673, tzs_680, tzs_681, tzs_682, tzs_683, tzs_684, tzs_685, tzs_686, tzs_687, tzs_688, tzs_689, tzy_15, tzy_35, tzy_36, tzy_37, tzy_38, tzy_39, tzy_40, tzc_60, tzc_320, tzc_5, tzc_4, tzc_8]
      refine tc_n (D := 1) (fun d' hd' => c_single (by omega) hd') (by omega) ?_
      rintro _ rfl
      have x4 : xE (fun r => r = 62) M3 (sHi (sLo M3 62 (M3 664 4) (M3 664 5)) 62 (M3 664 4) (M3 664 5)) := sing_xE rfl q4.1 (by omega)
      generalize sHi (sLo M3 62 (M3 664 4) (M3 664 5)) 62 (M3 664 4) (M3 664 5) = M4 at x4 ⊢
      have v4 : vE (fun _ => True) M M4 := vE_tr v3 (vE_y (yE_mono x4.1 (fun _ _ => trivial)))
      have f4 := x4.2.trans f3
      have o4 : AO M4 := AO_v (AO_v o2 (vE_y x3.1) (fun _ q => q.elim)) (vE_y x4.1) (fun r q => by omega)
      have s4 : 0 < k → OB M4 60 := fun g => OB_y (OB_y (s2 g) x3.1 id) x4.1 (by omega)
      have t4 : z = 0 → OB M4 61 := fun g => OB_y (OB_y (p1.2 g) x3.1 id) x4.1 (by omega)
      try simp only [kb_X12_areas_28, w_ild8, w_ild7, w_ic_ge, w_ald_0, w_ild5, w_ild_2, w_bi, w_iadd, w_ic, w_iv5, tfr_0, tfr_1, tfr_2, tfr_3, tfr_4, w_ist9, tkl_n, tkl_i, tkl_l, tkl_r, w_iv1, w_ild6, w_gf_14_4, tw_f, w_gf_14_5, w_iv3, w_ild9, w_if_ne, w_nil, true_and, and_true, Nat.reduceAdd, Nat.reduceSub, eq_self, tshm_14, tshm_31, tshm_32, tykm_31, tykm_32, tci_15, tci_960, tykm_14, tci_14, tshm_667, tshm_668, tshm_669, tshm_670, tykm_33, tci_700, tsn_671, tyn_17, tcn_10, tzs_672, tzs_673, tzs_680, tzs_681, tzs_682, tzs_683, tzs_684, tzs_685, tzs_686, tzs_687, tzs_688, tzs_689, tzy_15, tzy_35, tzy_36, tzy_37, tzy_38, tzy_39, tzy_40, tzc_60, tzc_320, tzc_5, tzc_4, tzc_8]
      refine ⟨by omega, fun q => n95 M4 z (by omega) hz v4 o4 f4 s4 t4, fun q => ?_⟩
      refine tc_i (D := 6) (fun d' hd' => o_product (ps M4 v4 f4).1 (by omega) (by omega) (by omega) hd') (by omega) ?_
      rintro z5 M5 ⟨w1, w2⟩
      try simp only [kb_X12_areas_28, w_ild8, w_ild7, w_ic_ge, w_ald_0, w_ild5, w_ild_2, w_bi, w_iadd, w_ic, w_iv5, tfr_0, tfr_1, tfr_2, tfr_3, tfr_4, w_ist9, tkl_n, tkl_i, tkl_l, tkl_r, w_iv1, w_ild6, w_gf_14_4, tw_f, w_gf_14_5, w_iv3, w_ild9, w_if_ne, w_nil, true_and, and_true, Nat.reduceAdd, Nat.reduceSub, eq_self, tshm_14, tshm_31, tshm_32, tykm_31, tykm_32, tci_15, tci_960, tykm_14, tci_14, tshm_667, tshm_668, tshm_669, tshm_670, tykm_33, tci_700, tsn_671, tyn_17, tcn_10, tzs_672, tzs_673, tzs_680, tzs_681, tzs_682, tzs_683, tzs_684, tzs_685, tzs_686, tzs_687, tzs_688, tzs_689, tzy_15, tzy_35, tzy_36, tzy_37, tzy_38, tzy_39, tzy_40, tzc_60, tzc_320, tzc_5, tzc_4, tzc_8]
      exact n95 M5 z5 (by omega) w1.1 (vE_tr v4 (vE_y (yE_mono w2.1 (fun _ _ => trivial)))) (AO_v o4 (vE_y w2.1) (fun r q => by rcases q with q | q <;> omega)) (w2.2.trans f4) (fun g => OB_x w2 (s4 g) (by omega) (by omega)) w1.2
  have v0 : vE (fun _ => True) M (tU M 664 11 63) := vE_free
  have f0 : tU M 664 11 63 664 11 = 63 := tU_eq ..
  have o0 : AO (tU M 664 11 63) := AO_v (T := fun _ => False) hO vE_free (fun _ q => q.elim)
  refine tb_X12_areas_0 (c := false) ?_
  simp only [kb_X12_areas_0, w_bi, w_ist5, tkl_n, tkl_i, tkl_l, tkl_r, w_ist6, w_ald_0, w_pf_14_11, w_ild_3, w_ild4, w_iv3, tfr_0, tfr_1, tfr_2, tfr_3, tfr_4, w_ist7, w_ic, w_ist8, w_nil, true_and, and_true, Nat.reduceAdd, Nat.reduceSub, eq_self, tshm_14, tshm_31, tshm_32, tykm_31, tykm_32, tci_15, tci_960, tykm_14, tci_14, tshm_667, tshm_668, tshm_669, tshm_670, tykm_33, tci_700, tsn_671, tyn_17, tcn_10, tzs_672, tzs_673, tzs_680, tzs_681, tzs_682, tzs_683, tzs_684, tzs_685, tzs_686, tzs_687, tzs_688, tzs_689, tzy_15, tzy_35, tzy_36, tzy_37, tzy_38, tzy_39, tzy_40, tzc_60, tzc_320, tzc_5, tzc_4, tzc_8]
  generalize tU M 664 11 63 = M2 at v0 f0 o0 ⊢
  refine tc_i (D := 4) (fun d' hd' => o_cutsInto (ps M2 v0 f0).1 (by omega) (by omega) (fun b b1 b2 => o0 b (by omega) (by omega)) (by omega) (o0 a (by omega) (by omega)) (by omega) hd') (by omega) ?_
  rintro m M3 ⟨a1, a2, a3⟩
  try simp only [kb_X12_areas_0, w_bi, w_ist5, tkl_n, tkl_i, tkl_l, tkl_r, w_ist6, w_ald_0, w_pf_14_11, w_ild_3, w_ild4, w_iv3, tfr_0, tfr_1, tfr_2, tfr_3, tfr_4, w_ist7, w_ic, w_ist8, w_nil, true_and, and_true, Nat.reduceAdd, Nat.reduceSub, eq_self, tshm_14, tshm_31, tshm_32, tykm_31, tykm_32, tci_15, tci_960, tykm_14, tci_14, tshm_667, tshm_668, tshm_669, tshm_670, tykm_33, tci_700, tsn_671, tyn_17, tcn_10, tzs_672, tzs_673, tzs_680, tzs_681, tzs_682, tzs_683, tzs_684, tzs_685, tzs_686, tzs_687, tzs_688, tzs_689, tzy_15, tzy_35, tzy_36, tzy_37, tzy_38, tzy_39, tzy_40, tzc_60, tzc_320, tzc_5, tzc_4, tzc_8]
  exact n28 9 M3 m 0 _ (vE_tr v0 (vE_y (yE_mono a2.1 (fun _ _ => trivial)))) (AO_c o0 a2 a3 (by omega)) (a2.2.trans f0) a1 (by omega) (by omega) (fun q => absurd q (by decide))
theorem o_area {x1 x2 x3 x4 : Int} (hP : MF M D) (h1 : (-2147483648 ≤ x1 ∧ x1 < 2147483648)) (h2 : (-2147483648 ≤ x2 ∧ x2 < 2147483648)) (h3 : (-2147483648 ≤ x3 ∧ x3 < 2147483648)) (h4 : (-2147483648 ≤ x4 ∧ x4 < 2147483648)) (hd : 73 ≤ d) : tC e d 3591 [.inr (.inr (.inl 664)), .inl x1, .inl x2, .inl x3, .inl x4] M n (tQi n (fun _ M' => MF M' D ∧ MC M M')) := by
  refine tst_X12_area ?_
  refine tb_X12_area_0 (c := false) ?_
  simp only [kb_X12_area_0, w_ald_0, w_ild_1, w_ild_2, w_ild_3, w_ild4, w_iv4, tfr_0, tfr_1, tfr_2, tfr_3, tfr_4, w_iv1, w_if_eq, w_ic, w_ire, trg, true_and, and_true, Nat.reduceAdd, Nat.reduceSub, eq_self, tshm_14, tshm_31, tshm_32, tykm_31, tykm_32, tci_15, tci_960, tykm_14, tci_14, tshm_667, tshm_668, tshm_669, tshm_670, tykm_33, tci_700, tsn_671, tyn_17, tcn_10, tzs_672, tzs_673, tzs_680, tzs_681, tzs_682, tzs_683, tzs_684, tzs_685, tzs_686, tzs_687, tzs_688, tzs_689, tzy_15, tzy_35, tzy_36, tzy_37, tzy_38, tzy_39, tzy_40, tzc_60, tzc_320, tzc_5, tzc_4, tzc_8]
  refine tc_i (D := 3) (fun d' hd' => o_noBounds hP.2.2.1 hP.1.2.1 h1 h2 h3 h4 hd') (by omega) ?_
  rintro v M1 ⟨hv, hv0, rfl⟩
  try simp only [kb_X12_area_0, w_ald_0, w_ild_1, w_ild_2, w_ild_3, w_ild4, w_iv4, tfr_0, tfr_1, tfr_2, tfr_3, tfr_4, w_iv1, w_if_eq, w_ic, w_ire, trg, true_and, and_true, Nat.reduceAdd, Nat.reduceSub, eq_self, tshm_14, tshm_31, tshm_32, tykm_31, tykm_32, tci_15, tci_960, tykm_14, tci_14, tshm_667, tshm_668, tshm_669, tshm_670, tykm_33, tci_700, tsn_671, tyn_17, tcn_10, tzs_672, tzs_673, tzs_680, tzs_681, tzs_682, tzs_683, tzs_684, tzs_685, tzs_686, tzs_687, tzs_688, tzs_689, tzy_15, tzy_35, tzy_36, tzy_37, tzy_38, tzy_39, tzy_40, tzc_60, tzc_320, tzc_5, tzc_4, tzc_8]
  refine tc_i (D := 0) (fun d' hd' => o_fails (by omega)) (by omega) ?_
  rintro z M2 ⟨q2, rfl⟩
  try simp only [kb_X12_area_0, w_ald_0, w_ild_1, w_ild_2, w_ild_3, w_ild4, w_iv4, tfr_0, tfr_1, tfr_2, tfr_3, tfr_4, w_iv1, w_if_eq, w_ic, w_ire, trg, true_and, and_true, Nat.reduceAdd, Nat.reduceSub, eq_self, tshm_14, tshm_31, tshm_32, tykm_31, tykm_32, tci_15, tci_960, tykm_14, tci_14, tshm_667, tshm_668, tshm_669, tshm_670, tykm_33, tci_700, tsn_671, tyn_17, tcn_10, tzs_672, tzs_673, tzs_680, tzs_681, tzs_682, tzs_683, tzs_684, tzs_685, tzs_686, tzs_687, tzs_688, tzs_689, tzy_15, tzy_35, tzy_36, tzy_37, tzy_38, tzy_39, tzy_40, tzc_60, tzc_320, tzc_5, tzc_4, tzc_8]
  have h5 := MF_3 (v := v) hP
  refine ⟨by omega, fun q => ?_, fun q => ⟨by omega, 0, rfl, rfl, h5⟩⟩
  obtain ⟨g1, g2, g3, g4, g5⟩ := hv0 (by omega)
  have g5 : tU M1 664 3 v 687 x2 ≠ 0 := by rw [tU_nk (by decide)]; exact g5
  refine tb_X12_area_18 (c := false) ?_
  simp only [kb_X12_area_18, w_ald_0, w_bi, w_ild_2, w_ild_3, w_ild4, w_iv4, tfr_0, tfr_1, tfr_2, tfr_3, tfr_4, w_ist5, tkl_n, tkl_i, tkl_l, tkl_r, w_pf_14_11, w_ild_1, w_ild5, w_ic, w_ire, trg, true_and, and_true, Nat.reduceAdd, Nat.reduceSub, eq_self, tshm_14, tshm_31, tshm_32, tykm_31, tykm_32, tci_15, tci_960, tykm_14, tci_14, tshm_667, tshm_668, tshm_669, tshm_670, tykm_33, tci_700, tsn_671, tyn_17, tcn_10, tzs_672, tzs_673, tzs_680, tzs_681, tzs_682, tzs_683, tzs_684, tzs_685, tzs_686, tzs_687, tzs_688, tzs_689, tzy_15, tzy_35, tzy_36, tzy_37, tzy_38, tzy_39, tzy_40, tzc_60, tzc_320, tzc_5, tzc_4, tzc_8]
  refine tc_i (D := 72) (fun d' hd' => o_areas h5.1.1.1 h5.1.2.2.1 h5.1.1.2.2 g2 g5 g3 g4 hd') (by omega) ?_
  rintro w M3 ⟨p1, p2, p3, p4⟩
  have m := MF_v h5.1 (vE_tr p2 (vE_free (v := 60))) (tU_eq ..) (AO_v (T := fun _ => False) p3 vE_free (fun _ q => q.elim))
  try simp only [kb_X12_area_18, w_ald_0, w_bi, w_ild_2, w_ild_3, w_ild4, w_iv4, tfr_0, tfr_1, tfr_2, tfr_3, tfr_4, w_ist5, tkl_n, tkl_i, tkl_l, tkl_r, w_pf_14_11, w_ild_1, w_ild5, w_ic, w_ire, trg, true_and, and_true, Nat.reduceAdd, Nat.reduceSub, eq_self, tshm_14, tshm_31, tshm_32, tykm_31, tykm_32, tci_15, tci_960, tykm_14, tci_14, tshm_667, tshm_668, tshm_669, tshm_670, tykm_33, tci_700, tsn_671, tyn_17, tcn_10, tzs_672, tzs_673, tzs_680, tzs_681, tzs_682, tzs_683, tzs_684, tzs_685, tzs_686, tzs_687, tzs_688, tzs_689, tzy_15, tzy_35, tzy_36, tzy_37, tzy_38, tzy_39, tzy_40, tzc_60, tzc_320, tzc_5, tzc_4, tzc_8]
  refine tc_i (D := 3) (fun d' hd' => o_makes_f m.1 g1 p1.1 (fun q => OB_v (p1.2 q) (vE_free (T := fun _ => False)) id) (by omega) (by omega) hd') (by omega) ?_
  rintro z2 M4 ⟨r1, r2, r3⟩
  try simp only [kb_X12_area_18, w_ald_0, w_bi, w_ild_2, w_ild_3, w_ild4, w_iv4, tfr_0, tfr_1, tfr_2, tfr_3, tfr_4, w_ist5, tkl_n, tkl_i, tkl_l, tkl_r, w_pf_14_11, w_ild_1, w_ild5, w_ic, w_ire, trg, true_and, and_true, Nat.reduceAdd, Nat.reduceSub, eq_self, tshm_14, tshm_31, tshm_32, tykm_31, tykm_32, tci_15, tci_960, tykm_14, tci_14, tshm_667, tshm_668, tshm_669, tshm_670, tykm_33, tci_700, tsn_671, tyn_17, tcn_10, tzs_672, tzs_673, tzs_680, tzs_681, tzs_682, tzs_683, tzs_684, tzs_685, tzs_686, tzs_687, tzs_688, tzs_689, tzy_15, tzy_35, tzy_36, tzy_37, tzy_38, tzy_39, tzy_40, tzc_60, tzc_320, tzc_5, tzc_4, tzc_8]
  exact ⟨by omega, z2, rfl, rfl, r2, MC_tr h5.2 (MC_tr m.2 r3)⟩
end MODEL
