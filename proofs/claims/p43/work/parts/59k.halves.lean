/-! THE MODEL: boxes joined, halved, moved outward; ends; crossed products. -/

section MODEL
variable {e : tE} {d n D : Nat} {M : tM}
theorem o_middle {to a f : Int} (h : MB M D f) (ht : 0 ≤ to ∧ to < 700) (ha : 0 ≤ a ∧ a < 700) (oa : OB M a) (hd : 2 ≤ d) : tC e d 3655 [.inr (.inr (.inl 664)), .inl to, .inl a] M n (tQn n (fun M' => xE (fun r => r = to) M M' ∧ (zlo M a ≤ zlo M' to ∧ zlo M' to = zhi M' to) ∧ zlo M' to ≤ zhi M a)) := by
  obtain ⟨h1, h2, h3, h4, h5, h6⟩ := h
  have ca := h5 a ha.1 ha.2
  unfold bcan at ca
  unfold OB at oa
  have fin : ∀ (M1 : tM) (u l : Int), uE M M1 → (0 ≤ l ∧ l < 1000000000) → (zlo M a ≤ u * 1000000000 + l ∧ u * 1000000000 + l ≤ zhi M a) → xE (fun r => r = to) M (sHi (sLo M1 to u l) to u l) ∧ (zlo M a ≤ zlo (sHi (sLo M1 to u l) to u l) to ∧ zlo (sHi (sLo M1 to u l) to u l) to = zhi (sHi (sLo M1 to u l) to u l) to) ∧ zlo (sHi (sLo M1 to u l) to u l) to ≤ zhi M a := by
    intro M1 u l g1 g2 g3
    rw [sing_lo, sing_hi]
    unfold zlo zhi at g3
    exact ⟨xE_tr (xE_u g1) (sing_xE rfl g2 (by omega)), ⟨g3.1, rfl⟩, g3.2⟩
  refine tst_X12_middle ?_
  have n168 : ∀ (L : tL) (M1 : tM) (u l : Int), uE M M1 → (0 ≤ l ∧ l < 1000000000) → (zlo M a ≤ u * 1000000000 + l ∧ u * 1000000000 + l ≤ zhi M a) → tT e d 3655 168 L [.inr (.inl l), .inr (.inl u), .inl to, .inr (.inr (.inl 664))] M1 n (tQn n (fun M' => xE (fun r => r = to) M M' ∧ (zlo M a ≤ zlo M' to ∧ zlo M' to = zhi M' to) ∧ zlo M' to ≤ zhi M a)) := by
    intro L M1 u l g1 g2 g3
    refine tb_X12_middle_168 (c := false) ?_
    simp only [kb_X12_middle_168, w_iv3, tfr_0, tfr_1, tfr_2, tfr_3, tfr_4, w_re, true_and, and_true, Nat.reduceAdd, Nat.reduceSub, eq_self, tshm_14, tshm_31, tshm_32, tykm_31, tykm_32, tci_15, tci_960, tykm_14, tci_14, tshm_667, tshm_668, tshm_669, tshm_670, tykm_33, tci_700, tsn_671, tyn_17, tcn_10, tzs_672, tzs_673, tzs_680, tzs_681, tzs_682, tzs_683, tzs_684, tzs_685, tzs_686, tzs_687, tzs_688, tzs_689, tzy_15, tzy_35, tzy_36, tzy_37, tzy_38, tzy_39, tzy_40, tzc_60, tzc_320, tzc_5, tzc_4, tzc_8]
    refine tc_n (D := 1) (fun d' hd' => c_single ht hd') (by omega) ?_
    rintro M2 rfl
    try simp only [kb_X12_middle_168, w_iv3, tfr_0, tfr_1, tfr_2, tfr_3, tfr_4, w_re, true_and, and_true, Nat.reduceAdd, Nat.reduceSub, eq_self, tshm_14, tshm_31, tshm_32, tykm_31, tykm_32, tci_15, tci_960, tykm_14, tci_14, tshm_667, tshm_668, tshm_669, tshm_670, tykm_33, tci_700, tsn_671, tyn_17, tcn_10, tzs_672, tzs_673, tzs_680, tzs_681, tzs_682, tzs_683, tzs_684, tzs_685, tzs_686, tzs_687, tzs_688, tzs_689, tzy_15, tzy_35, tzy_36, tzy_37, tzy_38, tzy_39, tzy_40, tzc_60, tzc_320, tzc_5, tzc_4, tzc_8]
    exact ⟨rfl, rfl, fin M1 u l g1 g2 g3⟩
  have n128 : ∀ (A B C E F G : Option tV) (M1 : tM) (w : Int), uE M M1 → cb M1 → zb M1 ≤ zhi M a → (w = 1 ∧ zb M1 < zlo M a ∨ w = 0 ∧ zlo M a ≤ zb M1) → tT e d 3655 128 [some (.inr (.inr (.inl 664))), some (.inl (to)), some (.inl (a)), A, B, C, E, F, none, G] [.inl w] M1 n (tQn n (fun M' => xE (fun r => r = to) M M' ∧ (zlo M a ≤ zlo M' to ∧ zlo M' to = zhi M' to) ∧ zlo M' to ≤ zhi M a)) := by
    intro A B C E F G M1 w g1 g2 g3 g4
    have e7 : M1 667 a = M 667 a := g1 667 a (by omega)
    have e8 : M1 668 a = M 668 a := g1 668 a (by omega)
    unfold cb at g2
    unfold zb at g3 g4
    refine tb_X12_middle_128 (c := false) ?_
    simp only [kb_X12_middle_128, w_ist9, tkl_n, tkl_i, tkl_l, tkl_r, w_ald_0, w_ild_1, w_ild9, w_if_eq, w_gf_14_6, tw_f, w_ild_2, w_la, w_lax, w_goto, true_and, and_true, Nat.reduceAdd, Nat.reduceSub, eq_self, tshm_14, tshm_31, tshm_32, tykm_31, tykm_32, tci_15, tci_960, tykm_14, tci_14, tshm_667, tshm_668, tshm_669, tshm_670, tykm_33, tci_700, tsn_671, tyn_17, tcn_10, tzs_672, tzs_673, tzs_680, tzs_681, tzs_682, tzs_683, tzs_684, tzs_685, tzs_686, tzs_687, tzs_688, tzs_689, tzy_15, tzy_35, tzy_36, tzy_37, tzy_38, tzy_39, tzy_40, tzc_60, tzc_320, tzc_5, tzc_4, tzc_8]
    refine ⟨by omega, fun q => ?_, fun q => ⟨by omega, ?_⟩⟩
    · refine tb_X12_middle_146 (c := false) ?_
      simp only [kb_X12_middle_146, w_ald_0, w_gf_14_4, tw_f, w_nil, true_and, and_true, Nat.reduceAdd, Nat.reduceSub, eq_self, tshm_14, tshm_31, tshm_32, tykm_31, tykm_32, tci_15, tci_960, tykm_14, tci_14, tshm_667, tshm_668, tshm_669, tshm_670, tykm_33, tci_700, tsn_671, tyn_17, tcn_10, tzs_672, tzs_673, tzs_680, tzs_681, tzs_682, tzs_683, tzs_684, tzs_685, tzs_686, tzs_687, tzs_688, tzs_689, tzy_15, tzy_35, tzy_36, tzy_37, tzy_38, tzy_39, tzy_40, tzc_60, tzc_320, tzc_5, tzc_4, tzc_8]
      refine tb_X12_middle_150 (c := false) ?_
      simp only [kb_X12_middle_150, w_ild9, w_if_eq, w_ald_0, w_gf_14_7, tw_f, w_ild_2, w_la, w_lax, w_goto, true_and, and_true, Nat.reduceAdd, Nat.reduceSub, eq_self, tshm_14, tshm_31, tshm_32, tykm_31, tykm_32, tci_15, tci_960, tykm_14, tci_14, tshm_667, tshm_668, tshm_669, tshm_670, tykm_33, tci_700, tsn_671, tyn_17, tcn_10, tzs_672, tzs_673, tzs_680, tzs_681, tzs_682, tzs_683, tzs_684, tzs_685, tzs_686, tzs_687, tzs_688, tzs_689, tzy_15, tzy_35, tzy_36, tzy_37, tzy_38, tzy_39, tzy_40, tzc_60, tzc_320, tzc_5, tzc_4, tzc_8]
      refine ⟨by omega, fun q => ?_, fun q => by exfalso; omega⟩
      refine tb_X12_middle_164 (c := false) ?_
      simp only [kb_X12_middle_164, w_ald_0, w_gf_14_5, tw_f, w_nil, true_and, and_true, Nat.reduceAdd, Nat.reduceSub, eq_self, tshm_14, tshm_31, tshm_32, tykm_31, tykm_32, tci_15, tci_960, tykm_14, tci_14, tshm_667, tshm_668, tshm_669, tshm_670, tykm_33, tci_700, tsn_671, tyn_17, tcn_10, tzs_672, tzs_673, tzs_680, tzs_681, tzs_682, tzs_683, tzs_684, tzs_685, tzs_686, tzs_687, tzs_688, tzs_689, tzy_15, tzy_35, tzy_36, tzy_37, tzy_38, tzy_39, tzy_40, tzc_60, tzc_320, tzc_5, tzc_4, tzc_8]
      exact n168 _ M1 _ _ g1 g2.1 (by omega)
    · refine tb_X12_middle_150 (c := false) ?_
      simp only [kb_X12_middle_150, w_ild9, w_if_eq, w_ald_0, w_gf_14_7, tw_f, w_ild_2, w_la, w_lax, w_goto, true_and, and_true, Nat.reduceAdd, Nat.reduceSub, eq_self, tshm_14, tshm_31, tshm_32, tykm_31, tykm_32, tci_15, tci_960, tykm_14, tci_14, tshm_667, tshm_668, tshm_669, tshm_670, tykm_33, tci_700, tsn_671, tyn_17, tcn_10, tzs_672, tzs_673, tzs_680, tzs_681, tzs_682, tzs_683, tzs_684, tzs_685, tzs_686, tzs_687, tzs_688, tzs_689, tzy_15, tzy_35, tzy_36, tzy_37, tzy_38, tzy_39, tzy_40, tzc_60, tzc_320, tzc_5, tzc_4, tzc_8]
      refine ⟨by omega, fun q => by exfalso; omega, fun q => ⟨by omega, ?_⟩⟩
      rw [e7, e8]
      exact n168 _ M1 _ _ g1 ca.1.1 ⟨by unfold zlo; exact Int.le_refl _, oa.1⟩
  have n50 : ∀ (u l : Int) (A B C : Option tV), (0 ≤ l ∧ l < 1000000000) → u * 1000000000 + l = zlo M a + zhi M a → tT e d 3655 50 [some (.inr (.inr (.inl 664))), some (.inl (to)), some (.inl (a)), some (.inr (.inl (u))), none, some (.inr (.inl (l))), none, A, B, C] [] M n (tQn n (fun M' => xE (fun r => r = to) M M' ∧ (zlo M a ≤ zlo M' to ∧ zlo M' to = zhi M' to) ∧ zlo M' to ≤ zhi M a)) := by
    intro u l A B C g1 g2
    unfold zlo zhi at g2
    refine tb_X12_middle_50 (c := false) ?_
    simp only [kb_X12_middle_50, w_lld_3, w_ld2, w_is2, tfr_0, tfr_1, tfr_2, tfr_3, tfr_4, w_lst7, tkl_n, tkl_i, tkl_l, tkl_r, w_ald_0, w_lld7, w_lsub, tw_f, w_ldiv, w_pf_14_4, w_lld5, w_lmul, w_ladd, w_pf_14_5, w_gf_14_2, w_ic, w_iv2, w_gf_14_6, w_ild_2, w_la, w_lax, w_gf_14_7, w_gf_14_4, w_gf_14_5, w_is4, w_if_le, w_goto, true_and, and_true, Nat.reduceAdd, Nat.reduceSub, eq_self, tshm_14, tshm_31, tshm_32, tykm_31, tykm_32, tci_15, tci_960, tykm_14, tci_14, tshm_667, tshm_668, tshm_669, tshm_670, tykm_33, tci_700, tsn_671, tyn_17, tcn_10, tzs_672, tzs_673, tzs_680, tzs_681, tzs_682, tzs_683, tzs_684, tzs_685, tzs_686, tzs_687, tzs_688, tzs_689, tzy_15, tzy_35, tzy_36, tzy_37, tzy_38, tzy_39, tzy_40, tzc_60, tzc_320, tzc_5, tzc_4, tzc_8]
    refine tc_l (D := 0) (fun d' hd' => c_modulo (by omega) (by omega)) (by omega) ?_
    rintro z M1 ⟨q1, rfl⟩
    try simp (disch := decide) only [kb_X12_middle_50, w_lld_3, w_ld2, w_is2, tfr_0, tfr_1, tfr_2, tfr_3, tfr_4, w_lst7, tkl_n, tkl_i, tkl_l, tkl_r, w_ald_0, w_lld7, w_lsub, tw_f, w_ldiv, w_pf_14_4, w_lld5, w_lmul, w_ladd, w_pf_14_5, w_gf_14_2, w_ic, w_iv2, w_gf_14_6, w_ild_2, w_la, w_lax, w_gf_14_7, w_gf_14_4, w_gf_14_5, w_is4, w_if_le, w_goto, true_and, and_true, Nat.reduceAdd, Nat.reduceSub, eq_self, tshm_14, tshm_31, tshm_32, tykm_31, tykm_32, tci_15, tci_960, tykm_14, tci_14, tshm_667, tshm_668, tshm_669, tshm_670, tykm_33, tci_700, tsn_671, tyn_17, tcn_10, tzs_672, tzs_673, tzs_680, tzs_681, tzs_682, tzs_683, tzs_684, tzs_685, tzs_686, tzs_687, tzs_688, tzs_689, tzy_15, tzy_35, tzy_36, tzy_37, tzy_38, tzy_39, tzy_40, tzc_60, tzc_320, tzc_5, tzc_4, tzc_8, tU_nk, tU_ni, tU_eq]
    obtain ⟨w, hw⟩ : ∃ w : Int, u - z = 2 * w := ⟨(u - z) / 2, by omega⟩
    have ew : (u - z).tdiv 2 = w := by rw [hw]; exact Int.mul_tdiv_cancel_left w (by decide)
    have el : (l + z * 1000000000).tdiv 2 = (l + z * 1000000000) / 2 := Int.tdiv_eq_ediv_of_nonneg (by omega)
    rw [ew, el, h1]
    refine ⟨by omega, by omega, ?_⟩
    have k4 : tU (tU M 664 4 w) 664 5 ((l + z * 1000000000) / 2) 664 4 = w := by simp (disch := decide) only [tU_ni, tU_eq]
    have k5 : tU (tU M 664 4 w) 664 5 ((l + z * 1000000000) / 2) 664 5 = (l + z * 1000000000) / 2 := tU_eq ..
    have k0 : uE M (tU (tU M 664 4 w) 664 5 ((l + z * 1000000000) / 2)) := uE_tr uE_4 uE_5
    generalize tU (tU M 664 4 w) 664 5 ((l + z * 1000000000) / 2) = M2 at k0 k4 k5 ⊢
    have hz0 : z = 0 ∨ z = 1 := by omega
    refine tc_n (D := 1) (fun d' hd' => c_rounds h2 (Or.inl rfl) (by unfold cb; omega) (by unfold zb; omega) hd') (by omega) ?_
    rintro M3 ⟨p1, p2, p3⟩
    have hu3 := uE_tr k0 p3
    have e7 : M3 667 a = M 667 a := hu3 667 a (by omega)
    have e8 : M3 668 a = M 668 a := hu3 668 a (by omega)
    have hle : zb M3 ≤ zb M2 := by
      rw [p1]
      unfold rnd
      rw [if_pos rfl]
      exact flo_up (by have := tn_pos (10 - D); omega)
    have p2' := p2
    unfold cb at p2
    unfold zb at hle
    try simp only [kb_X12_middle_50, w_lld_3, w_ld2, w_is2, tfr_0, tfr_1, tfr_2, tfr_3, tfr_4, w_lst7, tkl_n, tkl_i, tkl_l, tkl_r, w_ald_0, w_lld7, w_lsub, tw_f, w_ldiv, w_pf_14_4, w_lld5, w_lmul, w_ladd, w_pf_14_5, w_gf_14_2, w_ic, w_iv2, w_gf_14_6, w_ild_2, w_la, w_lax, w_gf_14_7, w_gf_14_4, w_gf_14_5, w_is4, w_if_le, w_goto, true_and, and_true, Nat.reduceAdd, Nat.reduceSub, eq_self, tshm_14, tshm_31, tshm_32, tykm_31, tykm_32, tci_15, tci_960, tykm_14, tci_14, tshm_667, tshm_668, tshm_669, tshm_670, tykm_33, tci_700, tsn_671, tyn_17, tcn_10, tzs_672, tzs_673, tzs_680, tzs_681, tzs_682, tzs_683, tzs_684, tzs_685, tzs_686, tzs_687, tzs_688, tzs_689, tzy_15, tzy_35, tzy_36, tzy_37, tzy_38, tzy_39, tzy_40, tzc_60, tzc_320, tzc_5, tzc_4, tzc_8, e7, e8]
    refine ⟨by omega, by omega, ?_⟩
    refine tc_i (D := 0) (fun d' hd' => c_order ca.1.1 p2.1 (by omega) (by omega)) (by omega) ?_
    rintro z2 M4 ⟨r1, rfl⟩
    try simp only [kb_X12_middle_50, w_lld_3, w_ld2, w_is2, tfr_0, tfr_1, tfr_2, tfr_3, tfr_4, w_lst7, tkl_n, tkl_i, tkl_l, tkl_r, w_ald_0, w_lld7, w_lsub, tw_f, w_ldiv, w_pf_14_4, w_lld5, w_lmul, w_ladd, w_pf_14_5, w_gf_14_2, w_ic, w_iv2, w_gf_14_6, w_ild_2, w_la, w_lax, w_gf_14_7, w_gf_14_4, w_gf_14_5, w_is4, w_if_le, w_goto, true_and, and_true, Nat.reduceAdd, Nat.reduceSub, eq_self, tshm_14, tshm_31, tshm_32, tykm_31, tykm_32, tci_15, tci_960, tykm_14, tci_14, tshm_667, tshm_668, tshm_669, tshm_670, tykm_33, tci_700, tsn_671, tyn_17, tcn_10, tzs_672, tzs_673, tzs_680, tzs_681, tzs_682, tzs_683, tzs_684, tzs_685, tzs_686, tzs_687, tzs_688, tzs_689, tzy_15, tzy_35, tzy_36, tzy_37, tzy_38, tzy_39, tzy_40, tzc_60, tzc_320, tzc_5, tzc_4, tzc_8]
    have hz2 : -1 ≤ z2 ∧ z2 ≤ 1 := by rw [r1]; exact cmpz_r _ _
    have oa2 := oa
    unfold zlo zhi at oa2
    have hle2 : zb M3 ≤ zhi M a := by unfold zb zhi; omega
    refine ⟨by omega, fun q => ?_, fun q => n128 _ _ _ _ _ _ M3 1 hu3 p2' hle2 (Or.inl ⟨rfl, ?_⟩)⟩
    · refine tb_X12_middle_127 (c := false) ?_
      simp only [kb_X12_middle_127, w_ic, w_nil, true_and, and_true, Nat.reduceAdd, Nat.reduceSub, eq_self]
      refine n128 _ _ _ _ _ _ M3 0 hu3 p2' hle2 (Or.inr ⟨rfl, ?_⟩)
      rw [r1, cmpz_le] at q
      exact q
    · have q : 0 < z2 := by omega
      rw [r1, cmpz_gt] at q
      exact q
  refine tb_X12_middle_0 (c := false) ?_
  simp only [kb_X12_middle_0, w_ald_0, w_gf_14_6, tw_f, w_ild_2, w_la, w_lax, w_gf_14_8, w_ladd, w_lst_3, tkl_n, tkl_i, tkl_l, tkl_r, w_gf_14_7, w_gf_14_9, w_lst5, w_lld5, w_ld2, w_lcmp, ne_eq, tlc_r, tlc_eq, tlc_lt, tlc_ge, tlc_gt, tlc_le, w_if_lt, w_lsub, w_lld_3, w_lc1, w_nil, true_and, and_true, Nat.reduceAdd, Nat.reduceSub, eq_self, tshm_14, tshm_31, tshm_32, tykm_31, tykm_32, tci_15, tci_960, tykm_14, tci_14, tshm_667, tshm_668, tshm_669, tshm_670, tykm_33, tci_700, tsn_671, tyn_17, tcn_10, tzs_672, tzs_673, tzs_680, tzs_681, tzs_682, tzs_683, tzs_684, tzs_685, tzs_686, tzs_687, tzs_688, tzs_689, tzy_15, tzy_35, tzy_36, tzy_37, tzy_38, tzy_39, tzy_40, tzc_60, tzc_320, tzc_5, tzc_4, tzc_8]
  refine ⟨ha, ha, ha, ha, by omega, fun q => n50 _ _ _ _ _ (by omega) (by unfold zlo zhi; omega), fun q => n50 _ _ _ _ _ (by omega) (by unfold zlo zhi; omega)⟩
theorem o_canCut {a f : Int} (h : MB M D f) (ha : 0 ≤ a ∧ a < f) (oa : OB M a) (hd : 3 ≤ d) : tC e d 3596 [.inr (.inr (.inl 664)), .inl a] M n (tQi n (fun z M' => (z = 0 ∨ z = 1) ∧ xE (fun r => r = f) M M')) := by
  have h3 := h.2.2.1
  have h4 := h.2.2.2.1
  refine tst_X12_canCut ?_
  have n50 : ∀ (M1 : tM) (z : Int), (z = 0 ∨ z = 1) → xE (fun r => r = f) M M1 → tT e d 3596 50 [some (.inr (.inr (.inl 664))), some (.inl (a))] [.inl z] M1 n (tQi n (fun z M' => (z = 0 ∨ z = 1) ∧ xE (fun r => r = f) M M')) := by
    intro M1 z hz hx
    refine tb_X12_canCut_50 (c := false) ?_
    simp only [kb_X12_canCut_50, w_ire, trg, true_and, and_true, Nat.reduceAdd, Nat.reduceSub, eq_self]
    exact ⟨by omega, z, rfl, rfl, hz, hx⟩
  refine tb_X12_canCut_0 (c := false) ?_
  simp only [kb_X12_canCut_0, w_ald_0, w_gf_14_11, tw_f, w_ild_1, w_iv2, tfr_0, tfr_1, tfr_2, tfr_3, tfr_4, w_gf_14_6, w_la, w_lax, w_gf_14_7, w_is4, w_if_le, w_ic, w_goto, true_and, and_true, Nat.reduceAdd, Nat.reduceSub, eq_self, tshm_14, tshm_31, tshm_32, tykm_31, tykm_32, tci_15, tci_960, tykm_14, tci_14, tshm_667, tshm_668, tshm_669, tshm_670, tykm_33, tci_700, tsn_671, tyn_17, tcn_10, tzs_672, tzs_673, tzs_680, tzs_681, tzs_682, tzs_683, tzs_684, tzs_685, tzs_686, tzs_687, tzs_688, tzs_689, tzy_15, tzy_35, tzy_36, tzy_37, tzy_38, tzy_39, tzy_40, tzc_60, tzc_320, tzc_5, tzc_4, tzc_8, h3]
  refine tc_n (D := 2) (fun d' hd' => o_middle h h4 (by omega) oa hd') (by omega) ?_
  rintro M1 ⟨q1, q2, q3⟩
  have f1 : M1 664 11 = f := q1.2.trans h3
  have cf := (xE_B q1 h.2.2.2.2.1) f h4.1 h4.2
  have ca := (xE_B q1 h.2.2.2.2.1) a ha.1 (by omega)
  unfold bcan at cf ca
  try simp only [kb_X12_canCut_0, w_ald_0, w_gf_14_11, tw_f, w_ild_1, w_iv2, tfr_0, tfr_1, tfr_2, tfr_3, tfr_4, w_gf_14_6, w_la, w_lax, w_gf_14_7, w_is4, w_if_le, w_ic, w_goto, true_and, and_true, Nat.reduceAdd, Nat.reduceSub, eq_self, tshm_14, tshm_31, tshm_32, tykm_31, tykm_32, tci_15, tci_960, tykm_14, tci_14, tshm_667, tshm_668, tshm_669, tshm_670, tykm_33, tci_700, tsn_671, tyn_17, tcn_10, tzs_672, tzs_673, tzs_680, tzs_681, tzs_682, tzs_683, tzs_684, tzs_685, tzs_686, tzs_687, tzs_688, tzs_689, tzy_15, tzy_35, tzy_36, tzy_37, tzy_38, tzy_39, tzy_40, tzc_60, tzc_320, tzc_5, tzc_4, tzc_8, f1]
  refine ⟨h4, h4, by omega, by omega, ?_⟩
  refine tc_i (D := 0) (fun d' hd' => c_order cf.1.1 ca.1.1 (by omega) (by omega)) (by omega) ?_
  rintro z2 M2 ⟨r1, rfl⟩
  try simp only [kb_X12_canCut_0, w_ald_0, w_gf_14_11, tw_f, w_ild_1, w_iv2, tfr_0, tfr_1, tfr_2, tfr_3, tfr_4, w_gf_14_6, w_la, w_lax, w_gf_14_7, w_is4, w_if_le, w_ic, w_goto, true_and, and_true, Nat.reduceAdd, Nat.reduceSub, eq_self, tshm_14, tshm_31, tshm_32, tykm_31, tykm_32, tci_15, tci_960, tykm_14, tci_14, tshm_667, tshm_668, tshm_669, tshm_670, tykm_33, tci_700, tsn_671, tyn_17, tcn_10, tzs_672, tzs_673, tzs_680, tzs_681, tzs_682, tzs_683, tzs_684, tzs_685, tzs_686, tzs_687, tzs_688, tzs_689, tzy_15, tzy_35, tzy_36, tzy_37, tzy_38, tzy_39, tzy_40, tzc_60, tzc_320, tzc_5, tzc_4, tzc_8]
  have hz2 : -1 ≤ z2 ∧ z2 ≤ 1 := by rw [r1]; exact cmpz_r _ _
  refine ⟨by omega, fun q => ?_, fun q => n50 _ 1 (Or.inr rfl) q1⟩
  refine tb_X12_canCut_49 (c := false) ?_
  simp only [kb_X12_canCut_49, w_ic, w_nil, true_and, and_true, Nat.reduceAdd, Nat.reduceSub, eq_self]
  exact n50 _ 0 (Or.inl rfl) q1
theorem o_half {to a r f : Int} (h : MB M D f) (ht : 0 ≤ to ∧ to < f) (ha : 0 ≤ a ∧ a < f) (oa : OB M a) (hr : r = 0 ∨ r = 1) (hd : 3 ≤ d) : tC e d 3618 [.inr (.inr (.inl 664)), .inl to, .inl a, .inl r] M n (tQn n (fun M' => OB M' to ∧ xE (toF to f) M M')) := by
  have h3 := h.2.2.1
  have h4 := h.2.2.2.1
  refine tst_X12_half ?_
  have n62 : ∀ (L : tL) (M1 : tM), OB M1 to → xE (toF to f) M M1 → tT e d 3618 62 (some (.inr (.inr (.inl 664))) :: L) [] M1 n (tQn n (fun M' => OB M' to ∧ xE (toF to f) M M')) := by
    intro L M1 hz hx
    refine tb_X12_half_62 (c := false) ?_
    simp only [kb_X12_half_62, w_re, true_and, and_true, Nat.reduceAdd, Nat.reduceSub, eq_self]
    exact ⟨rfl, rfl, hz, hx⟩
  refine tb_X12_half_0 (c := false) ?_
  simp only [kb_X12_half_0, w_ald_0, w_gf_14_11, tw_f, w_ild_2, w_iv2, tfr_0, tfr_1, tfr_2, tfr_3, tfr_4, w_gf_14_6, w_la, w_lax, w_lst4, tkl_n, tkl_i, tkl_l, tkl_r, w_gf_14_7, w_lst6, w_ild_1, w_ild_3, w_if_eq, w_lld4, w_lld6, w_iv3, w_goto, true_and, and_true, Nat.reduceAdd, Nat.reduceSub, eq_self, tshm_14, tshm_31, tshm_32, tykm_31, tykm_32, tci_15, tci_960, tykm_14, tci_14, tshm_667, tshm_668, tshm_669, tshm_670, tykm_33, tci_700, tsn_671, tyn_17, tcn_10, tzs_672, tzs_673, tzs_680, tzs_681, tzs_682, tzs_683, tzs_684, tzs_685, tzs_686, tzs_687, tzs_688, tzs_689, tzy_15, tzy_35, tzy_36, tzy_37, tzy_38, tzy_39, tzy_40, tzc_60, tzc_320, tzc_5, tzc_4, tzc_8, h3]
  refine tc_n (D := 2) (fun d' hd' => o_middle h h4 (by omega) oa hd') (by omega) ?_
  rintro M1 ⟨q1, q2, q3⟩
  have f1 : M1 664 11 = f := q1.2.trans h3
  have hB1 := xE_B q1 h.2.2.2.2.1
  have cf := hB1 f h4.1 h4.2
  have ca := hB1 a ha.1 (by omega)
  have el : zlo M1 a = zlo M a := xE_lo q1 (by omega)
  have eh : zhi M1 a = zhi M a := xE_hi q1 (by omega)
  have x1 : xE (toF to f) M M1 := xE_mono q1 (fun r q => Or.inr (by omega))
  try simp only [kb_X12_half_0, w_ald_0, w_gf_14_11, tw_f, w_ild_2, w_iv2, tfr_0, tfr_1, tfr_2, tfr_3, tfr_4, w_gf_14_6, w_la, w_lax, w_lst4, tkl_n, tkl_i, tkl_l, tkl_r, w_gf_14_7, w_lst6, w_ild_1, w_ild_3, w_if_eq, w_lld4, w_lld6, w_iv3, w_goto, true_and, and_true, Nat.reduceAdd, Nat.reduceSub, eq_self, tshm_14, tshm_31, tshm_32, tykm_31, tykm_32, tci_15, tci_960, tykm_14, tci_14, tshm_667, tshm_668, tshm_669, tshm_670, tykm_33, tci_700, tsn_671, tyn_17, tcn_10, tzs_672, tzs_673, tzs_680, tzs_681, tzs_682, tzs_683, tzs_684, tzs_685, tzs_686, tzs_687, tzs_688, tzs_689, tzy_15, tzy_35, tzy_36, tzy_37, tzy_38, tzy_39, tzy_40, tzc_60, tzc_320, tzc_5, tzc_4, tzc_8, f1]
  refine ⟨h4, h4, ?_⟩
  refine tc_n (D := 0) (fun d' hd' => c_takes (by omega) (by omega)) (by omega) ?_
  rintro M2 rfl
  try simp only [kb_X12_half_0, w_ald_0, w_gf_14_11, tw_f, w_ild_2, w_iv2, tfr_0, tfr_1, tfr_2, tfr_3, tfr_4, w_gf_14_6, w_la, w_lax, w_lst4, tkl_n, tkl_i, tkl_l, tkl_r, w_gf_14_7, w_lst6, w_ild_1, w_ild_3, w_if_eq, w_lld4, w_lld6, w_iv3, w_goto, true_and, and_true, Nat.reduceAdd, Nat.reduceSub, eq_self, tshm_14, tshm_31, tshm_32, tykm_31, tykm_32, tci_15, tci_960, tykm_14, tci_14, tshm_667, tshm_668, tshm_669, tshm_670, tykm_33, tci_700, tsn_671, tyn_17, tcn_10, tzs_672, tzs_673, tzs_680, tzs_681, tzs_682, tzs_683, tzs_684, tzs_685, tzs_686, tzs_687, tzs_688, tzs_689, tzy_15, tzy_35, tzy_36, tzy_37, tzy_38, tzy_39, tzy_40, tzc_60, tzc_320, tzc_5, tzc_4, tzc_8]
  have x2 : xE (toF to f) M1 (sTk M1 a to) := sTk_xE (Or.inl rfl) ca
  have l2 := sTk_lo M1 a to
  have g2 := sTk_hi M1 a to
  unfold bcan at cf
  have cf0 : zlo M1 f = M1 667 f * 1000000000 + M1 668 f := rfl
  refine ⟨by omega, fun q => ?_, fun q => ?_⟩
  · refine tb_X12_half_53 (c := false) ?_
    simp only [kb_X12_half_53, w_ald_0, w_ild_1, w_lld4, w_lld6, w_iv3, tfr_0, tfr_1, tfr_2, tfr_3, tfr_4, w_nil, true_and, and_true, Nat.reduceAdd, Nat.reduceSub, eq_self, tshm_14, tshm_31, tshm_32, tykm_31, tykm_32, tci_15, tci_960, tykm_14, tci_14, tshm_667, tshm_668, tshm_669, tshm_670, tykm_33, tci_700, tsn_671, tyn_17, tcn_10, tzs_672, tzs_673, tzs_680, tzs_681, tzs_682, tzs_683, tzs_684, tzs_685, tzs_686, tzs_687, tzs_688, tzs_689, tzy_15, tzy_35, tzy_36, tzy_37, tzy_38, tzy_39, tzy_40, tzc_60, tzc_320, tzc_5, tzc_4, tzc_8]
    refine tc_n (D := 0) (fun d' hd' => c_high (by omega)) (by omega) ?_
    rintro M3 rfl
    try simp only [kb_X12_half_53, w_ald_0, w_ild_1, w_lld4, w_lld6, w_iv3, tfr_0, tfr_1, tfr_2, tfr_3, tfr_4, w_nil, true_and, and_true, Nat.reduceAdd, Nat.reduceSub, eq_self, tshm_14, tshm_31, tshm_32, tykm_31, tykm_32, tci_15, tci_960, tykm_14, tci_14, tshm_667, tshm_668, tshm_669, tshm_670, tykm_33, tci_700, tsn_671, tyn_17, tcn_10, tzs_672, tzs_673, tzs_680, tzs_681, tzs_682, tzs_683, tzs_684, tzs_685, tzs_686, tzs_687, tzs_688, tzs_689, tzy_15, tzy_35, tzy_36, tzy_37, tzy_38, tzy_39, tzy_40, tzc_60, tzc_320, tzc_5, tzc_4, tzc_8]
    refine n62 _ _ ?_ (xE_tr x1 (xE_tr x2 (sHi_xE (Or.inl rfl) cf.1.1 (by omega))))
    have e1 : zlo (sHi (sTk M1 a to) to (M1 667 f) (M1 668 f)) to = zlo (sTk M1 a to) to := by unfold zlo sHi; simp (disch := decide) only [tU_nk]
    have e2 : zhi (sHi (sTk M1 a to) to (M1 667 f) (M1 668 f)) to = M1 667 f * 1000000000 + M1 668 f := by unfold zhi sHi; simp (disch := decide) only [tU_nk, tU_eq]
    unfold OB
    rw [e1, e2, l2, el]
    unfold OB at oa
    omega
  · refine tc_n (D := 0) (fun d' hd' => c_low (by omega)) (by omega) ?_
    rintro M3 rfl
    try simp only [kb_X12_half_0, w_ald_0, w_gf_14_11, tw_f, w_ild_2, w_iv2, tfr_0, tfr_1, tfr_2, tfr_3, tfr_4, w_gf_14_6, w_la, w_lax, w_lst4, tkl_n, tkl_i, tkl_l, tkl_r, w_gf_14_7, w_lst6, w_ild_1, w_ild_3, w_if_eq, w_lld4, w_lld6, w_iv3, w_goto, true_and, and_true, Nat.reduceAdd, Nat.reduceSub, eq_self, tshm_14, tshm_31, tshm_32, tykm_31, tykm_32, tci_15, tci_960, tykm_14, tci_14, tshm_667, tshm_668, tshm_669, tshm_670, tykm_33, tci_700, tsn_671, tyn_17, tcn_10, tzs_672, tzs_673, tzs_680, tzs_681, tzs_682, tzs_683, tzs_684, tzs_685, tzs_686, tzs_687, tzs_688, tzs_689, tzy_15, tzy_35, tzy_36, tzy_37, tzy_38, tzy_39, tzy_40, tzc_60, tzc_320, tzc_5, tzc_4, tzc_8]
    refine n62 _ _ ?_ (xE_tr x1 (xE_tr x2 (sLo_xE (Or.inl rfl) cf.1.1 (by omega))))
    have e1 : zhi (sLo (sTk M1 a to) to (M1 667 f) (M1 668 f)) to = zhi (sTk M1 a to) to := by unfold zhi sLo; simp (disch := decide) only [tU_nk]
    have e2 : zlo (sLo (sTk M1 a to) to (M1 667 f) (M1 668 f)) to = M1 667 f * 1000000000 + M1 668 f := by unfold zlo sLo; simp (disch := decide) only [tU_nk, tU_eq]
    unfold OB
    rw [e1, e2, g2, eh]
    unfold OB at oa
    omega
end MODEL
