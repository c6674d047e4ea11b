/-! THE MODEL: what a piece tells, cuts, crossed products, bounds moved outward. -/

section MODEL
variable {e : tE} {d n D : Nat} {M : tM}
theorem o_tellsOf {fo a f : Int} (h : MB M D f) (hF : FI M) (hf : 0 ≤ fo ∧ fo ≤ 3) (hu : M 687 fo ≠ 0) (ha : 0 ≤ a ∧ a < f) (oa : OB M a) (hf2 : f ≤ 490) (hd : 72 ≤ d) : tC e d 3720 [.inr (.inr (.inl 664)), .inl fo, .inl a] M n (tQi n (fun z M' => (0 ≤ z ∧ z ≤ 65535) ∧ zE (fun r => f ≤ r) M M')) := by
  have h3 := h.2.2.1
  have h4 := h.2.2.2.1
  have inv : ∀ M1 : tM, vE (fun r => f ≤ r) M M1 → M1 664 11 = f + 3 → MB M1 D (f + 3) ∧ FI M1 ∧ M1 687 fo ≠ 0 ∧ OB M1 a := fun M1 g1 g2 =>
    ⟨MB_v h g1 g2 (by omega), FI_v hF g1, by rw [vE_k g1 687 fo (by omega)]; exact hu, OB_v oa g1 (by omega)⟩
  have st : ∀ (M1 M2 : tM) (x : Int), vE (fun r => f ≤ r) M M1 → M1 664 11 = f + 3 → f ≤ x → zE (toF x (f + 3)) M1 M2 → vE (fun r => f ≤ r) M M2 ∧ M2 664 11 = f + 3 := fun M1 M2 x g1 g2 g3 g4 => ⟨vE_tr g1 (vE_mono g4.1 (fun r q => by rcases q with q | q <;> omega)), g4.2.trans g2⟩
  refine tst_X12_tellsOf ?_
  have n180 : ∀ (A B C E : Option tV) (M1 : tM) (z : Int), (0 ≤ z ∧ z ≤ 65535) → vE (fun r => f ≤ r) M M1 → M1 664 11 = f + 3 → tT e d 3720 180 [some (.inr (.inr (.inl 664))), some (.inl (fo)), some (.inl (a)), A, B, C, some (.inl (z)), E] [] M1 n (tQi n (fun z M' => (0 ≤ z ∧ z ≤ 65535) ∧ zE (fun r => f ≤ r) M M')) := by
    intro A B C E M1 z g0 g1 g2
    refine tb_X12_tellsOf_180 (c := false) ?_
    simp only [kb_X12_tellsOf_180, w_ald_0, w_dupi, w_dupr, w_gf_14_11, tw_f, w_ic, w_isub, w_pf_14_11, w_ild6, w_ire, trg, true_and, and_true, Nat.reduceAdd, Nat.reduceSub, eq_self, tshm_14, tshm_31, tshm_32, tykm_31, tykm_32, tci_15, tci_960, tykm_14, tci_14, tshm_667, tshm_668, tshm_669, tshm_670, tykm_33, tci_700, tsn_671, tyn_17, tcn_10, tzs_672, tzs_673, tzs_680, tzs_681, tzs_682, tzs_683, tzs_684, tzs_685, tzs_686, tzs_687, tzs_688, tzs_689, tzy_15, tzy_35, tzy_36, tzy_37, tzy_38, tzy_39, tzy_40, tzc_60, tzc_320, tzc_5, tzc_4, tzc_8]
    rw [g2]
    exact ⟨g0, z, rfl, rfl, g0, vE_tr g1 vE_free, by rw [tU_eq]; omega⟩
  have n164 : ∀ (M1 : tM) (w : Int) (E : Option tV), (w = 0 ∨ w = 1) → vE (fun r => f ≤ r) M M1 → M1 664 11 = f + 3 → tT e d 3720 164 [some (.inr (.inr (.inl 664))), some (.inl (fo)), some (.inl (a)), some (.inl (f)), some (.inl (f + 1)), some (.inl (f + 2)), some (.inl (63)), E] [.inl w] M1 n (tQi n (fun z M' => (0 ≤ z ∧ z ≤ 65535) ∧ zE (fun r => f ≤ r) M M')) := by
    intro M1 w E hw g1 g2
    refine tb_X12_tellsOf_164 (c := false) ?_
    simp only [kb_X12_tellsOf_164, w_ist7, tkl_n, tkl_i, tkl_l, tkl_r, w_ild7, w_if_eq, w_ald_0, w_ild_3, w_ild4, w_iv2, tfr_0, tfr_1, tfr_2, tfr_3, tfr_4, w_ist6, w_nil, true_and, and_true, Nat.reduceAdd, Nat.reduceSub, eq_self, tshm_14, tshm_31, tshm_32, tykm_31, tykm_32, tci_15, tci_960, tykm_14, tci_14, tshm_667, tshm_668, tshm_669, tshm_670, tykm_33, tci_700, tsn_671, tyn_17, tcn_10, tzs_672, tzs_673, tzs_680, tzs_681, tzs_682, tzs_683, tzs_684, tzs_685, tzs_686, tzs_687, tzs_688, tzs_689, tzy_15, tzy_35, tzy_36, tzy_37, tzy_38, tzy_39, tzy_40, tzc_60, tzc_320, tzc_5, tzc_4, tzc_8]
    refine ⟨by omega, fun q => n180 _ _ _ _ M1 63 (by omega) g1 g2, fun q => ?_⟩
    refine tc_i (D := 1) (fun d' hd' => o_ends (inv M1 g1 g2).1.2.2.2.2.1 (by omega) (by omega) hd') (by omega) ?_
    rintro z M2 ⟨q1, rfl⟩
    try simp only [kb_X12_tellsOf_164, w_ist7, tkl_n, tkl_i, tkl_l, tkl_r, w_ild7, w_if_eq, w_ald_0, w_ild_3, w_ild4, w_iv2, tfr_0, tfr_1, tfr_2, tfr_3, tfr_4, w_ist6, w_nil, true_and, and_true, Nat.reduceAdd, Nat.reduceSub, eq_self, tshm_14, tshm_31, tshm_32, tykm_31, tykm_32, tci_15, tci_960, tykm_14, tci_14, tshm_667, tshm_668, tshm_669, tshm_670, tykm_33, tci_700, tsn_671, tyn_17, tcn_10, tzs_672, tzs_673, tzs_680, tzs_681, tzs_682, tzs_683, tzs_684, tzs_685, tzs_686, tzs_687, tzs_688, tzs_689, tzy_15, tzy_35, tzy_36, tzy_37, tzy_38, tzy_39, tzy_40, tzc_60, tzc_320, tzc_5, tzc_4, tzc_8]
    exact n180 _ _ _ _ _ z q1 g1 g2
  have n163 : ∀ (M1 : tM) (E : Option tV), vE (fun r => f ≤ r) M M1 → M1 664 11 = f + 3 → tT e d 3720 163 [some (.inr (.inr (.inl 664))), some (.inl (fo)), some (.inl (a)), some (.inl (f)), some (.inl (f + 1)), some (.inl (f + 2)), some (.inl (63)), E] [] M1 n (tQi n (fun z M' => (0 ≤ z ∧ z ≤ 65535) ∧ zE (fun r => f ≤ r) M M')) := by
    intro M1 E g1 g2
    refine tb_X12_tellsOf_163 (c := false) ?_
    simp only [kb_X12_tellsOf_163, w_ic, w_nil, true_and, and_true, Nat.reduceAdd, Nat.reduceSub, eq_self]
    exact n164 M1 0 _ (Or.inl rfl) g1 g2
  have sg : ∀ (M1 : tM) (u l : Int), vE (fun r => f ≤ r) M M1 → M1 664 11 = f + 3 → (0 ≤ l ∧ l < 1000000000) → (-10000000000000000000000 ≤ u * 1000000000 + l ∧ u * 1000000000 + l ≤ 10000000000000000000000) → vE (fun r => f ≤ r) M (sHi (sLo M1 (f + 2) u l) (f + 2) u l) ∧ sHi (sLo M1 (f + 2) u l) (f + 2) u l 664 11 = f + 3 ∧ OB (sHi (sLo M1 (f + 2) u l) (f + 2) u l) (f + 2) := by
    intro M1 u l g1 g2 g3 g5
    have x := sing_xE (T := fun r => f ≤ r) (M := M1) (b := f + 2) (u := u) (l := l) (by omega) g3 (by omega)
    refine ⟨vE_tr g1 (vE_y x.1), x.2.trans g2, ?_⟩
    unfold OB
    rw [sing_lo, sing_hi]
    exact ⟨Int.le_refl _, g5⟩
  have n119 : ∀ (M1 : tM) (w : Int), (w = 0 ∨ w = 1) → vE (fun r => f ≤ r) M M1 → M1 664 11 = f + 3 → tT e d 3720 119 [some (.inr (.inr (.inl 664))), some (.inl (fo)), some (.inl (a)), some (.inl (f)), some (.inl (f + 1)), some (.inl (f + 2)), some (.inl (63)), none] [.inl w] M1 n (tQi n (fun z M' => (0 ≤ z ∧ z ≤ 65535) ∧ zE (fun r => f ≤ r) M M')) := by
    intro M1 w hw g1 g2
    have ca := (inv M1 g1 g2).1.2.2.2.2.1 a (by omega) (by omega)
    unfold bcan at ca
    have oa1 := (inv M1 g1 g2).2.2.2
    unfold OB zlo zhi at oa1
    refine tb_X12_tellsOf_119 (c := false) ?_
    simp only [kb_X12_tellsOf_119, w_ist7, tkl_n, tkl_i, tkl_l, tkl_r, w_ald_0, w_ild5, w_gf_14_8, tw_f, w_ild_2, w_la, w_lax, w_gf_14_9, w_iv3, tfr_0, tfr_1, tfr_2, tfr_3, tfr_4, w_ild7, w_if_eq, w_ild4, w_ild_1, w_ic, w_iv5, w_if_ne, w_goto, true_and, and_true, Nat.reduceAdd, Nat.reduceSub, eq_self, tshm_14, tshm_31, tshm_32, tykm_31, tykm_32, tci_15, tci_960, tykm_14, tci_14, tshm_667, tshm_668, tshm_669, tshm_670, tykm_33, tci_700, tsn_671, tyn_17, tcn_10, tzs_672, tzs_673, tzs_680, tzs_681, tzs_682, tzs_683, tzs_684, tzs_685, tzs_686, tzs_687, tzs_688, tzs_689, tzy_15, tzy_35, tzy_36, tzy_37, tzy_38, tzy_39, tzy_40, tzc_60, tzc_320, tzc_5, tzc_4, tzc_8]
    refine ⟨by omega, by omega, ?_⟩
    refine tc_n (D := 1) (fun d' hd' => c_single (by omega) hd') (by omega) ?_
    rintro M2 rfl
    obtain ⟨k1, k2, k3⟩ := sg M1 (M1 669 a) (M1 670 a) g1 g2 ca.1.2 (by omega)
    generalize sHi (sLo M1 (f + 2) (M1 669 a) (M1 670 a)) (f + 2) (M1 669 a) (M1 670 a) = M2 at k1 k2 k3 ⊢
    try simp only [kb_X12_tellsOf_119, w_ist7, tkl_n, tkl_i, tkl_l, tkl_r, w_ald_0, w_ild5, w_gf_14_8, tw_f, w_ild_2, w_la, w_lax, w_gf_14_9, w_iv3, tfr_0, tfr_1, tfr_2, tfr_3, tfr_4, w_ild7, w_if_eq, w_ild4, w_ild_1, w_ic, w_iv5, w_if_ne, w_goto, true_and, and_true, Nat.reduceAdd, Nat.reduceSub, eq_self, tshm_14, tshm_31, tshm_32, tykm_31, tykm_32, tci_15, tci_960, tykm_14, tci_14, tshm_667, tshm_668, tshm_669, tshm_670, tykm_33, tci_700, tsn_671, tyn_17, tcn_10, tzs_672, tzs_673, tzs_680, tzs_681, tzs_682, tzs_683, tzs_684, tzs_685, tzs_686, tzs_687, tzs_688, tzs_689, tzy_15, tzy_35, tzy_36, tzy_37, tzy_38, tzy_39, tzy_40, tzc_60, tzc_320, tzc_5, tzc_4, tzc_8]
    refine ⟨by omega, fun q => n163 M2 _ k1 k2, fun q => ?_⟩
    obtain ⟨i1, i2, i3, i4⟩ := inv M2 k1 k2
    refine tc_i (D := 71) (fun d' hd' => o_told i1 i2 hf i3 (by omega) k3 (by omega) k3 (by omega) (by omega) (Or.inl rfl) hd') (by omega) ?_
    rintro z M3 ⟨p1, p2⟩
    have hz := z3_r p1.1
    have s3 := st M2 M3 (f + 1) k1 k2 (by omega) p2
    try simp only [kb_X12_tellsOf_119, w_ist7, tkl_n, tkl_i, tkl_l, tkl_r, w_ald_0, w_ild5, w_gf_14_8, tw_f, w_ild_2, w_la, w_lax, w_gf_14_9, w_iv3, tfr_0, tfr_1, tfr_2, tfr_3, tfr_4, w_ild7, w_if_eq, w_ild4, w_ild_1, w_ic, w_iv5, w_if_ne, w_goto, true_and, and_true, Nat.reduceAdd, Nat.reduceSub, eq_self, tshm_14, tshm_31, tshm_32, tykm_31, tykm_32, tci_15, tci_960, tykm_14, tci_14, tshm_667, tshm_668, tshm_669, tshm_670, tykm_33, tci_700, tsn_671, tyn_17, tcn_10, tzs_672, tzs_673, tzs_680, tzs_681, tzs_682, tzs_683, tzs_684, tzs_685, tzs_686, tzs_687, tzs_688, tzs_689, tzy_15, tzy_35, tzy_36, tzy_37, tzy_38, tzy_39, tzy_40, tzc_60, tzc_320, tzc_5, tzc_4, tzc_8]
    exact ⟨by omega, fun q => n163 M3 _ s3.1 s3.2, fun q => n164 M3 1 _ (Or.inr rfl) s3.1 s3.2⟩
  have n62 : ∀ (M1 : tM), vE (fun r => f ≤ r) M M1 → M1 664 11 = f + 3 → tT e d 3720 62 [some (.inr (.inr (.inl 664))), some (.inl (fo)), some (.inl (a)), some (.inl (f)), some (.inl (f + 1)), some (.inl (f + 2)), some (.inl (63)), none] [] M1 n (tQi n (fun z M' => (0 ≤ z ∧ z ≤ 65535) ∧ zE (fun r => f ≤ r) M M')) := by
    intro M1 g1 g2
    obtain ⟨i1, i2, i3, i4⟩ := inv M1 g1 g2
    refine tb_X12_tellsOf_62 (c := false) ?_
    simp only [kb_X12_tellsOf_62, w_ald_0, w_ild_3, w_ild_1, w_ild_2, w_ic, w_iv5, tfr_0, tfr_1, tfr_2, tfr_3, tfr_4, w_if_ne, w_iv1, w_ild5, w_gf_14_6, tw_f, w_la, w_lax, w_gf_14_7, w_iv3, w_goto, true_and, and_true, Nat.reduceAdd, Nat.reduceSub, eq_self, tshm_14, tshm_31, tshm_32, tykm_31, tykm_32, tci_15, tci_960, tykm_14, tci_14, tshm_667, tshm_668, tshm_669, tshm_670, tykm_33, tci_700, tsn_671, tyn_17, tcn_10, tzs_672, tzs_673, tzs_680, tzs_681, tzs_682, tzs_683, tzs_684, tzs_685, tzs_686, tzs_687, tzs_688, tzs_689, tzy_15, tzy_35, tzy_36, tzy_37, tzy_38, tzy_39, tzy_40, tzc_60, tzc_320, tzc_5, tzc_4, tzc_8]
    refine tc_i (D := 71) (fun d' hd' => o_told i1 i2 hf i3 (by omega) i4 (by omega) i4 (by omega) (by omega) (Or.inr rfl) hd') (by omega) ?_
    rintro z M2 ⟨p1, p2⟩
    have hz := z3_r p1.1
    obtain ⟨k1, k2⟩ := st M1 M2 f g1 g2 (by omega) p2
    have B2 := (inv M2 k1 k2).1.2.2.2.2.1
    try simp only [kb_X12_tellsOf_62, w_ald_0, w_ild_3, w_ild_1, w_ild_2, w_ic, w_iv5, tfr_0, tfr_1, tfr_2, tfr_3, tfr_4, w_if_ne, w_iv1, w_ild5, w_gf_14_6, tw_f, w_la, w_lax, w_gf_14_7, w_iv3, w_goto, true_and, and_true, Nat.reduceAdd, Nat.reduceSub, eq_self, tshm_14, tshm_31, tshm_32, tykm_31, tykm_32, tci_15, tci_960, tykm_14, tci_14, tshm_667, tshm_668, tshm_669, tshm_670, tykm_33, tci_700, tsn_671, tyn_17, tcn_10, tzs_672, tzs_673, tzs_680, tzs_681, tzs_682, tzs_683, tzs_684, tzs_685, tzs_686, tzs_687, tzs_688, tzs_689, tzy_15, tzy_35, tzy_36, tzy_37, tzy_38, tzy_39, tzy_40, tzc_60, tzc_320, tzc_5, tzc_4, tzc_8]
    refine ⟨by omega, fun q => n180 _ _ _ _ M2 63 (by omega) k1 k2, fun q => ?_⟩
    refine tc_i (D := 1) (fun d' hd' => c_holds0 (by omega) (B2 f (by omega) (by omega)) hd') (by omega) ?_
    rintro z2 M3 ⟨q1, rfl⟩
    have ca := B2 a (by omega) (by omega)
    unfold bcan at ca
    have oa1 := (inv M2 k1 k2).2.2.2
    unfold OB zlo zhi at oa1
    try simp only [kb_X12_tellsOf_62, w_ald_0, w_ild_3, w_ild_1, w_ild_2, w_ic, w_iv5, tfr_0, tfr_1, tfr_2, tfr_3, tfr_4, w_if_ne, w_iv1, w_ild5, w_gf_14_6, tw_f, w_la, w_lax, w_gf_14_7, w_iv3, w_goto, true_and, and_true, Nat.reduceAdd, Nat.reduceSub, eq_self, tshm_14, tshm_31, tshm_32, tykm_31, tykm_32, tci_15, tci_960, tykm_14, tci_14, tshm_667, tshm_668, tshm_669, tshm_670, tykm_33, tci_700, tsn_671, tyn_17, tcn_10, tzs_672, tzs_673, tzs_680, tzs_681, tzs_682, tzs_683, tzs_684, tzs_685, tzs_686, tzs_687, tzs_688, tzs_689, tzy_15, tzy_35, tzy_36, tzy_37, tzy_38, tzy_39, tzy_40, tzc_60, tzc_320, tzc_5, tzc_4, tzc_8]
    refine ⟨by omega, fun q => n180 _ _ _ _ _ 63 (by omega) k1 k2, fun q => ⟨by omega, by omega, ?_⟩⟩
    refine tc_n (D := 1) (fun d' hd' => c_single (by omega) hd') (by omega) ?_
    rintro M3 rfl
    obtain ⟨k3, k4, k5⟩ := sg M2 (M2 667 a) (M2 668 a) k1 k2 ca.1.1 (by omega)
    generalize sHi (sLo M2 (f + 2) (M2 667 a) (M2 668 a)) (f + 2) (M2 667 a) (M2 668 a) = M3 at k3 k4 k5 ⊢
    obtain ⟨j1, j2, j3, j4⟩ := inv M3 k3 k4
    try simp only [kb_X12_tellsOf_62, w_ald_0, w_ild_3, w_ild_1, w_ild_2, w_ic, w_iv5, tfr_0, tfr_1, tfr_2, tfr_3, tfr_4, w_if_ne, w_iv1, w_ild5, w_gf_14_6, tw_f, w_la, w_lax, w_gf_14_7, w_iv3, w_goto, true_and, and_true, Nat.reduceAdd, Nat.reduceSub, eq_self, tshm_14, tshm_31, tshm_32, tykm_31, tykm_32, tci_15, tci_960, tykm_14, tci_14, tshm_667, tshm_668, tshm_669, tshm_670, tykm_33, tci_700, tsn_671, tyn_17, tcn_10, tzs_672, tzs_673, tzs_680, tzs_681, tzs_682, tzs_683, tzs_684, tzs_685, tzs_686, tzs_687, tzs_688, tzs_689, tzy_15, tzy_35, tzy_36, tzy_37, tzy_38, tzy_39, tzy_40, tzc_60, tzc_320, tzc_5, tzc_4, tzc_8]
    refine tc_i (D := 71) (fun d' hd' => o_told j1 j2 hf j3 (by omega) k5 (by omega) k5 (by omega) (by omega) (Or.inl rfl) hd') (by omega) ?_
    rintro z3 M4 ⟨r1, r2⟩
    have hz3 := z3_r r1.1
    have s4 := st M3 M4 f k3 k4 (by omega) r2
    try simp only [kb_X12_tellsOf_62, w_ald_0, w_ild_3, w_ild_1, w_ild_2, w_ic, w_iv5, tfr_0, tfr_1, tfr_2, tfr_3, tfr_4, w_if_ne, w_iv1, w_ild5, w_gf_14_6, tw_f, w_la, w_lax, w_gf_14_7, w_iv3, w_goto, true_and, and_true, Nat.reduceAdd, Nat.reduceSub, eq_self, tshm_14, tshm_31, tshm_32, tykm_31, tykm_32, tci_15, tci_960, tykm_14, tci_14, tshm_667, tshm_668, tshm_669, tshm_670, tykm_33, tci_700, tsn_671, tyn_17, tcn_10, tzs_672, tzs_673, tzs_680, tzs_681, tzs_682, tzs_683, tzs_684, tzs_685, tzs_686, tzs_687, tzs_688, tzs_689, tzy_15, tzy_35, tzy_36, tzy_37, tzy_38, tzy_39, tzy_40, tzc_60, tzc_320, tzc_5, tzc_4, tzc_8]
    refine ⟨by omega, fun q => ?_, fun q => n119 M4 1 (Or.inr rfl) s4.1 s4.2⟩
    refine tb_X12_tellsOf_118 (c := false) ?_
    simp only [kb_X12_tellsOf_118, w_ic, w_nil, true_and, and_true, Nat.reduceAdd, Nat.reduceSub, eq_self]
    exact n119 M4 0 (Or.inl rfl) s4.1 s4.2
  have v0 : vE (fun r => f ≤ r) M (tU M 664 11 (f + 3)) := vE_free
  have f0 : tU M 664 11 (f + 3) 664 11 = f + 3 := tU_eq ..
  refine tb_X12_tellsOf_0 (c := false) ?_
  simp only [kb_X12_tellsOf_0, w_ald_0, w_gf_14_11, tw_f, w_ist_3, tkl_n, tkl_i, tkl_l, tkl_r, w_ic, w_iadd, w_ist4, w_ist5, w_dupi, w_dupr, w_pf_14_11, w_bi, w_ist6, w_ild_3, w_ild_1, w_ild_2, w_iv5, tfr_0, tfr_1, tfr_2, tfr_3, tfr_4, w_if_ne, w_iv1, w_goto, true_and, and_true, Nat.reduceAdd, Nat.reduceSub, eq_self, tshm_14, tshm_31, tshm_32, tykm_31, tykm_32, tci_15, tci_960, tykm_14, tci_14, tshm_667, tshm_668, tshm_669, tshm_670, tykm_33, tci_700, tsn_671, tyn_17, tcn_10, tzs_672, tzs_673, tzs_680, tzs_681, tzs_682, tzs_683, tzs_684, tzs_685, tzs_686, tzs_687, tzs_688, tzs_689, tzy_15, tzy_35, tzy_36, tzy_37, tzy_38, tzy_39, tzy_40, tzc_60, tzc_320, tzc_5, tzc_4, tzc_8, h3]
  generalize tU M 664 11 (f + 3) = M0 at v0 f0 ⊢
  obtain ⟨i1, i2, i3, i4⟩ := inv M0 v0 f0
  refine tc_i (D := 71) (fun d' hd' => o_told i1 i2 hf i3 (by omega) i4 (by omega) i4 (by omega) (by omega) (Or.inl rfl) hd') (by omega) ?_
  rintro z M1 ⟨p1, p2⟩
  have hz := z3_r p1.1
  obtain ⟨k1, k2⟩ := st M0 M1 f v0 f0 (by omega) p2
  have B1 := (inv M1 k1 k2).1.2.2.2.2.1
  try simp only [kb_X12_tellsOf_0, w_ald_0, w_gf_14_11, tw_f, w_ist_3, tkl_n, tkl_i, tkl_l, tkl_r, w_ic, w_iadd, w_ist4, w_ist5, w_dupi, w_dupr, w_pf_14_11, w_bi, w_ist6, w_ild_3, w_ild_1, w_ild_2, w_iv5, tfr_0, tfr_1, tfr_2, tfr_3, tfr_4, w_if_ne, w_iv1, w_goto, true_and, and_true, Nat.reduceAdd, Nat.reduceSub, eq_self, tshm_14, tshm_31, tshm_32, tykm_31, tykm_32, tci_15, tci_960, tykm_14, tci_14, tshm_667, tshm_668, tshm_669, tshm_670, tykm_33, tci_700, tsn_671, tyn_17, tcn_10, tzs_672, tzs_673, tzs_680, tzs_681, tzs_682, tzs_683, tzs_684, tzs_685, tzs_686, tzs_687, tzs_688, tzs_689, tzy_15, tzy_35, tzy_36, tzy_37, tzy_38, tzy_39, tzy_40, tzc_60, tzc_320, tzc_5, tzc_4, tzc_8]
  refine ⟨by omega, fun q => n180 _ _ _ _ M1 63 (by omega) k1 k2, fun q => ?_⟩
  refine tc_i (D := 1) (fun d' hd' => c_holds0 (by omega) (B1 f (by omega) (by omega)) hd') (by omega) ?_
  rintro z2 M3 ⟨q1, rfl⟩
  try simp only [kb_X12_tellsOf_0, w_ald_0, w_gf_14_11, tw_f, w_ist_3, tkl_n, tkl_i, tkl_l, tkl_r, w_ic, w_iadd, w_ist4, w_ist5, w_dupi, w_dupr, w_pf_14_11, w_bi, w_ist6, w_ild_3, w_ild_1, w_ild_2, w_iv5, tfr_0, tfr_1, tfr_2, tfr_3, tfr_4, w_if_ne, w_iv1, w_goto, true_and, and_true, Nat.reduceAdd, Nat.reduceSub, eq_self, tshm_14, tshm_31, tshm_32, tykm_31, tykm_32, tci_15, tci_960, tykm_14, tci_14, tshm_667, tshm_668, tshm_669, tshm_670, tykm_33, tci_700, tsn_671, tyn_17, tcn_10, tzs_672, tzs_673, tzs_680, tzs_681, tzs_682, tzs_683, tzs_684, tzs_685, tzs_686, tzs_687, tzs_688, tzs_689, tzy_15, tzy_35, tzy_36, tzy_37, tzy_38, tzy_39, tzy_40, tzc_60, tzc_320, tzc_5, tzc_4, tzc_8]
  exact ⟨by omega, fun q => n62 _ k1 k2, fun q => n180 _ _ _ _ _ 32 (by omega) k1 k2⟩
/-- where cuts are put -/
def cT (o f : Int) : Int → Prop := fun r => (o ≤ r ∧ r < o + 8) ∨ f ≤ r
def cO (M : tM) (o : Int) : Prop := ∀ b : Int, o ≤ b → b < o + 8 → OB M b
theorem cO_x {o f to : Int} {M M1 : tM} (h : cO M o) (hx : xE (toF to f) M M1) (hf : o + 8 ≤ f) (ho : to < o ∨ o + 8 ≤ to ∨ OB M1 to) : cO M1 o := by
  intro b b1 b2
  by_cases hb : b = to
  · rcases ho with g | g | g
    · omega
    · omega
    · rw [hb]; exact g
  · exact OB_x hx (h b b1 b2) hb (by omega)
theorem o_cutsInto {o a f cu : Int} (h : MB M D f) (hf : 60 ≤ f ∧ f ≤ 600) (ho : 0 ≤ o ∧ o + 8 ≤ 60) (hO : cO M o) (ha : 0 ≤ a ∧ a < f) (oa : OB M a) (hc : 0 ≤ cu ∧ cu ≤ 3) (hd : 4 ≤ d) : tC e d 3603 [.inr (.inr (.inl 664)), .inl o, .inl a, .inl cu] M n (tQi n (fun z M' => (1 ≤ z ∧ z ≤ 8) ∧ xE (cT o f) M M' ∧ cO M' o)) := by
  refine tst_X12_cutsInto ?_
  have mv : ∀ (M1 M2 : tM) (to : Int), xE (cT o f) M M1 → (o ≤ to ∧ to < o + 8 ∨ f ≤ to) → xE (toF to f) M1 M2 → xE (cT o f) M M2 := fun M1 M2 to g1 g2 g3 => xE_tr g1 (xE_mono g3 (fun r q => by unfold cT; rcases q with q | q <;> omega))
  have n12 : ∀ (fu : Nat) (M1 : tM) (m c : Int) (A B : Option tV), xE (cT o f) M M1 → cO M1 o → cu - c = (fu : Int) → (1 ≤ m ∧ m ≤ 8) → (fu = 0 ∨ fu = 1 ∧ m ≤ 4 ∨ fu = 2 ∧ m ≤ 2 ∨ fu = 3 ∧ m ≤ 1) → tT e d 3603 12 [some (.inr (.inr (.inl 664))), some (.inl (o)), some (.inl (a)), some (.inl (cu)), some (.inl (m)), some (.inl (c)), A, B] [] M1 n (tQi n (fun z M' => (1 ≤ z ∧ z ≤ 8) ∧ xE (cT o f) M M' ∧ cO M' o)) := by
    intro fu
    induction fu with
    | zero =>
      intro M1 m c A B g1 g2 g3 g4 g5
      refine tb_X12_cutsInto_12 (c := false) ?_
      simp only [kb_X12_cutsInto_12, w_ild5, w_ild_3, w_ic_ge, w_ic, w_ist6, tkl_n, tkl_i, tkl_l, tkl_r, w_nil, true_and, and_true, Nat.reduceAdd, Nat.reduceSub, eq_self]
      refine ⟨by omega, fun q => ?_, fun q => by exfalso; omega⟩
      refine tb_X12_cutsInto_121 (c := false) ?_
      simp only [kb_X12_cutsInto_121, w_ild4, w_ire, trg, true_and, and_true, Nat.reduceAdd, Nat.reduceSub, eq_self]
      exact ⟨m, rfl, rfl, g4, g1, g2⟩
    | succ fu ih =>
      intro M1 m0 c A B g1 g2 g3 g4 g5
      have n21 : ∀ (fu2 : Nat) (M2 : tM) (m k : Int) (B : Option tV), xE (cT o f) M M2 → cO M2 o → (0 ≤ k ∧ k ≤ m) → m - k < (fu2 : Int) → 2 * m - k ≤ 2 * m0 → 1 ≤ m → tT e d 3603 21 [some (.inr (.inr (.inl 664))), some (.inl (o)), some (.inl (a)), some (.inl (cu)), some (.inl (m)), some (.inl (c)), some (.inl (k)), B] [] M2 n (tQi n (fun z M' => (1 ≤ z ∧ z ≤ 8) ∧ xE (cT o f) M M' ∧ cO M' o)) := by
        intro fu2
        induction fu2 with
        | zero => intro M2 m k B k1 k2 k3 k4; exfalso; omega
        | succ fu2 ih2 =>
          intro M2 m k B k1 k2 k3 k4 k5 k6
          have hm8 : m ≤ 8 := by omega
          have n109 : ∀ (M3 : tM) (m' k' : Int) (B : Option tV), xE (cT o f) M M3 → cO M3 o → (0 ≤ k' + 1 ∧ k' + 1 ≤ m') → m' - (k' + 1) < (fu2 : Int) → 2 * m' - (k' + 1) ≤ 2 * m0 → 1 ≤ m' → tT e d 3603 109 [some (.inr (.inr (.inl 664))), some (.inl (o)), some (.inl (a)), some (.inl (cu)), some (.inl (m')), some (.inl (c)), some (.inl (k')), B] [] M3 n (tQi n (fun z M' => (1 ≤ z ∧ z ≤ 8) ∧ xE (cT o f) M M' ∧ cO M' o)) := by
            intro M3 m' k' B r1 r2 r3 r4 r5 r6
            refine tb_X12_cutsInto_109 (c := false) ?_
            simp only [kb_X12_cutsInto_109, w_inc6, tkl_n, tkl_i, tkl_l, tkl_r, w_goto, true_and, and_true, Nat.reduceAdd, Nat.reduceSub, eq_self]
            exact ih2 M3 m' (k' + 1) B r1 r2 r3 r4 r5 r6
          by_cases hk : m ≤ k
          · refine tb_X12_cutsInto_21 (c := false) ?_
            simp only [kb_X12_cutsInto_21, w_ild6, w_ild4, w_ic_ge, w_ald_0, w_ild_1, w_iadd, w_iv1, tfr_0, tfr_1, tfr_2, tfr_3, tfr_4, w_if_ne, w_goto, true_and, and_true, Nat.reduceAdd, Nat.reduceSub, eq_self, tshm_14, tshm_31, tshm_32, tykm_31, tykm_32, tci_15, tci_960, tykm_14, tci_14, tshm_667, tshm_668, tshm_669, tshm_670, tykm_33, tci_700, tsn_671, tyn_17, tcn_10, tzs_672, tzs_673, tzs_680, tzs_681, tzs_682, tzs_683, tzs_684, tzs_685, tzs_686, tzs_687, tzs_688, tzs_689, tzy_15, tzy_35, tzy_36, tzy_37, tzy_38, tzy_39, tzy_40, tzc_60, tzc_320, tzc_5, tzc_4, tzc_8]
            refine ⟨by omega, fun q => ?_, fun q => by exfalso; omega⟩
            refine tb_X12_cutsInto_115 (c := false) ?_
            simp only [kb_X12_cutsInto_115, w_inc5, tkl_n, tkl_i, tkl_l, tkl_r, w_goto, true_and, and_true, Nat.reduceAdd, Nat.reduceSub, eq_self]
            exact ih M2 m (c + 1) _ _ k1 k2 (by omega) (by omega) (by omega)
          have hB2 := MB_x h k1
          refine tb_X12_cutsInto_21 (c := false) ?_
          simp only [kb_X12_cutsInto_21, w_ild6, w_ild4, w_ic_ge, w_ald_0, w_ild_1, w_iadd, w_iv1, tfr_0, tfr_1, tfr_2, tfr_3, tfr_4, w_if_ne, w_goto, true_and, and_true, Nat.reduceAdd, Nat.reduceSub, eq_self, tshm_14, tshm_31, tshm_32, tykm_31, tykm_32, tci_15, tci_960, tykm_14, tci_14, tshm_667, tshm_668, tshm_669, tshm_670, tykm_33, tci_700, tsn_671, tyn_17, tcn_10, tzs_672, tzs_673, tzs_680, tzs_681, tzs_682, tzs_683, tzs_684, tzs_685, tzs_686, tzs_687, tzs_688, tzs_689, tzy_15, tzy_35, tzy_36, tzy_37, tzy_38, tzy_39, tzy_40, tzc_60, tzc_320, tzc_5, tzc_4, tzc_8]
          refine ⟨by omega, fun q => absurd q hk, fun q => ?_⟩
          refine tc_i (D := 3) (fun d' hd' => o_canCut hB2 (by omega) (k2 (o + k) (by omega) (by omega)) hd') (by omega) ?_
          rintro z M3 ⟨p1, p2⟩
          have x3 := mv M2 M3 f k1 (Or.inr (Int.le_refl _)) (xE_mono p2 (fun r q => Or.inl q))
          have o3 : cO M3 o := cO_x (to := f) (f := f) k2 (xE_mono p2 (fun r q => Or.inl q)) (by omega) (by omega)
          try simp only [kb_X12_cutsInto_21, w_ild6, w_ild4, w_ic_ge, w_ald_0, w_ild_1, w_iadd, w_iv1, tfr_0, tfr_1, tfr_2, tfr_3, tfr_4, w_if_ne, w_goto, true_and, and_true, Nat.reduceAdd, Nat.reduceSub, eq_self, tshm_14, tshm_31, tshm_32, tykm_31, tykm_32, tci_15, tci_960, tykm_14, tci_14, tshm_667, tshm_668, tshm_669, tshm_670, tykm_33, tci_700, tsn_671, tyn_17, tcn_10, tzs_672, tzs_673, tzs_680, tzs_681, tzs_682, tzs_683, tzs_684, tzs_685, tzs_686, tzs_687, tzs_688, tzs_689, tzy_15, tzy_35, tzy_36, tzy_37, tzy_38, tzy_39, tzy_40, tzc_60, tzc_320, tzc_5, tzc_4, tzc_8]
          refine ⟨by omega, fun q => ?_, fun q => n109 M3 m k _ x3 o3 (by omega) (by omega) (by omega) k6⟩
          have n75 : ∀ (M4 : tM) (j : Int), xE (cT o f) M M4 → cO M4 o → tT e d 3603 75 [some (.inr (.inr (.inl 664))), some (.inl (o)), some (.inl (a)), some (.inl (cu)), some (.inl (m)), some (.inl (c)), some (.inl (k)), some (.inl (j))] [] M4 n (tQi n (fun z M' => (1 ≤ z ∧ z ≤ 8) ∧ xE (cT o f) M M' ∧ cO M' o)) := by
            intro M4 j r1 r2
            refine tb_X12_cutsInto_75 (c := false) ?_
            simp only [kb_X12_cutsInto_75, w_ald_0, w_ild_1, w_ild6, w_iadd, w_ic, w_iv3, tfr_0, tfr_1, tfr_2, tfr_3, tfr_4, w_inc4, tkl_n, tkl_i, tkl_l, tkl_r, w_inc6, w_nil, true_and, and_true, Nat.reduceAdd, Nat.reduceSub, eq_self, tshm_14, tshm_31, tshm_32, tykm_31, tykm_32, tci_15, tci_960, tykm_14, tci_14, tshm_667, tshm_668, tshm_669, tshm_670, tykm_33, tci_700, tsn_671, tyn_17, tcn_10, tzs_672, tzs_673, tzs_680, tzs_681, tzs_682, tzs_683, tzs_684, tzs_685, tzs_686, tzs_687, tzs_688, tzs_689, tzy_15, tzy_35, tzy_36, tzy_37, tzy_38, tzy_39, tzy_40, tzc_60, tzc_320, tzc_5, tzc_4, tzc_8]
            refine tc_n (D := 3) (fun d' hd' => o_half (MB_x h r1) (by omega) (by omega) (r2 (o + k) (by omega) (by omega)) (Or.inr rfl) hd') (by omega) ?_
            rintro M5 ⟨s1, s2⟩
            have x5 := mv M4 M5 (o + k + 1) r1 (by omega) s2
            have o5 : cO M5 o := cO_x r2 s2 (by omega) (Or.inr (Or.inr s1))
            try simp only [kb_X12_cutsInto_75, w_ald_0, w_ild_1, w_ild6, w_iadd, w_ic, w_iv3, tfr_0, tfr_1, tfr_2, tfr_3, tfr_4, w_inc4, tkl_n, tkl_i, tkl_l, tkl_r, w_inc6, w_nil, true_and, and_true, Nat.reduceAdd, Nat.reduceSub, eq_self, tshm_14, tshm_31, tshm_32, tykm_31, tykm_32, tci_15, tci_960, tykm_14, tci_14, tshm_667, tshm_668, tshm_669, tshm_670, tykm_33, tci_700, tsn_671, tyn_17, tcn_10, tzs_672, tzs_673, tzs_680, tzs_681, tzs_682, tzs_683, tzs_684, tzs_685, tzs_686, tzs_687, tzs_688, tzs_689, tzy_15, tzy_35, tzy_36, tzy_37, tzy_38, tzy_39, tzy_40, tzc_60, tzc_320, tzc_5, tzc_4, tzc_8]
            refine tc_n (D := 3) (fun d' hd' => o_half (MB_x h x5) (by omega) (by omega) (o5 (o + k) (by omega) (by omega)) (Or.inl rfl) hd') (by omega) ?_
            rintro M6 ⟨t1, t2⟩
            have x6 := mv M5 M6 (o + k) x5 (by omega) t2
            have o6 : cO M6 o := cO_x o5 t2 (by omega) (Or.inr (Or.inr t1))
            try simp only [kb_X12_cutsInto_75, w_ald_0, w_ild_1, w_ild6, w_iadd, w_ic, w_iv3, tfr_0, tfr_1, tfr_2, tfr_3, tfr_4, w_inc4, tkl_n, tkl_i, tkl_l, tkl_r, w_inc6, w_nil, true_and, and_true, Nat.reduceAdd, Nat.reduceSub, eq_self, tshm_14, tshm_31, tshm_32, tykm_31, tykm_32, tci_15, tci_960, tykm_14, tci_14, tshm_667, tshm_668, tshm_669, tshm_670, tykm_33, tci_700, tsn_671, tyn_17, tcn_10, tzs_672, tzs_673, tzs_680, tzs_681, tzs_682, tzs_683, tzs_684, tzs_685, tzs_686, tzs_687, tzs_688, tzs_689, tzy_15, tzy_35, tzy_36, tzy_37, tzy_38, tzy_39, tzy_40, tzc_60, tzc_320, tzc_5, tzc_4, tzc_8]
            exact n109 M6 (m + 1) (k + 1) _ x6 o6 (by omega) (by omega) (by omega) (by omega)
          have n46 : ∀ (fu3 : Nat) (M4 : tM) (j : Int), xE (cT o f) M M4 → cO M4 o → j ≤ m → j - (k + 1) < (fu3 : Int) → k ≤ j → tT e d 3603 46 [some (.inr (.inr (.inl 664))), some (.inl (o)), some (.inl (a)), some (.inl (cu)), some (.inl (m)), some (.inl (c)), some (.inl (k)), some (.inl (j))] [] M4 n (tQi n (fun z M' => (1 ≤ z ∧ z ≤ 8) ∧ xE (cT o f) M M' ∧ cO M' o)) := by
            intro fu3
            induction fu3 with
            | zero =>
              intro M4 j r1 r2 r3 r4 r5
              refine tb_X12_cutsInto_46 (c := false) ?_
              simp only [kb_X12_cutsInto_46, w_ild7, w_ild6, w_ic, w_iadd, w_ic_le, w_ald_0, w_ild_1, w_isub, w_iv2, tfr_0, tfr_1, tfr_2, tfr_3, tfr_4, w_inc7, tkl_n, tkl_i, tkl_l, tkl_r, w_goto, true_and, and_true, Nat.reduceAdd, Nat.reduceSub, eq_self, tshm_14, tshm_31, tshm_32, tykm_31, tykm_32, tci_15, tci_960, tykm_14, tci_14, tshm_667, tshm_668, tshm_669, tshm_670, tykm_33, tci_700, tsn_671, tyn_17, tcn_10, tzs_672, tzs_673, tzs_680, tzs_681, tzs_682, tzs_683, tzs_684, tzs_685, tzs_686, tzs_687, tzs_688, tzs_689, tzy_15, tzy_35, tzy_36, tzy_37, tzy_38, tzy_39, tzy_40, tzc_60, tzc_320, tzc_5, tzc_4, tzc_8]
              exact ⟨by omega, fun q => n75 M4 j r1 r2, fun q => by exfalso; omega⟩
            | succ fu3 ih3 =>
              intro M4 j r1 r2 r3 r4 r5
              refine tb_X12_cutsInto_46 (c := false) ?_
              simp only [kb_X12_cutsInto_46, w_ild7, w_ild6, w_ic, w_iadd, w_ic_le, w_ald_0, w_ild_1, w_isub, w_iv2, tfr_0, tfr_1, tfr_2, tfr_3, tfr_4, w_inc7, tkl_n, tkl_i, tkl_l, tkl_r, w_goto, true_and, and_true, Nat.reduceAdd, Nat.reduceSub, eq_self, tshm_14, tshm_31, tshm_32, tykm_31, tykm_32, tci_15, tci_960, tykm_14, tci_14, tshm_667, tshm_668, tshm_669, tshm_670, tykm_33, tci_700, tsn_671, tyn_17, tcn_10, tzs_672, tzs_673, tzs_680, tzs_681, tzs_682, tzs_683, tzs_684, tzs_685, tzs_686, tzs_687, tzs_688, tzs_689, tzy_15, tzy_35, tzy_36, tzy_37, tzy_38, tzy_39, tzy_40, tzc_60, tzc_320, tzc_5, tzc_4, tzc_8]
              refine ⟨by omega, fun q => n75 M4 j r1 r2, fun q => ?_⟩
              refine tc_n (D := 0) (fun d' hd' => c_takes (by omega) (by omega)) (by omega) ?_
              rintro M5 rfl
              have s2 : xE (toF (o + j) f) M4 (sTk M4 (o + j - 1) (o + j)) := sTk_xE (Or.inl rfl) ((MB_x h r1).2.2.2.2.1 _ (by omega) (by omega))
              have s1 : OB (sTk M4 (o + j - 1) (o + j)) (o + j) := by
                have := r2 (o + j - 1) (by omega) (by omega)
                unfold OB at this ⊢
                rw [sTk_lo, sTk_hi]
                exact this
              try simp only [kb_X12_cutsInto_46, w_ild7, w_ild6, w_ic, w_iadd, w_ic_le, w_ald_0, w_ild_1, w_isub, w_iv2, tfr_0, tfr_1, tfr_2, tfr_3, tfr_4, w_inc7, tkl_n, tkl_i, tkl_l, tkl_r, w_goto, true_and, and_true, Nat.reduceAdd, Nat.reduceSub, eq_self, tshm_14, tshm_31, tshm_32, tykm_31, tykm_32, tci_15, tci_960, tykm_14, tci_14, tshm_667, tshm_668, tshm_669, tshm_670, tykm_33, tci_700, tsn_671, tyn_17, tcn_10, tzs_672, tzs_673, tzs_680, tzs_681, tzs_682, tzs_683, tzs_684, tzs_685, tzs_686, tzs_687, tzs_688, tzs_689, tzy_15, tzy_35, tzy_36, tzy_37, tzy_38, tzy_39, tzy_40, tzc_60, tzc_320, tzc_5, tzc_4, tzc_8]
              exact ih3 _ (j + -1) (mv M4 _ (o + j) r1 (by omega) s2) (cO_x r2 s2 (by omega) (Or.inr (Or.inr s1))) (by omega) (by omega) (by omega)
          refine tb_X12_cutsInto_42 (c := false) ?_
          simp only [kb_X12_cutsInto_42, w_ild4, w_ist7, tkl_n, tkl_i, tkl_l, tkl_r, w_nil, true_and, and_true, Nat.reduceAdd, Nat.reduceSub, eq_self]
          exact n46 9 M3 m x3 o3 (Int.le_refl _) (by omega) (by omega)
      refine tb_X12_cutsInto_12 (c := false) ?_
      simp only [kb_X12_cutsInto_12, w_ild5, w_ild_3, w_ic_ge, w_ic, w_ist6, tkl_n, tkl_i, tkl_l, tkl_r, w_nil, true_and, and_true, Nat.reduceAdd, Nat.reduceSub, eq_self]
      refine ⟨by omega, fun q => by exfalso; omega, fun q => ?_⟩
      exact n21 9 M1 m0 0 _ g1 g2 (by omega) (by omega) (by omega) (by omega)
  refine tb_X12_cutsInto_0 (c := false) ?_
  simp only [kb_X12_cutsInto_0, w_ic, w_ist4, tkl_n, tkl_i, tkl_l, tkl_r, w_ald_0, w_ild_2, w_ild_1, w_iv2, tfr_0, tfr_1, tfr_2, tfr_3, tfr_4, w_ist5, w_nil, true_and, and_true, Nat.reduceAdd, Nat.reduceSub, eq_self, tshm_14, tshm_31, tshm_32, tykm_31, tykm_32, tci_15, tci_960, tykm_14, tci_14, tshm_667, tshm_668, tshm_669, tshm_670, tykm_33, tci_700, tsn_671, tyn_17, tcn_10, tzs_672, tzs_673, tzs_680, tzs_681, tzs_682, tzs_683, tzs_684, tzs_685, tzs_686, tzs_687, tzs_688, tzs_689, tzy_15, tzy_35, tzy_36, tzy_37, tzy_38, tzy_39, tzy_40, tzc_60, tzc_320, tzc_5, tzc_4, tzc_8]
  refine tc_n (D := 0) (fun d' hd' => c_takes (by omega) (by omega)) (by omega) ?_
  rintro M1 rfl
  have s2 : xE (toF o f) M (sTk M a o) := sTk_xE (Or.inl rfl) (h.2.2.2.2.1 a (by omega) (by omega))
  have s1 : OB (sTk M a o) o := by
    unfold OB at oa ⊢
    rw [sTk_lo, sTk_hi]
    exact oa
  try simp only [kb_X12_cutsInto_0, w_ic, w_ist4, tkl_n, tkl_i, tkl_l, tkl_r, w_ald_0, w_ild_2, w_ild_1, w_iv2, tfr_0, tfr_1, tfr_2, tfr_3, tfr_4, w_ist5, w_nil, true_and, and_true, Nat.reduceAdd, Nat.reduceSub, eq_self, tshm_14, tshm_31, tshm_32, tykm_31, tykm_32, tci_15, tci_960, tykm_14, tci_14, tshm_667, tshm_668, tshm_669, tshm_670, tykm_33, tci_700, tsn_671, tyn_17, tcn_10, tzs_672, tzs_673, tzs_680, tzs_681, tzs_682, tzs_683, tzs_684, tzs_685, tzs_686, tzs_687, tzs_688, tzs_689, tzy_15, tzy_35, tzy_36, tzy_37, tzy_38, tzy_39, tzy_40, tzc_60, tzc_320, tzc_5, tzc_4, tzc_8]
  exact n12 cu.toNat _ 1 0 _ _ (mv M _ o xE_refl (by omega) s2) (cO_x hO s2 (by omega) (Or.inr (Or.inr s1))) (by omega) (by omega) (by omega)
theorem o_crossed {to a b c x f : Int} (h : MB M D f) (hf : f ≤ 600) (ht : 0 ≤ to ∧ to < f) (ha : 0 ≤ a ∧ a < f) (hb : 0 ≤ b ∧ b < f) (hc : 0 ≤ c ∧ c < f) (hx : 0 ≤ x ∧ x < f) (hd : 8 ≤ d) : tC e d 3602 [.inr (.inr (.inl 664)), .inl to, .inl a, .inl b, .inl c, .inl x] M n (tQi n (fun z M' => OK3 z M' to ∧ xE (toF to f) M M')) := by
  have h3 := h.2.2.1
  have h4 := h.2.2.2.1
  refine tst_X12_crossed ?_
  have n57 : ∀ (M1 : tM) (z : Int) (A : Option tV), OK3 z M1 to → yE (toF to f) M M1 → M1 664 11 = f + 1 → tT e d 3602 57 [some (.inr (.inr (.inl 664))), some (.inl (to)), some (.inl (a)), some (.inl (b)), some (.inl (c)), some (.inl (x)), A, some (.inl (z))] [] M1 n (tQi n (fun z M' => OK3 z M' to ∧ xE (toF to f) M M')) := by
    intro M1 z A g1 g2 g3
    refine tb_X12_crossed_57 (c := false) ?_
    simp only [kb_X12_crossed_57, w_ald_0, w_dupi, w_dupr, w_gf_14_11, tw_f, w_ic, w_isub, w_pf_14_11, w_ild7, w_ire, trg, true_and, and_true, Nat.reduceAdd, Nat.reduceSub, eq_self, tshm_14, tshm_31, tshm_32, tykm_31, tykm_32, tci_15, tci_960, tykm_14, tci_14, tshm_667, tshm_668, tshm_669, tshm_670, tykm_33, tci_700, tsn_671, tyn_17, tcn_10, tzs_672, tzs_673, tzs_680, tzs_681, tzs_682, tzs_683, tzs_684, tzs_685, tzs_686, tzs_687, tzs_688, tzs_689, tzy_15, tzy_35, tzy_36, tzy_37, tzy_38, tzy_39, tzy_40, tzc_60, tzc_320, tzc_5, tzc_4, tzc_8]
    rw [g3]
    exact ⟨z, rfl, rfl, OK3_free g1, yE_tr g2 yE_free, by rw [tU_eq]; omega⟩
  have mv : ∀ (M1 M2 : tM) (y : Int), yE (toF to f) M M1 → (y = to ∨ f ≤ y) → xE (toF y (f + 1)) M1 M2 → yE (toF to f) M M2 := fun M1 M2 y g1 g2 g3 => yE_tr g1 (yE_mono g3.1 (fun r q => by rcases q with q | q; exact (by rcases g2 with g | g; exact Or.inl (q.trans g); exact Or.inr (by omega)); exact Or.inr (by omega)))
  have n42 : ∀ (M1 : tM) (z : Int), (z = 0 ∨ z = 1 ∨ z = 2) → (z = 0 → OB M1 to ∧ OB M1 f) → yE (toF to f) M M1 → M1 664 11 = f + 1 → tT e d 3602 42 [some (.inr (.inr (.inl 664))), some (.inl (to)), some (.inl (a)), some (.inl (b)), some (.inl (c)), some (.inl (x)), some (.inl (f)), some (.inl (z))] [] M1 n (tQi n (fun z M' => OK3 z M' to ∧ xE (toF to f) M M')) := by
    intro M1 z hz g1 g2 g3
    have hzr := z3_r hz
    refine tb_X12_crossed_42 (c := false) ?_
    simp only [kb_X12_crossed_42, w_ild7, w_if_ne, w_ald_0, w_ild_1, w_ild6, w_iv3, tfr_0, tfr_1, tfr_2, tfr_3, tfr_4, w_ist7, tkl_n, tkl_i, tkl_l, tkl_r, w_nil, true_and, and_true, Nat.reduceAdd, Nat.reduceSub, eq_self, tshm_14, tshm_31, tshm_32, tykm_31, tykm_32, tci_15, tci_960, tykm_14, tci_14, tshm_667, tshm_668, tshm_669, tshm_670, tykm_33, tci_700, tsn_671, tyn_17, tcn_10, tzs_672, tzs_673, tzs_680, tzs_681, tzs_682, tzs_683, tzs_684, tzs_685, tzs_686, tzs_687, tzs_688, tzs_689, tzy_15, tzy_35, tzy_36, tzy_37, tzy_38, tzy_39, tzy_40, tzc_60, tzc_320, tzc_5, tzc_4, tzc_8]
    refine ⟨by omega, fun q => n57 M1 z _ ⟨hz, fun g => absurd g q⟩ g2 g3, fun q => ?_⟩
    have g1 := g1 (by omega)
    refine tc_i (D := 4) (fun d' hd' => o_difference (MB_y h g2 g3 (by omega)) (by omega) (by omega) (by omega) g1.1 g1.2 hd') (by omega) ?_
    rintro z2 M2 ⟨p1, p2⟩
    try simp only [kb_X12_crossed_42, w_ild7, w_if_ne, w_ald_0, w_ild_1, w_ild6, w_iv3, tfr_0, tfr_1, tfr_2, tfr_3, tfr_4, w_ist7, tkl_n, tkl_i, tkl_l, tkl_r, w_nil, true_and, and_true, Nat.reduceAdd, Nat.reduceSub, eq_self, tshm_14, tshm_31, tshm_32, tykm_31, tykm_32, tci_15, tci_960, tykm_14, tci_14, tshm_667, tshm_668, tshm_669, tshm_670, tykm_33, tci_700, tsn_671, tyn_17, tcn_10, tzs_672, tzs_673, tzs_680, tzs_681, tzs_682, tzs_683, tzs_684, tzs_685, tzs_686, tzs_687, tzs_688, tzs_689, tzy_15, tzy_35, tzy_36, tzy_37, tzy_38, tzy_39, tzy_40, tzc_60, tzc_320, tzc_5, tzc_4, tzc_8]
    exact n57 M2 z2 _ p1 (mv M1 M2 to g2 (Or.inl rfl) p2) (p2.2.trans g3)
  have y0 : yE (toF to f) M (tU M 664 11 (f + 1)) := yE_free
  have f0 : tU M 664 11 (f + 1) 664 11 = f + 1 := tU_eq ..
  refine tb_X12_crossed_0 (c := false) ?_
  simp only [kb_X12_crossed_0, w_ald_0, w_gf_14_11, tw_f, w_ist6, tkl_n, tkl_i, tkl_l, tkl_r, w_dupi, w_dupr, w_ic, w_iadd, w_pf_14_11, w_ild_1, w_ild_2, w_ild_3, w_iv3, tfr_0, tfr_1, tfr_2, tfr_3, tfr_4, w_ist7, w_ild7, w_if_ne, w_ild6, w_ild4, w_ild5, w_nil, true_and, and_true, Nat.reduceAdd, Nat.reduceSub, eq_self, tshm_14, tshm_31, tshm_32, tykm_31, tykm_32, tci_15, tci_960, tykm_14, tci_14, tshm_667, tshm_668, tshm_669, tshm_670, tykm_33, tci_700, tsn_671, tyn_17, tcn_10, tzs_672, tzs_673, tzs_680, tzs_681, tzs_682, tzs_683, tzs_684, tzs_685, tzs_686, tzs_687, tzs_688, tzs_689, tzy_15, tzy_35, tzy_36, tzy_37, tzy_38, tzy_39, tzy_40, tzc_60, tzc_320, tzc_5, tzc_4, tzc_8, h3]
  generalize tU M 664 11 (f + 1) = M0 at y0 f0 ⊢
  refine tc_i (D := 6) (fun d' hd' => o_product (MB_y h y0 f0 (by omega)) (by omega) (by omega) (by omega) hd') (by omega) ?_
  rintro z M1 ⟨p1, p2⟩
  have y1 := mv M0 M1 to y0 (Or.inl rfl) p2
  have f1 := p2.2.trans f0
  have hz := p1.1
  have hzr := z3_r hz
  try simp only [kb_X12_crossed_0, w_ald_0, w_gf_14_11, tw_f, w_ist6, tkl_n, tkl_i, tkl_l, tkl_r, w_dupi, w_dupr, w_ic, w_iadd, w_pf_14_11, w_ild_1, w_ild_2, w_ild_3, w_iv3, tfr_0, tfr_1, tfr_2, tfr_3, tfr_4, w_ist7, w_ild7, w_if_ne, w_ild6, w_ild4, w_ild5, w_nil, true_and, and_true, Nat.reduceAdd, Nat.reduceSub, eq_self, tshm_14, tshm_31, tshm_32, tykm_31, tykm_32, tci_15, tci_960, tykm_14, tci_14, tshm_667, tshm_668, tshm_669, tshm_670, tykm_33, tci_700, tsn_671, tyn_17, tcn_10, tzs_672, tzs_673, tzs_680, tzs_681, tzs_682, tzs_683, tzs_684, tzs_685, tzs_686, tzs_687, tzs_688, tzs_689, tzy_15, tzy_35, tzy_36, tzy_37, tzy_38, tzy_39, tzy_40, tzc_60, tzc_320, tzc_5, tzc_4, tzc_8]
  refine ⟨by omega, fun q => n42 M1 z hz (fun g => absurd g q) y1 f1, fun q => ?_⟩
  refine tc_i (D := 6) (fun d' hd' => o_product (MB_y h y1 f1 (by omega)) (by omega) (by omega) (by omega) hd') (by omega) ?_
  rintro z2 M2 ⟨r1, r2⟩
  try simp only [kb_X12_crossed_0, w_ald_0, w_gf_14_11, tw_f, w_ist6, tkl_n, tkl_i, tkl_l, tkl_r, w_dupi, w_dupr, w_ic, w_iadd, w_pf_14_11, w_ild_1, w_ild_2, w_ild_3, w_iv3, tfr_0, tfr_1, tfr_2, tfr_3, tfr_4, w_ist7, w_ild7, w_if_ne, w_ild6, w_ild4, w_ild5, w_nil, true_and, and_true, Nat.reduceAdd, Nat.reduceSub, eq_self, tshm_14, tshm_31, tshm_32, tykm_31, tykm_32, tci_15, tci_960, tykm_14, tci_14, tshm_667, tshm_668, tshm_669, tshm_670, tykm_33, tci_700, tsn_671, tyn_17, tcn_10, tzs_672, tzs_673, tzs_680, tzs_681, tzs_682, tzs_683, tzs_684, tzs_685, tzs_686, tzs_687, tzs_688, tzs_689, tzy_15, tzy_35, tzy_36, tzy_37, tzy_38, tzy_39, tzy_40, tzc_60, tzc_320, tzc_5, tzc_4, tzc_8]
  exact n42 M2 z2 r1.1 (fun g => ⟨OB_x r2 (p1.2 (by omega)) (by omega) (by omega), r1.2 g⟩) (mv M1 M2 f y1 (Or.inr (Int.le_refl _)) r2) (r2.2.trans f1)
theorem o_noBounds {x fo a cu : Int} (hF : FI M) (hK : KB M) (h1 : (-2147483648 ≤ x ∧ x < 2147483648)) (h2 : (-2147483648 ≤ fo ∧ fo < 2147483648)) (h3 : (-2147483648 ≤ a ∧ a < 2147483648)) (h4 : (-2147483648 ≤ cu ∧ cu < 2147483648)) (hd : 3 ≤ d) : tC e d 3665 [.inr (.inr (.inl 664)), .inl x, .inl fo, .inl a, .inl cu] M n (tQi n (fun v M' => (0 ≤ v ∧ v ≤ 4) ∧ (v = 0 → (0 ≤ x ∧ x ≤ 9) ∧ (0 ≤ fo ∧ fo ≤ 3) ∧ (0 ≤ a ∧ a ≤ 9) ∧ (0 ≤ cu ∧ cu ≤ 3) ∧ M 687 fo ≠ 0) ∧ M' = M)) := by
  refine tst_X12_noBounds ?_
  have n72 : ∀ v : Int, (0 ≤ v ∧ v ≤ 4) → (v = 0 → (0 ≤ x ∧ x ≤ 9) ∧ (0 ≤ fo ∧ fo ≤ 3) ∧ (0 ≤ a ∧ a ≤ 9) ∧ (0 ≤ cu ∧ cu ≤ 3) ∧ M 687 fo ≠ 0) → tT e d 3665 72 [some (.inr (.inr (.inl 664))), some (.inl (x)), some (.inl (fo)), some (.inl (a)), some (.inl (cu))] [.inl v] M n (tQi n (fun v M' => (0 ≤ v ∧ v ≤ 4) ∧ (v = 0 → (0 ≤ x ∧ x ≤ 9) ∧ (0 ≤ fo ∧ fo ≤ 3) ∧ (0 ≤ a ∧ a ≤ 9) ∧ (0 ≤ cu ∧ cu ≤ 3) ∧ M 687 fo ≠ 0) ∧ M' = M)) := by
    intro v g1 g2
    refine tb_X12_noBounds_72 (c := false) ?_
    simp only [kb_X12_noBounds_72, w_ire, trg, true_and, and_true, Nat.reduceAdd, Nat.reduceSub, eq_self]
    exact ⟨v, rfl, rfl, g1, g2, rfl⟩
  have no : ∀ v : Int, (1 ≤ v ∧ v ≤ 4) → tT e d 3665 72 [some (.inr (.inr (.inl 664))), some (.inl (x)), some (.inl (fo)), some (.inl (a)), some (.inl (cu))] [.inl v] M n (tQi n (fun v M' => (0 ≤ v ∧ v ≤ 4) ∧ (v = 0 → (0 ≤ x ∧ x ≤ 9) ∧ (0 ≤ fo ∧ fo ≤ 3) ∧ (0 ≤ a ∧ a ≤ 9) ∧ (0 ≤ cu ∧ cu ≤ 3) ∧ M 687 fo ≠ 0) ∧ M' = M)) := fun v hv => n72 v (by omega) (fun q => by omega)
  have n16 : tT e d 3665 16 [some (.inr (.inr (.inl 664))), some (.inl (x)), some (.inl (fo)), some (.inl (a)), some (.inl (cu))] [] M n (tQi n (fun v M' => (0 ≤ v ∧ v ≤ 4) ∧ (v = 0 → (0 ≤ x ∧ x ≤ 9) ∧ (0 ≤ fo ∧ fo ≤ 3) ∧ (0 ≤ a ∧ a ≤ 9) ∧ (0 ≤ cu ∧ cu ≤ 3) ∧ M 687 fo ≠ 0) ∧ M' = M)) := by
    refine tb_X12_noBounds_16 (c := false) ?_
    simp only [kb_X12_noBounds_16, w_ic, w_goto, true_and, and_true, Nat.reduceAdd, Nat.reduceSub, eq_self]
    exact no 1 (by omega)
  have n55 : tT e d 3665 55 [some (.inr (.inr (.inl 664))), some (.inl (x)), some (.inl (fo)), some (.inl (a)), some (.inl (cu))] [] M n (tQi n (fun v M' => (0 ≤ v ∧ v ≤ 4) ∧ (v = 0 → (0 ≤ x ∧ x ≤ 9) ∧ (0 ≤ fo ∧ fo ≤ 3) ∧ (0 ≤ a ∧ a ≤ 9) ∧ (0 ≤ cu ∧ cu ≤ 3) ∧ M 687 fo ≠ 0) ∧ M' = M)) := by
    refine tb_X12_noBounds_55 (c := false) ?_
    simp only [kb_X12_noBounds_55, w_ic, w_goto, true_and, and_true, Nat.reduceAdd, Nat.reduceSub, eq_self]
    exact no 3 (by omega)
  refine tb_X12_noBounds_0 (c := false) ?_
  simp only [kb_X12_noBounds_0, w_ild_1, w_is1, tfr_0, tfr_1, tfr_2, tfr_3, tfr_4, w_if_eq, w_ald_0, w_ild_2, w_ild_3, w_iv2, w_if_le, w_nil, true_and, and_true, Nat.reduceAdd, Nat.reduceSub, eq_self, tshm_14, tshm_31, tshm_32, tykm_31, tykm_32, tci_15, tci_960, tykm_14, tci_14, tshm_667, tshm_668, tshm_669, tshm_670, tykm_33, tci_700, tsn_671, tyn_17, tcn_10, tzs_672, tzs_673, tzs_680, tzs_681, tzs_682, tzs_683, tzs_684, tzs_685, tzs_686, tzs_687, tzs_688, tzs_689, tzy_15, tzy_35, tzy_36, tzy_37, tzy_38, tzy_39, tzy_40, tzc_60, tzc_320, tzc_5, tzc_4, tzc_8]
  refine tc_i (D := 1) (fun d' hd' => o_isShelf h1 hd') (by omega) ?_
  rintro z1 M1 ⟨q1, rfl⟩
  try simp only [kb_X12_noBounds_0, w_ild_1, w_is1, tfr_0, tfr_1, tfr_2, tfr_3, tfr_4, w_if_eq, w_ald_0, w_ild_2, w_ild_3, w_iv2, w_if_le, w_nil, true_and, and_true, Nat.reduceAdd, Nat.reduceSub, eq_self, tshm_14, tshm_31, tshm_32, tykm_31, tykm_32, tci_15, tci_960, tykm_14, tci_14, tshm_667, tshm_668, tshm_669, tshm_670, tykm_33, tci_700, tsn_671, tyn_17, tcn_10, tzs_672, tzs_673, tzs_680, tzs_681, tzs_682, tzs_683, tzs_684, tzs_685, tzs_686, tzs_687, tzs_688, tzs_689, tzy_15, tzy_35, tzy_36, tzy_37, tzy_38, tzy_39, tzy_40, tzc_60, tzc_320, tzc_5, tzc_4, tzc_8]
  refine ⟨by omega, fun q => n16, fun q => ?_⟩
  refine tc_i (D := 2) (fun d' hd' => o_noLook h2 h3 hd') (by omega) ?_
  rintro z2 M2 ⟨q2, rfl⟩
  try simp only [kb_X12_noBounds_0, w_ild_1, w_is1, tfr_0, tfr_1, tfr_2, tfr_3, tfr_4, w_if_eq, w_ald_0, w_ild_2, w_ild_3, w_iv2, w_if_le, w_nil, true_and, and_true, Nat.reduceAdd, Nat.reduceSub, eq_self, tshm_14, tshm_31, tshm_32, tykm_31, tykm_32, tci_15, tci_960, tykm_14, tci_14, tshm_667, tshm_668, tshm_669, tshm_670, tykm_33, tci_700, tsn_671, tyn_17, tcn_10, tzs_672, tzs_673, tzs_680, tzs_681, tzs_682, tzs_683, tzs_684, tzs_685, tzs_686, tzs_687, tzs_688, tzs_689, tzy_15, tzy_35, tzy_36, tzy_37, tzy_38, tzy_39, tzy_40, tzc_60, tzc_320, tzc_5, tzc_4, tzc_8]
  refine ⟨by omega, fun q => ?_, fun q => n16⟩
  refine tb_X12_noBounds_20 (c := false) ?_
  simp only [kb_X12_noBounds_20, w_ild4, w_i2l, w_lc0, w_ld2, w_is3, tfr_0, tfr_1, tfr_2, tfr_3, tfr_4, w_if_ne, w_ic, w_goto, true_and, and_true, Nat.reduceAdd, Nat.reduceSub, eq_self]
  refine ⟨by omega, ?_⟩
  refine tc_i (D := 0) (fun d' hd' => c_in (by omega) (by omega) (by omega)) (by omega) ?_
  rintro z3 M3 ⟨q3, rfl⟩
  try simp only [kb_X12_noBounds_20, w_ild4, w_i2l, w_lc0, w_ld2, w_is3, tfr_0, tfr_1, tfr_2, tfr_3, tfr_4, w_if_ne, w_ic, w_goto, true_and, and_true, Nat.reduceAdd, Nat.reduceSub, eq_self]
  refine ⟨by omega, fun q => ?_, fun q => no 2 (by omega)⟩
  have g := hF fo (by omega) (by omega)
  have k := hK.2.2 a (by omega) (by omega)
  refine tb_X12_noBounds_37 (c := false) ?_
  simp only [kb_X12_noBounds_37, w_ald_0, w_gf_14_33, tw_f, w_ild_2, w_ba, w_if_eq, w_gf_14_10, w_ild_3, w_if_ne, w_nil, true_and, and_true, Nat.reduceAdd, Nat.reduceSub, eq_self, tshm_14, tshm_31, tshm_32, tykm_31, tykm_32, tci_15, tci_960, tykm_14, tci_14, tshm_667, tshm_668, tshm_669, tshm_670, tykm_33, tci_700, tsn_671, tyn_17, tcn_10, tzs_672, tzs_673, tzs_680, tzs_681, tzs_682, tzs_683, tzs_684, tzs_685, tzs_686, tzs_687, tzs_688, tzs_689, tzy_15, tzy_35, tzy_36, tzy_37, tzy_38, tzy_39, tzy_40, tzc_60, tzc_320, tzc_5, tzc_4, tzc_8]
  refine ⟨by omega, by omega, fun q => n55, fun q => ⟨by omega, by omega, fun q => ?_, fun q => n55⟩⟩
  refine tb_X12_noBounds_59 (c := false) ?_
  simp only [kb_X12_noBounds_59, w_ald_0, w_ild_2, w_iv1, tfr_0, tfr_1, tfr_2, tfr_3, tfr_4, w_if_eq, w_ic, w_goto, true_and, and_true, Nat.reduceAdd, Nat.reduceSub, eq_self, tshm_14, tshm_31, tshm_32, tykm_31, tykm_32, tci_15, tci_960, tykm_14, tci_14, tshm_667, tshm_668, tshm_669, tshm_670, tykm_33, tci_700, tsn_671, tyn_17, tcn_10, tzs_672, tzs_673, tzs_680, tzs_681, tzs_682, tzs_683, tzs_684, tzs_685, tzs_686, tzs_687, tzs_688, tzs_689, tzy_15, tzy_35, tzy_36, tzy_37, tzy_38, tzy_39, tzy_40, tzc_60, tzc_320, tzc_5, tzc_4, tzc_8]
  refine tc_i (D := 0) (fun d' hd' => o_hasYOf hF (by omega) (by omega)) (by omega) ?_
  rintro z4 M4 ⟨q4, rfl⟩
  try simp only [kb_X12_noBounds_59, w_ald_0, w_ild_2, w_iv1, tfr_0, tfr_1, tfr_2, tfr_3, tfr_4, w_if_eq, w_ic, w_goto, true_and, and_true, Nat.reduceAdd, Nat.reduceSub, eq_self, tshm_14, tshm_31, tshm_32, tykm_31, tykm_32, tci_15, tci_960, tykm_14, tci_14, tshm_667, tshm_668, tshm_669, tshm_670, tykm_33, tci_700, tsn_671, tyn_17, tcn_10, tzs_672, tzs_673, tzs_680, tzs_681, tzs_682, tzs_683, tzs_684, tzs_685, tzs_686, tzs_687, tzs_688, tzs_689, tzy_15, tzy_35, tzy_36, tzy_37, tzy_38, tzy_39, tzy_40, tzc_60, tzc_320, tzc_5, tzc_4, tzc_8]
  refine ⟨by omega, fun q => ?_, fun q => no 4 (by omega)⟩
  refine tb_X12_noBounds_71 (c := false) ?_
  simp only [kb_X12_noBounds_71, w_ic, w_nil, true_and, and_true, Nat.reduceAdd, Nat.reduceSub, eq_self]
  exact n72 0 (by omega) (fun _ => by omega)
end MODEL
