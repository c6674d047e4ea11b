/-! THE MODEL: the slope of a part of a formula. Printed by wip/p2/gen/gslopes.py. -/

theorem sl_st {T : Int → Prop} {M M1 : tM} {D : Nat} {f b s : Int} (hV : VI M D f b s) (hy : yE T M M1) (hT : ∀ r, T r → f ≤ r) (h1 : M1 664 11 = f + 3) (hf : f + 3 < 700) : VI M1 D (f + 3) b s := VI_y hV hy hT h1 (by have := hV.1.2.2.2.1; omega)
theorem z3_r {z : Int} (h : z = 0 ∨ z = 1 ∨ z = 2) : 0 ≤ z ∧ z ≤ 2 := by omega
theorem sing_lo {M : tM} {b u l : Int} : zlo (sHi (sLo M b u l) b u l) b = u * 1000000000 + l := by
  unfold zlo sHi sLo
  simp (disch := decide) only [tU_nk, tU_eq]
theorem sing_hi {M : tM} {b u l : Int} : zhi (sHi (sLo M b u l) b u l) b = u * 1000000000 + l := by
  unfold zhi sHi sLo
  simp (disch := decide) only [tU_nk, tU_eq]
theorem sing_xE {T : Int → Prop} {M : tM} {b u l : Int} (hT : T b) (hl : 0 ≤ l ∧ l < 1000000000) (hu : -30000000000000000000000 ≤ u * 1000000000 + l ∧ u * 1000000000 + l ≤ 30000000000000000000000) : xE T M (sHi (sLo M b u l) b u l) := by
  have hk : ∀ (k : Nat) (i : Int), ¬ (isB k ∧ i = b) → sHi (sLo M b u l) b u l k i = M k i := fun k i g => (sHi_k g).trans (sLo_k g)
  have h7 : sHi (sLo M b u l) b u l 667 b = u := by unfold sHi sLo; simp (disch := decide) only [tU_nk, tU_eq]
  have h8 : sHi (sLo M b u l) b u l 668 b = l := by unfold sHi sLo; simp (disch := decide) only [tU_nk, tU_eq]
  have h9 : sHi (sLo M b u l) b u l 669 b = u := by unfold sHi sLo; simp (disch := decide) only [tU_nk, tU_eq]
  have h0 : sHi (sLo M b u l) b u l 670 b = l := by unfold sHi sLo; simp (disch := decide) only [tU_nk, tU_eq]
  refine ⟨⟨fun k i _ _ _ g => hk k i (fun q => g ⟨q.1, by rw [q.2]; exact hT⟩), fun q => KI_k q (fun k i g => hk k i (fun q => by have := q.1; unfold isB at this; omega)), fun q c c1 c2 => ?_⟩, hk 664 11 (fun q => by have := q.1; unfold isB at this; omega)⟩
  by_cases hc : c = b
  · unfold bcan
    rw [hc, h7, h8, h9, h0]
    exact ⟨⟨hl, hl⟩, hu, hu⟩
  · have := q c c1 c2
    unfold bcan at this ⊢
    rw [hk 667 c (fun q => hc q.2), hk 668 c (fun q => hc q.2), hk 669 c (fun q => hc q.2), hk 670 c (fun q => hc q.2)]
    exact this
section MODEL
variable {e : tE}
set_option maxHeartbeats 4000000 in
theorem o_slopes {D : Nat} {b s : Int} : ∀ (q : Nat) {M : tM} {d n : Nat} {to f p : Int}, VI M D f b s → (b ≤ p ∧ p < b + s ∧ p < b + (q : Int)) → (0 ≤ to ∧ to < f) → f + 3 * (q : Int) ≤ 690 → 9 + q ≤ d → tC e d 3710 [.inr (.inr (.inl 664)), .inl to, .inl p] M n (tQi n (fun z M' => OK3 z M' to ∧ xE (toF to f) M M')) := by
  intro q
  induction q with
  | zero => intro M d n to f p h1 h2; exfalso; omega
  | succ q ih =>
    intro M d n to f p hV hp ht hq hd
    have hFN := hV.2.2.2 p hp.1 hp.2.1
    have hb0 := hV.2.2.1
    have hf3 := hV.1.2.2.1
    have hf4 := hV.1.2.2.2.1
    refine tst_X12_slopes ?_
    have n926 : ∀ (c u : Int) (M1 : tM) (z : Int), OK3 z M1 to → yE (toF to f) M M1 → M1 664 11 = f + 3 → tT e d 3710 926 [some (.inr (.inr (.inl 664))), some (.inl (to)), some (.inl (p)), some (.inl (c)), some (.inl (f)), some (.inl (f + 1)), some (.inl (f + 2)), some (.inl (z)), some (.inl (u))] [] M1 n (tQi n (fun z M' => OK3 z M' to ∧ xE (toF to f) M M')) := by
      intro c u M1 z a1 a2 a3
      refine tb_X12_slopes_926 (c := false) ?_
      simp only [kb_X12_slopes_926, w_ald_0, w_dupi, w_dupr, w_gf_14_11, tw_f, w_ic, w_isub, w_pf_14_11, w_ild7, w_ire, trg, true_and, and_true, Nat.reduceAdd, Nat.reduceSub, eq_self, tshm_14, tshm_31, tshm_32, tykm_31, tykm_32, tci_15, tci_960, tykm_14, tci_14, tshm_667, tshm_668, tshm_669, tshm_670, tykm_33, tci_700, tsn_671, tyn_17, tcn_10, tzs_672, tzs_673, tzs_680, tzs_681, tzs_682, tzs_683, tzs_684, tzs_685, tzs_686, tzs_687, tzs_688, tzs_689, tzy_15, tzy_35, tzy_36, tzy_37, tzy_38, tzy_39, tzy_40, tzc_60, tzc_320, tzc_5, tzc_4, tzc_8]
      rw [a3]
      exact ⟨z, rfl, rfl, OK3_free a1, yE_tr a2 yE_free, by rw [tU_eq]; omega⟩
    have n40 : ∀ A B C E F G : Option tV, tT e d 3710 40 [some (.inr (.inr (.inl 664))), some (.inl (to)), some (.inl (p)), A, B, C, E, F, G] [] M n (tQi n (fun z M' => OK3 z M' to ∧ xE (toF to f) M M')) := by
      intro A B C E F G
      refine tb_X12_slopes_40 (c := false) ?_
      simp only [kb_X12_slopes_40, w_ald_0, w_ild_1, w_lc0, w_iv3, tfr_0, tfr_1, tfr_2, tfr_3, tfr_4, w_ic, w_ire, trg, true_and, and_true, Nat.reduceAdd, Nat.reduceSub, eq_self, tshm_14, tshm_31, tshm_32, tykm_31, tykm_32, tci_15, tci_960, tykm_14, tci_14, tshm_667, tshm_668, tshm_669, tshm_670, tykm_33, tci_700, tsn_671, tyn_17, tcn_10, tzs_672, tzs_673, tzs_680, tzs_681, tzs_682, tzs_683, tzs_684, tzs_685, tzs_686, tzs_687, tzs_688, tzs_689, tzy_15, tzy_35, tzy_36, tzy_37, tzy_38, tzy_39, tzy_40, tzc_60, tzc_320, tzc_5, tzc_4, tzc_8]
      refine tc_n (D := 1) (fun d' hd' => c_single (by omega) hd') (by omega) ?_
      rintro M1 rfl
      try simp only [kb_X12_slopes_40, w_ald_0, w_ild_1, w_lc0, w_iv3, tfr_0, tfr_1, tfr_2, tfr_3, tfr_4, w_ic, w_ire, trg, true_and, and_true, Nat.reduceAdd, Nat.reduceSub, eq_self, tshm_14, tshm_31, tshm_32, tykm_31, tykm_32, tci_15, tci_960, tykm_14, tci_14, tshm_667, tshm_668, tshm_669, tshm_670, tykm_33, tci_700, tsn_671, tyn_17, tcn_10, tzs_672, tzs_673, tzs_680, tzs_681, tzs_682, tzs_683, tzs_684, tzs_685, tzs_686, tzs_687, tzs_688, tzs_689, tzy_15, tzy_35, tzy_36, tzy_37, tzy_38, tzy_39, tzy_40, tzc_60, tzc_320, tzc_5, tzc_4, tzc_8]
      exact ⟨0, rfl, rfl, ⟨Or.inl rfl, fun _ => by unfold OB; rw [sing_lo, sing_hi]; omega⟩, sing_xE (Or.inl rfl) (by omega) (by omega)⟩
    have n66 : M 680 p ≠ 49 → M 680 p ≠ 112 → M 680 p ≠ 120 → M 680 p ≠ 121 → ¬ (M 680 p = 94 ∧ M 682 p = 0) → tT e d 3710 66 [some (.inr (.inr (.inl 664))), some (.inl (to)), some (.inl (p)), some (.inl (M 680 p)), none, none, none, none, none] [] M n (tQi n (fun z M' => OK3 z M' to ∧ xE (toF to f) M M')) := by
      have st : ∀ (M1 M2 : tM) (x : Int), yE (fun r => f ≤ r) M M1 → f ≤ x → xE (toF x (f + 3)) M1 M2 → yE (fun r => f ≤ r) M M2 := fun M1 M2 x g1 g2 g3 => yE_tr g1 (yE_in g3 g2 (by omega))
      have fin : ∀ (M1 M2 : tM), yE (fun r => f ≤ r) M M1 → xE (toF to (f + 3)) M1 M2 → yE (toF to f) M M2 := fun M1 M2 g1 g2 => yE_tr (yE_mono g1 (fun _ q => Or.inr q)) (yE_mono g2.1 (fun r q => by rcases q with q | q; exact Or.inl q; exact Or.inr (by omega)))
      have e82 : ∀ M1 : tM, yE (fun r => f ≤ r) M M1 → M1 682 p = M 682 p := fun M1 g => g.1 682 p (by decide) (by decide) (by omega) (fun q => by have := q.1; unfold isB at this; omega)
      have n221 : ∀ c u : Int, (0 ≤ c ∧ c < 65536) → (b ≤ u ∧ u < p) → (b ≤ M 682 p ∧ M 682 p < p) → ∀ (M1 : tM) (z : Int), (z = 0 ∨ z = 1 ∨ z = 2) → yE (fun r => f ≤ r) M M1 → M1 664 11 = f + 3 → (z = 0 → OB M1 (f) ∧ OB M1 (f + 1)) → tT e d 3710 221 [some (.inr (.inr (.inl 664))), some (.inl (to)), some (.inl (p)), some (.inl (c)), some (.inl (f)), some (.inl (f + 1)), some (.inl (f + 2)), some (.inl (z)), some (.inl (u))] [] M1 n (tQi n (fun z M' => OK3 z M' to ∧ xE (toF to f) M M')) := by
        intro c u hcr hu hr M1 z hz hy1 hf1 hO
        have hzr := z3_r hz
        have hV1 : VI M1 D (f + 3) b s := sl_st hV hy1 (fun _ q => q) hf1 (by omega)
        refine tb_X12_slopes_221 (c := false) ?_
        simp only [kb_X12_slopes_221, w_ild7, w_if_ne, w_ald_0, w_ild_1, w_ild_3, w_ild4, w_ild5, w_iv4, tfr_0, tfr_1, tfr_2, tfr_3, tfr_4, w_ist7, tkl_n, tkl_i, tkl_l, tkl_r, w_goto, true_and, and_true, Nat.reduceAdd, Nat.reduceSub, eq_self, tshm_14, tshm_31, tshm_32, tykm_31, tykm_32, tci_15, tci_960, tykm_14, tci_14, tshm_667, tshm_668, tshm_669, tshm_670, tykm_33, tci_700, tsn_671, tyn_17, tcn_10, tzs_672, tzs_673, tzs_680, tzs_681, tzs_682, tzs_683, tzs_684, tzs_685, tzs_686, tzs_687, tzs_688, tzs_689, tzy_15, tzy_35, tzy_36, tzy_37, tzy_38, tzy_39, tzy_40, tzc_60, tzc_320, tzc_5, tzc_4, tzc_8]
        refine ⟨by omega, fun h => n926 _ _ M1 z ⟨hz, fun q => absurd q h⟩ (yE_mono hy1 (fun _ q => Or.inr q)) hf1, fun h => ?_⟩
        have hO := hO (by omega)
        refine tc_i (D := 7) (fun d' hd' => o_acts hV1.1 (by omega) (by omega) (by omega) (hO.1) (hO.2) (by omega) hd') (by omega) ?_
        rintro z2 M2 ⟨p2, r2⟩
        try simp only [kb_X12_slopes_221, w_ild7, w_if_ne, w_ald_0, w_ild_1, w_ild_3, w_ild4, w_ild5, w_iv4, tfr_0, tfr_1, tfr_2, tfr_3, tfr_4, w_ist7, tkl_n, tkl_i, tkl_l, tkl_r, w_goto, true_and, and_true, Nat.reduceAdd, Nat.reduceSub, eq_self, tshm_14, tshm_31, tshm_32, tykm_31, tykm_32, tci_15, tci_960, tykm_14, tci_14, tshm_667, tshm_668, tshm_669, tshm_670, tykm_33, tci_700, tsn_671, tyn_17, tcn_10, tzs_672, tzs_673, tzs_680, tzs_681, tzs_682, tzs_683, tzs_684, tzs_685, tzs_686, tzs_687, tzs_688, tzs_689, tzy_15, tzy_35, tzy_36, tzy_37, tzy_38, tzy_39, tzy_40, tzc_60, tzc_320, tzc_5, tzc_4, tzc_8]
        exact n926 _ _ M2 z2 p2 (fin M1 M2 hy1 r2) (r2.2.trans hf1)
      have n192 : ∀ c u : Int, (0 ≤ c ∧ c < 65536) → (b ≤ u ∧ u < p) → (b ≤ M 682 p ∧ M 682 p < p) → ∀ M1 : tM, yE (fun r => f ≤ r) M M1 → M1 664 11 = f + 3 → tT e d 3710 192 [some (.inr (.inr (.inl 664))), some (.inl (to)), some (.inl (p)), some (.inl (c)), some (.inl (f)), some (.inl (f + 1)), some (.inl (f + 2)), some (.inl (0)), some (.inl (u))] [] M1 n (tQi n (fun z M' => OK3 z M' to ∧ xE (toF to f) M M')) := by
        intro c u hcr hu hr M1 hy1 hf1
        have hV1 : VI M1 D (f + 3) b s := sl_st hV hy1 (fun _ q => q) hf1 (by omega)
        have g82 := e82 M1 hy1
        refine tb_X12_slopes_192 (c := false) ?_
        simp only [kb_X12_slopes_192, w_ald_0, w_ild4, w_ild8, w_iv2, tfr_0, tfr_1, tfr_2, tfr_3, tfr_4, w_ist7, tkl_n, tkl_i, tkl_l, tkl_r, w_ild7, w_if_ne, w_ild5, w_gf_14_28, tw_f, w_ild_2, w_ia, w_iax, w_nil, true_and, and_true, Nat.reduceAdd, Nat.reduceSub, eq_self, tshm_14, tshm_31, tshm_32, tykm_31, tykm_32, tci_15, tci_960, tykm_14, tci_14, tshm_667, tshm_668, tshm_669, tshm_670, tykm_33, tci_700, tsn_671, tyn_17, tcn_10, tzs_672, tzs_673, tzs_680, tzs_681, tzs_682, tzs_683, tzs_684, tzs_685, tzs_686, tzs_687, tzs_688, tzs_689, tzy_15, tzy_35, tzy_36, tzy_37, tzy_38, tzy_39, tzy_40, tzc_60, tzc_320, tzc_5, tzc_4, tzc_8, g82]
        refine tc_i (D := 9 + q) (fun d' hd' => ih hV1 (by omega) (by omega) (by omega) hd') (by omega) ?_
        rintro z2 M2 ⟨p2, r2⟩
        have hy2 := st M1 M2 _ hy1 (by omega) r2
        have hf2 : M2 664 11 = f + 3 := r2.2.trans hf1
        have hV2 : VI M2 D (f + 3) b s := sl_st hV hy2 (fun _ q => q) hf2 (by omega)
        have g82 := e82 M2 hy2
        try simp only [kb_X12_slopes_192, w_ald_0, w_ild4, w_ild8, w_iv2, tfr_0, tfr_1, tfr_2, tfr_3, tfr_4, w_ist7, tkl_n, tkl_i, tkl_l, tkl_r, w_ild7, w_if_ne, w_ild5, w_gf_14_28, tw_f, w_ild_2, w_ia, w_iax, w_nil, true_and, and_true, Nat.reduceAdd, Nat.reduceSub, eq_self, tshm_14, tshm_31, tshm_32, tykm_31, tykm_32, tci_15, tci_960, tykm_14, tci_14, tshm_667, tshm_668, tshm_669, tshm_670, tykm_33, tci_700, tsn_671, tyn_17, tcn_10, tzs_672, tzs_673, tzs_680, tzs_681, tzs_682, tzs_683, tzs_684, tzs_685, tzs_686, tzs_687, tzs_688, tzs_689, tzy_15, tzy_35, tzy_36, tzy_37, tzy_38, tzy_39, tzy_40, tzc_60, tzc_320, tzc_5, tzc_4, tzc_8, g82]
        have hz2 := p2.1
        have hzr2 := z3_r hz2
        refine ⟨by omega, fun h => n221 c u hcr hu hr M2 z2 hz2 hy2 hf2 (fun q => absurd q h), fun h => ?_⟩
        have hO := p2.2 (by omega)
        change OB M2 (f) at hO
        refine ⟨by omega, ?_⟩
        refine tc_i (D := 9 + q) (fun d' hd' => ih hV2 (by omega) (by omega) (by omega) hd') (by omega) ?_
        rintro z3 M3 ⟨p3, r3⟩
        have hy3 := st M2 M3 _ hy2 (by omega) r3
        have hf3 : M3 664 11 = f + 3 := r3.2.trans hf2
        try simp only [kb_X12_slopes_192, w_ald_0, w_ild4, w_ild8, w_iv2, tfr_0, tfr_1, tfr_2, tfr_3, tfr_4, w_ist7, tkl_n, tkl_i, tkl_l, tkl_r, w_ild7, w_if_ne, w_ild5, w_gf_14_28, tw_f, w_ild_2, w_ia, w_iax, w_nil, true_and, and_true, Nat.reduceAdd, Nat.reduceSub, eq_self, tshm_14, tshm_31, tshm_32, tykm_31, tykm_32, tci_15, tci_960, tykm_14, tci_14, tshm_667, tshm_668, tshm_669, tshm_670, tykm_33, tci_700, tsn_671, tyn_17, tcn_10, tzs_672, tzs_673, tzs_680, tzs_681, tzs_682, tzs_683, tzs_684, tzs_685, tzs_686, tzs_687, tzs_688, tzs_689, tzy_15, tzy_35, tzy_36, tzy_37, tzy_38, tzy_39, tzy_40, tzc_60, tzc_320, tzc_5, tzc_4, tzc_8]
        exact n221 c u hcr hu hr M3 z3 p3.1 hy3 hf3 (fun q => ⟨OB_x r3 hO (by omega) (by omega), p3.2 q⟩)
      have n338 : ∀ c u : Int, (0 ≤ c ∧ c < 65536) → (b ≤ u ∧ u < p) → (b ≤ M 682 p ∧ M 682 p < p) → ∀ (M1 : tM) (z : Int), (z = 0 ∨ z = 1 ∨ z = 2) → yE (fun r => f ≤ r) M M1 → M1 664 11 = f + 3 → (z = 0 → OB M1 (f) ∧ OB M1 (f + 1) ∧ OB M1 (f + 2)) → tT e d 3710 338 [some (.inr (.inr (.inl 664))), some (.inl (to)), some (.inl (p)), some (.inl (c)), some (.inl (f)), some (.inl (f + 1)), some (.inl (f + 2)), some (.inl (z)), some (.inl (u))] [] M1 n (tQi n (fun z M' => OK3 z M' to ∧ xE (toF to f) M M')) := by
        intro c u hcr hu hr M1 z hz hy1 hf1 hO
        have hzr := z3_r hz
        have hV1 : VI M1 D (f + 3) b s := sl_st hV hy1 (fun _ q => q) hf1 (by omega)
        refine tb_X12_slopes_338 (c := false) ?_
        simp only [kb_X12_slopes_338, w_ild7, w_if_ne, w_ald_0, w_ild_1, w_ild4, w_ild5, w_iv3, tfr_0, tfr_1, tfr_2, tfr_3, tfr_4, w_ist7, tkl_n, tkl_i, tkl_l, tkl_r, w_goto, true_and, and_true, Nat.reduceAdd, Nat.reduceSub, eq_self, tshm_14, tshm_31, tshm_32, tykm_31, tykm_32, tci_15, tci_960, tykm_14, tci_14, tshm_667, tshm_668, tshm_669, tshm_670, tykm_33, tci_700, tsn_671, tyn_17, tcn_10, tzs_672, tzs_673, tzs_680, tzs_681, tzs_682, tzs_683, tzs_684, tzs_685, tzs_686, tzs_687, tzs_688, tzs_689, tzy_15, tzy_35, tzy_36, tzy_37, tzy_38, tzy_39, tzy_40, tzc_60, tzc_320, tzc_5, tzc_4, tzc_8]
        refine ⟨by omega, fun h => n926 _ _ M1 z ⟨hz, fun q => absurd q h⟩ (yE_mono hy1 (fun _ q => Or.inr q)) hf1, fun h => ?_⟩
        have hO := hO (by omega)
        refine tc_i (D := 3) (fun d' hd' => o_sum hV1.1 (by omega) (by omega) (by omega) (hO.1) (hO.2.1) hd') (by omega) ?_
        rintro z2 M2 ⟨p2, r2⟩
        try simp only [kb_X12_slopes_338, w_ild7, w_if_ne, w_ald_0, w_ild_1, w_ild4, w_ild5, w_iv3, tfr_0, tfr_1, tfr_2, tfr_3, tfr_4, w_ist7, tkl_n, tkl_i, tkl_l, tkl_r, w_goto, true_and, and_true, Nat.reduceAdd, Nat.reduceSub, eq_self, tshm_14, tshm_31, tshm_32, tykm_31, tykm_32, tci_15, tci_960, tykm_14, tci_14, tshm_667, tshm_668, tshm_669, tshm_670, tykm_33, tci_700, tsn_671, tyn_17, tcn_10, tzs_672, tzs_673, tzs_680, tzs_681, tzs_682, tzs_683, tzs_684, tzs_685, tzs_686, tzs_687, tzs_688, tzs_689, tzy_15, tzy_35, tzy_36, tzy_37, tzy_38, tzy_39, tzy_40, tzc_60, tzc_320, tzc_5, tzc_4, tzc_8]
        exact n926 _ _ M2 z2 p2 (fin M1 M2 hy1 r2) (r2.2.trans hf1)
      have n321 : ∀ c u : Int, (0 ≤ c ∧ c < 65536) → (b ≤ u ∧ u < p) → (b ≤ M 682 p ∧ M 682 p < p) → ∀ (M1 : tM) (z : Int), (z = 0 ∨ z = 1 ∨ z = 2) → yE (fun r => f ≤ r) M M1 → M1 664 11 = f + 3 → (z = 0 → OB M1 (f) ∧ OB M1 (f + 1) ∧ OB M1 (f + 2)) → tT e d 3710 321 [some (.inr (.inr (.inl 664))), some (.inl (to)), some (.inl (p)), some (.inl (c)), some (.inl (f)), some (.inl (f + 1)), some (.inl (f + 2)), some (.inl (z)), some (.inl (u))] [] M1 n (tQi n (fun z M' => OK3 z M' to ∧ xE (toF to f) M M')) := by
        intro c u hcr hu hr M1 z hz hy1 hf1 hO
        have hzr := z3_r hz
        have hV1 : VI M1 D (f + 3) b s := sl_st hV hy1 (fun _ q => q) hf1 (by omega)
        refine tb_X12_slopes_321 (c := false) ?_
        simp only [kb_X12_slopes_321, w_ild7, w_if_ne, w_ald_0, w_ild5, w_ild6, w_iv3, tfr_0, tfr_1, tfr_2, tfr_3, tfr_4, w_ist7, tkl_n, tkl_i, tkl_l, tkl_r, w_nil, true_and, and_true, Nat.reduceAdd, Nat.reduceSub, eq_self, tshm_14, tshm_31, tshm_32, tykm_31, tykm_32, tci_15, tci_960, tykm_14, tci_14, tshm_667, tshm_668, tshm_669, tshm_670, tykm_33, tci_700, tsn_671, tyn_17, tcn_10, tzs_672, tzs_673, tzs_680, tzs_681, tzs_682, tzs_683, tzs_684, tzs_685, tzs_686, tzs_687, tzs_688, tzs_689, tzy_15, tzy_35, tzy_36, tzy_37, tzy_38, tzy_39, tzy_40, tzc_60, tzc_320, tzc_5, tzc_4, tzc_8]
        refine ⟨by omega, fun h => n338 c u hcr hu hr M1 z hz hy1 hf1 (fun q => absurd q h), fun h => ?_⟩
        have hO := hO (by omega)
        refine tc_i (D := 6) (fun d' hd' => o_product hV1.1 (by omega) (by omega) (by omega) hd') (by omega) ?_
        rintro z2 M2 ⟨p2, r2⟩
        have hy2 := st M1 M2 _ hy1 (by omega) r2
        have hf2 : M2 664 11 = f + 3 := r2.2.trans hf1
        try simp only [kb_X12_slopes_321, w_ild7, w_if_ne, w_ald_0, w_ild5, w_ild6, w_iv3, tfr_0, tfr_1, tfr_2, tfr_3, tfr_4, w_ist7, tkl_n, tkl_i, tkl_l, tkl_r, w_nil, true_and, and_true, Nat.reduceAdd, Nat.reduceSub, eq_self, tshm_14, tshm_31, tshm_32, tykm_31, tykm_32, tci_15, tci_960, tykm_14, tci_14, tshm_667, tshm_668, tshm_669, tshm_670, tykm_33, tci_700, tsn_671, tyn_17, tcn_10, tzs_672, tzs_673, tzs_680, tzs_681, tzs_682, tzs_683, tzs_684, tzs_685, tzs_686, tzs_687, tzs_688, tzs_689, tzy_15, tzy_35, tzy_36, tzy_37, tzy_38, tzy_39, tzy_40, tzc_60, tzc_320, tzc_5, tzc_4, tzc_8]
        exact n338 c u hcr hu hr M2 z2 p2.1 hy2 hf2 (fun q => ⟨OB_x r2 hO.1 (by omega) (by omega), p2.2 q, OB_x r2 hO.2.2 (by omega) (by omega)⟩)
      have n302 : ∀ c u : Int, (0 ≤ c ∧ c < 65536) → (b ≤ u ∧ u < p) → (b ≤ M 682 p ∧ M 682 p < p) → ∀ (M1 : tM) (z : Int), (z = 0 ∨ z = 1 ∨ z = 2) → yE (fun r => f ≤ r) M M1 → M1 664 11 = f + 3 → (z = 0 → OB M1 (f) ∧ OB M1 (f + 1)) → tT e d 3710 302 [some (.inr (.inr (.inl 664))), some (.inl (to)), some (.inl (p)), some (.inl (c)), some (.inl (f)), some (.inl (f + 1)), some (.inl (f + 2)), some (.inl (z)), some (.inl (u))] [] M1 n (tQi n (fun z M' => OK3 z M' to ∧ xE (toF to f) M M')) := by
        intro c u hcr hu hr M1 z hz hy1 hf1 hO
        have hzr := z3_r hz
        have hV1 : VI M1 D (f + 3) b s := sl_st hV hy1 (fun _ q => q) hf1 (by omega)
        have g82 := e82 M1 hy1
        refine tb_X12_slopes_302 (c := false) ?_
        simp only [kb_X12_slopes_302, w_ild7, w_if_ne, w_ald_0, w_ild6, w_gf_14_28, tw_f, w_ild_2, w_ia, w_iax, w_iv2, tfr_0, tfr_1, tfr_2, tfr_3, tfr_4, w_ist7, tkl_n, tkl_i, tkl_l, tkl_r, w_nil, true_and, and_true, Nat.reduceAdd, Nat.reduceSub, eq_self, tshm_14, tshm_31, tshm_32, tykm_31, tykm_32, tci_15, tci_960, tykm_14, tci_14, tshm_667, tshm_668, tshm_669, tshm_670, tykm_33, tci_700, tsn_671, tyn_17, tcn_10, tzs_672, tzs_673, tzs_680, tzs_681, tzs_682, tzs_683, tzs_684, tzs_685, tzs_686, tzs_687, tzs_688, tzs_689, tzy_15, tzy_35, tzy_36, tzy_37, tzy_38, tzy_39, tzy_40, tzc_60, tzc_320, tzc_5, tzc_4, tzc_8, g82]
        refine ⟨by omega, fun h => n321 c u hcr hu hr M1 z hz hy1 hf1 (fun q => absurd q h), fun h => ?_⟩
        have hO := hO (by omega)
        refine ⟨by omega, ?_⟩
        refine tc_i (D := 9 + q) (fun d' hd' => ih hV1 (by omega) (by omega) (by omega) hd') (by omega) ?_
        rintro z2 M2 ⟨p2, r2⟩
        have hy2 := st M1 M2 _ hy1 (by omega) r2
        have hf2 : M2 664 11 = f + 3 := r2.2.trans hf1
        try simp only [kb_X12_slopes_302, w_ild7, w_if_ne, w_ald_0, w_ild6, w_gf_14_28, tw_f, w_ild_2, w_ia, w_iax, w_iv2, tfr_0, tfr_1, tfr_2, tfr_3, tfr_4, w_ist7, tkl_n, tkl_i, tkl_l, tkl_r, w_nil, true_and, and_true, Nat.reduceAdd, Nat.reduceSub, eq_self, tshm_14, tshm_31, tshm_32, tykm_31, tykm_32, tci_15, tci_960, tykm_14, tci_14, tshm_667, tshm_668, tshm_669, tshm_670, tykm_33, tci_700, tsn_671, tyn_17, tcn_10, tzs_672, tzs_673, tzs_680, tzs_681, tzs_682, tzs_683, tzs_684, tzs_685, tzs_686, tzs_687, tzs_688, tzs_689, tzy_15, tzy_35, tzy_36, tzy_37, tzy_38, tzy_39, tzy_40, tzc_60, tzc_320, tzc_5, tzc_4, tzc_8]
        exact n321 c u hcr hu hr M2 z2 p2.1 hy2 hf2 (fun q => ⟨OB_x r2 hO.1 (by omega) (by omega), OB_x r2 hO.2 (by omega) (by omega), p2.2 q⟩)
      have n287 : ∀ c u : Int, (0 ≤ c ∧ c < 65536) → (b ≤ u ∧ u < p) → (b ≤ M 682 p ∧ M 682 p < p) → ∀ (M1 : tM) (z : Int), (z = 0 ∨ z = 1 ∨ z = 2) → yE (fun r => f ≤ r) M M1 → M1 664 11 = f + 3 → (z = 0 → OB M1 (f) ∧ OB M1 (f + 1)) → tT e d 3710 287 [some (.inr (.inr (.inl 664))), some (.inl (to)), some (.inl (p)), some (.inl (c)), some (.inl (f)), some (.inl (f + 1)), some (.inl (f + 2)), some (.inl (z)), some (.inl (u))] [] M1 n (tQi n (fun z M' => OK3 z M' to ∧ xE (toF to f) M M')) := by
        intro c u hcr hu hr M1 z hz hy1 hf1 hO
        have hzr := z3_r hz
        have hV1 : VI M1 D (f + 3) b s := sl_st hV hy1 (fun _ q => q) hf1 (by omega)
        refine tb_X12_slopes_287 (c := false) ?_
        simp only [kb_X12_slopes_287, w_ild7, w_if_ne, w_ald_0, w_ild5, w_ild8, w_iv2, tfr_0, tfr_1, tfr_2, tfr_3, tfr_4, w_ist7, tkl_n, tkl_i, tkl_l, tkl_r, w_nil, true_and, and_true, Nat.reduceAdd, Nat.reduceSub, eq_self, tshm_14, tshm_31, tshm_32, tykm_31, tykm_32, tci_15, tci_960, tykm_14, tci_14, tshm_667, tshm_668, tshm_669, tshm_670, tykm_33, tci_700, tsn_671, tyn_17, tcn_10, tzs_672, tzs_673, tzs_680, tzs_681, tzs_682, tzs_683, tzs_684, tzs_685, tzs_686, tzs_687, tzs_688, tzs_689, tzy_15, tzy_35, tzy_36, tzy_37, tzy_38, tzy_39, tzy_40, tzc_60, tzc_320, tzc_5, tzc_4, tzc_8]
        refine ⟨by omega, fun h => n302 c u hcr hu hr M1 z hz hy1 hf1 (fun q => absurd q h), fun h => ?_⟩
        have hO := hO (by omega)
        refine tc_i (D := 8 + q) (fun d' hd' => o_values q hV1 (by omega) (by omega) (by omega) hd') (by omega) ?_
        rintro z2 M2 ⟨p2, r2⟩
        have hy2 := st M1 M2 _ hy1 (by omega) r2
        have hf2 : M2 664 11 = f + 3 := r2.2.trans hf1
        try simp only [kb_X12_slopes_287, w_ild7, w_if_ne, w_ald_0, w_ild5, w_ild8, w_iv2, tfr_0, tfr_1, tfr_2, tfr_3, tfr_4, w_ist7, tkl_n, tkl_i, tkl_l, tkl_r, w_nil, true_and, and_true, Nat.reduceAdd, Nat.reduceSub, eq_self, tshm_14, tshm_31, tshm_32, tykm_31, tykm_32, tci_15, tci_960, tykm_14, tci_14, tshm_667, tshm_668, tshm_669, tshm_670, tykm_33, tci_700, tsn_671, tyn_17, tcn_10, tzs_672, tzs_673, tzs_680, tzs_681, tzs_682, tzs_683, tzs_684, tzs_685, tzs_686, tzs_687, tzs_688, tzs_689, tzy_15, tzy_35, tzy_36, tzy_37, tzy_38, tzy_39, tzy_40, tzc_60, tzc_320, tzc_5, tzc_4, tzc_8]
        exact n302 c u hcr hu hr M2 z2 p2.1 hy2 hf2 (fun q => ⟨OB_x r2 hO.1 (by omega) (by omega), p2.2 q⟩)
      have n270 : ∀ c u : Int, (0 ≤ c ∧ c < 65536) → (b ≤ u ∧ u < p) → (b ≤ M 682 p ∧ M 682 p < p) → ∀ (M1 : tM) (z : Int), (z = 0 ∨ z = 1 ∨ z = 2) → yE (fun r => f ≤ r) M M1 → M1 664 11 = f + 3 → (z = 0 → OB M1 (f) ∧ OB M1 (f + 1)) → tT e d 3710 270 [some (.inr (.inr (.inl 664))), some (.inl (to)), some (.inl (p)), some (.inl (c)), some (.inl (f)), some (.inl (f + 1)), some (.inl (f + 2)), some (.inl (z)), some (.inl (u))] [] M1 n (tQi n (fun z M' => OK3 z M' to ∧ xE (toF to f) M M')) := by
        intro c u hcr hu hr M1 z hz hy1 hf1 hO
        have hzr := z3_r hz
        have hV1 : VI M1 D (f + 3) b s := sl_st hV hy1 (fun _ q => q) hf1 (by omega)
        refine tb_X12_slopes_270 (c := false) ?_
        simp only [kb_X12_slopes_270, w_ild7, w_if_ne, w_ald_0, w_ild4, w_ild5, w_iv3, tfr_0, tfr_1, tfr_2, tfr_3, tfr_4, w_ist7, tkl_n, tkl_i, tkl_l, tkl_r, w_nil, true_and, and_true, Nat.reduceAdd, Nat.reduceSub, eq_self, tshm_14, tshm_31, tshm_32, tykm_31, tykm_32, tci_15, tci_960, tykm_14, tci_14, tshm_667, tshm_668, tshm_669, tshm_670, tykm_33, tci_700, tsn_671, tyn_17, tcn_10, tzs_672, tzs_673, tzs_680, tzs_681, tzs_682, tzs_683, tzs_684, tzs_685, tzs_686, tzs_687, tzs_688, tzs_689, tzy_15, tzy_35, tzy_36, tzy_37, tzy_38, tzy_39, tzy_40, tzc_60, tzc_320, tzc_5, tzc_4, tzc_8]
        refine ⟨by omega, fun h => n287 c u hcr hu hr M1 z hz hy1 hf1 (fun q => absurd q h), fun h => ?_⟩
        have hO := hO (by omega)
        refine tc_i (D := 6) (fun d' hd' => o_product hV1.1 (by omega) (by omega) (by omega) hd') (by omega) ?_
        rintro z2 M2 ⟨p2, r2⟩
        have hy2 := st M1 M2 _ hy1 (by omega) r2
        have hf2 : M2 664 11 = f + 3 := r2.2.trans hf1
        try simp only [kb_X12_slopes_270, w_ild7, w_if_ne, w_ald_0, w_ild4, w_ild5, w_iv3, tfr_0, tfr_1, tfr_2, tfr_3, tfr_4, w_ist7, tkl_n, tkl_i, tkl_l, tkl_r, w_nil, true_and, and_true, Nat.reduceAdd, Nat.reduceSub, eq_self, tshm_14, tshm_31, tshm_32, tykm_31, tykm_32, tci_15, tci_960, tykm_14, tci_14, tshm_667, tshm_668, tshm_669, tshm_670, tykm_33, tci_700, tsn_671, tyn_17, tcn_10, tzs_672, tzs_673, tzs_680, tzs_681, tzs_682, tzs_683, tzs_684, tzs_685, tzs_686, tzs_687, tzs_688, tzs_689, tzy_15, tzy_35, tzy_36, tzy_37, tzy_38, tzy_39, tzy_40, tzc_60, tzc_320, tzc_5, tzc_4, tzc_8]
        exact n287 c u hcr hu hr M2 z2 p2.1 hy2 hf2 (fun q => ⟨p2.2 q, OB_x r2 hO.2 (by omega) (by omega)⟩)
      have n241 : ∀ c u : Int, (0 ≤ c ∧ c < 65536) → (b ≤ u ∧ u < p) → (b ≤ M 682 p ∧ M 682 p < p) → ∀ M1 : tM, yE (fun r => f ≤ r) M M1 → M1 664 11 = f + 3 → tT e d 3710 241 [some (.inr (.inr (.inl 664))), some (.inl (to)), some (.inl (p)), some (.inl (c)), some (.inl (f)), some (.inl (f + 1)), some (.inl (f + 2)), some (.inl (0)), some (.inl (u))] [] M1 n (tQi n (fun z M' => OK3 z M' to ∧ xE (toF to f) M M')) := by
        intro c u hcr hu hr M1 hy1 hf1
        have hV1 : VI M1 D (f + 3) b s := sl_st hV hy1 (fun _ q => q) hf1 (by omega)
        have g82 := e82 M1 hy1
        refine tb_X12_slopes_241 (c := false) ?_
        simp only [kb_X12_slopes_241, w_ald_0, w_ild4, w_ild8, w_iv2, tfr_0, tfr_1, tfr_2, tfr_3, tfr_4, w_ist7, tkl_n, tkl_i, tkl_l, tkl_r, w_ild7, w_if_ne, w_ild5, w_gf_14_28, tw_f, w_ild_2, w_ia, w_iax, w_nil, true_and, and_true, Nat.reduceAdd, Nat.reduceSub, eq_self, tshm_14, tshm_31, tshm_32, tykm_31, tykm_32, tci_15, tci_960, tykm_14, tci_14, tshm_667, tshm_668, tshm_669, tshm_670, tykm_33, tci_700, tsn_671, tyn_17, tcn_10, tzs_672, tzs_673, tzs_680, tzs_681, tzs_682, tzs_683, tzs_684, tzs_685, tzs_686, tzs_687, tzs_688, tzs_689, tzy_15, tzy_35, tzy_36, tzy_37, tzy_38, tzy_39, tzy_40, tzc_60, tzc_320, tzc_5, tzc_4, tzc_8, g82]
        refine tc_i (D := 9 + q) (fun d' hd' => ih hV1 (by omega) (by omega) (by omega) hd') (by omega) ?_
        rintro z2 M2 ⟨p2, r2⟩
        have hy2 := st M1 M2 _ hy1 (by omega) r2
        have hf2 : M2 664 11 = f + 3 := r2.2.trans hf1
        have hV2 : VI M2 D (f + 3) b s := sl_st hV hy2 (fun _ q => q) hf2 (by omega)
        have g82 := e82 M2 hy2
        try simp only [kb_X12_slopes_241, w_ald_0, w_ild4, w_ild8, w_iv2, tfr_0, tfr_1, tfr_2, tfr_3, tfr_4, w_ist7, tkl_n, tkl_i, tkl_l, tkl_r, w_ild7, w_if_ne, w_ild5, w_gf_14_28, tw_f, w_ild_2, w_ia, w_iax, w_nil, true_and, and_true, Nat.reduceAdd, Nat.reduceSub, eq_self, tshm_14, tshm_31, tshm_32, tykm_31, tykm_32, tci_15, tci_960, tykm_14, tci_14, tshm_667, tshm_668, tshm_669, tshm_670, tykm_33, tci_700, tsn_671, tyn_17, tcn_10, tzs_672, tzs_673, tzs_680, tzs_681, tzs_682, tzs_683, tzs_684, tzs_685, tzs_686, tzs_687, tzs_688, tzs_689, tzy_15, tzy_35, tzy_36, tzy_37, tzy_38, tzy_39, tzy_40, tzc_60, tzc_320, tzc_5, tzc_4, tzc_8, g82]
        have hz2 := p2.1
        have hzr2 := z3_r hz2
        refine ⟨by omega, fun h => n270 c u hcr hu hr M2 z2 hz2 hy2 hf2 (fun q => absurd q h), fun h => ?_⟩
        have hO := p2.2 (by omega)
        change OB M2 (f) at hO
        refine ⟨by omega, ?_⟩
        refine tc_i (D := 8 + q) (fun d' hd' => o_values q hV2 (by omega) (by omega) (by omega) hd') (by omega) ?_
        rintro z3 M3 ⟨p3, r3⟩
        have hy3 := st M2 M3 _ hy2 (by omega) r3
        have hf3 : M3 664 11 = f + 3 := r3.2.trans hf2
        try simp only [kb_X12_slopes_241, w_ald_0, w_ild4, w_ild8, w_iv2, tfr_0, tfr_1, tfr_2, tfr_3, tfr_4, w_ist7, tkl_n, tkl_i, tkl_l, tkl_r, w_ild7, w_if_ne, w_ild5, w_gf_14_28, tw_f, w_ild_2, w_ia, w_iax, w_nil, true_and, and_true, Nat.reduceAdd, Nat.reduceSub, eq_self, tshm_14, tshm_31, tshm_32, tykm_31, tykm_32, tci_15, tci_960, tykm_14, tci_14, tshm_667, tshm_668, tshm_669, tshm_670, tykm_33, tci_700, tsn_671, tyn_17, tcn_10, tzs_672, tzs_673, tzs_680, tzs_681, tzs_682, tzs_683, tzs_684, tzs_685, tzs_686, tzs_687, tzs_688, tzs_689, tzy_15, tzy_35, tzy_36, tzy_37, tzy_38, tzy_39, tzy_40, tzc_60, tzc_320, tzc_5, tzc_4, tzc_8]
        exact n270 c u hcr hu hr M3 z3 p3.1 hy3 hf3 (fun q => ⟨OB_x r3 hO (by omega) (by omega), p3.2 q⟩)
      have n490 : ∀ c u : Int, (0 ≤ c ∧ c < 65536) → (b ≤ u ∧ u < p) → (b ≤ M 682 p ∧ M 682 p < p) → ∀ (M1 : tM) (z : Int), (z = 0 ∨ z = 1 ∨ z = 2) → yE (fun r => f ≤ r) M M1 → M1 664 11 = f + 3 → (z = 0 → OB M1 (f) ∧ OB M1 (f + 1) ∧ OB M1 (f + 2)) → tT e d 3710 490 [some (.inr (.inr (.inl 664))), some (.inl (to)), some (.inl (p)), some (.inl (c)), some (.inl (f)), some (.inl (f + 1)), some (.inl (f + 2)), some (.inl (z)), some (.inl (u))] [] M1 n (tQi n (fun z M' => OK3 z M' to ∧ xE (toF to f) M M')) := by
        intro c u hcr hu hr M1 z hz hy1 hf1 hO
        have hzr := z3_r hz
        have hV1 : VI M1 D (f + 3) b s := sl_st hV hy1 (fun _ q => q) hf1 (by omega)
        refine tb_X12_slopes_490 (c := false) ?_
        simp only [kb_X12_slopes_490, w_ild7, w_if_ne, w_ald_0, w_ild_1, w_ild4, w_ild6, w_iv3, tfr_0, tfr_1, tfr_2, tfr_3, tfr_4, w_ist7, tkl_n, tkl_i, tkl_l, tkl_r, w_goto, true_and, and_true, Nat.reduceAdd, Nat.reduceSub, eq_self, tshm_14, tshm_31, tshm_32, tykm_31, tykm_32, tci_15, tci_960, tykm_14, tci_14, tshm_667, tshm_668, tshm_669, tshm_670, tykm_33, tci_700, tsn_671, tyn_17, tcn_10, tzs_672, tzs_673, tzs_680, tzs_681, tzs_682, tzs_683, tzs_684, tzs_685, tzs_686, tzs_687, tzs_688, tzs_689, tzy_15, tzy_35, tzy_36, tzy_37, tzy_38, tzy_39, tzy_40, tzc_60, tzc_320, tzc_5, tzc_4, tzc_8]
        refine ⟨by omega, fun h => n926 _ _ M1 z ⟨hz, fun q => absurd q h⟩ (yE_mono hy1 (fun _ q => Or.inr q)) hf1, fun h => ?_⟩
        have hO := hO (by omega)
        refine tc_i (D := 6) (fun d' hd' => o_quotient hV1.1 (by omega) (by omega) (by omega) (hO.2.2) hd') (by omega) ?_
        rintro z2 M2 ⟨p2, r2⟩
        try simp only [kb_X12_slopes_490, w_ild7, w_if_ne, w_ald_0, w_ild_1, w_ild4, w_ild6, w_iv3, tfr_0, tfr_1, tfr_2, tfr_3, tfr_4, w_ist7, tkl_n, tkl_i, tkl_l, tkl_r, w_goto, true_and, and_true, Nat.reduceAdd, Nat.reduceSub, eq_self, tshm_14, tshm_31, tshm_32, tykm_31, tykm_32, tci_15, tci_960, tykm_14, tci_14, tshm_667, tshm_668, tshm_669, tshm_670, tykm_33, tci_700, tsn_671, tyn_17, tcn_10, tzs_672, tzs_673, tzs_680, tzs_681, tzs_682, tzs_683, tzs_684, tzs_685, tzs_686, tzs_687, tzs_688, tzs_689, tzy_15, tzy_35, tzy_36, tzy_37, tzy_38, tzy_39, tzy_40, tzc_60, tzc_320, tzc_5, tzc_4, tzc_8]
        exact n926 _ _ M2 z2 p2 (fin M1 M2 hy1 r2) (r2.2.trans hf1)
      have n471 : ∀ c u : Int, (0 ≤ c ∧ c < 65536) → (b ≤ u ∧ u < p) → (b ≤ M 682 p ∧ M 682 p < p) → ∀ (M1 : tM) (z : Int), (z = 0 ∨ z = 1 ∨ z = 2) → yE (fun r => f ≤ r) M M1 → M1 664 11 = f + 3 → (z = 0 → OB M1 (f) ∧ OB M1 (f + 1) ∧ OB M1 (f + 2)) → tT e d 3710 471 [some (.inr (.inr (.inl 664))), some (.inl (to)), some (.inl (p)), some (.inl (c)), some (.inl (f)), some (.inl (f + 1)), some (.inl (f + 2)), some (.inl (z)), some (.inl (u))] [] M1 n (tQi n (fun z M' => OK3 z M' to ∧ xE (toF to f) M M')) := by
        intro c u hcr hu hr M1 z hz hy1 hf1 hO
        have hzr := z3_r hz
        have hV1 : VI M1 D (f + 3) b s := sl_st hV hy1 (fun _ q => q) hf1 (by omega)
        have g82 := e82 M1 hy1
        refine tb_X12_slopes_471 (c := false) ?_
        simp only [kb_X12_slopes_471, w_ild7, w_if_ne, w_ald_0, w_ild6, w_gf_14_28, tw_f, w_ild_2, w_ia, w_iax, w_iv2, tfr_0, tfr_1, tfr_2, tfr_3, tfr_4, w_ist7, tkl_n, tkl_i, tkl_l, tkl_r, w_nil, true_and, and_true, Nat.reduceAdd, Nat.reduceSub, eq_self, tshm_14, tshm_31, tshm_32, tykm_31, tykm_32, tci_15, tci_960, tykm_14, tci_14, tshm_667, tshm_668, tshm_669, tshm_670, tykm_33, tci_700, tsn_671, tyn_17, tcn_10, tzs_672, tzs_673, tzs_680, tzs_681, tzs_682, tzs_683, tzs_684, tzs_685, tzs_686, tzs_687, tzs_688, tzs_689, tzy_15, tzy_35, tzy_36, tzy_37, tzy_38, tzy_39, tzy_40, tzc_60, tzc_320, tzc_5, tzc_4, tzc_8, g82]
        refine ⟨by omega, fun h => n490 c u hcr hu hr M1 z hz hy1 hf1 (fun q => absurd q h), fun h => ?_⟩
        have hO := hO (by omega)
        refine ⟨by omega, ?_⟩
        refine tc_i (D := 8 + q) (fun d' hd' => o_values q hV1 (by omega) (by omega) (by omega) hd') (by omega) ?_
        rintro z2 M2 ⟨p2, r2⟩
        have hy2 := st M1 M2 _ hy1 (by omega) r2
        have hf2 : M2 664 11 = f + 3 := r2.2.trans hf1
        try simp only [kb_X12_slopes_471, w_ild7, w_if_ne, w_ald_0, w_ild6, w_gf_14_28, tw_f, w_ild_2, w_ia, w_iax, w_iv2, tfr_0, tfr_1, tfr_2, tfr_3, tfr_4, w_ist7, tkl_n, tkl_i, tkl_l, tkl_r, w_nil, true_and, and_true, Nat.reduceAdd, Nat.reduceSub, eq_self, tshm_14, tshm_31, tshm_32, tykm_31, tykm_32, tci_15, tci_960, tykm_14, tci_14, tshm_667, tshm_668, tshm_669, tshm_670, tykm_33, tci_700, tsn_671, tyn_17, tcn_10, tzs_672, tzs_673, tzs_680, tzs_681, tzs_682, tzs_683, tzs_684, tzs_685, tzs_686, tzs_687, tzs_688, tzs_689, tzy_15, tzy_35, tzy_36, tzy_37, tzy_38, tzy_39, tzy_40, tzc_60, tzc_320, tzc_5, tzc_4, tzc_8]
        exact n490 c u hcr hu hr M2 z2 p2.1 hy2 hf2 (fun q => ⟨OB_x r2 hO.1 (by omega) (by omega), OB_x r2 hO.2.1 (by omega) (by omega), p2.2 q⟩)
      have n454 : ∀ c u : Int, (0 ≤ c ∧ c < 65536) → (b ≤ u ∧ u < p) → (b ≤ M 682 p ∧ M 682 p < p) → ∀ (M1 : tM) (z : Int), (z = 0 ∨ z = 1 ∨ z = 2) → yE (fun r => f ≤ r) M M1 → M1 664 11 = f + 3 → (z = 0 → OB M1 (f) ∧ OB M1 (f + 1) ∧ OB M1 (f + 2)) → tT e d 3710 454 [some (.inr (.inr (.inl 664))), some (.inl (to)), some (.inl (p)), some (.inl (c)), some (.inl (f)), some (.inl (f + 1)), some (.inl (f + 2)), some (.inl (z)), some (.inl (u))] [] M1 n (tQi n (fun z M' => OK3 z M' to ∧ xE (toF to f) M M')) := by
        intro c u hcr hu hr M1 z hz hy1 hf1 hO
        have hzr := z3_r hz
        have hV1 : VI M1 D (f + 3) b s := sl_st hV hy1 (fun _ q => q) hf1 (by omega)
        refine tb_X12_slopes_454 (c := false) ?_
        simp only [kb_X12_slopes_454, w_ild7, w_if_ne, w_ald_0, w_ild4, w_ild5, w_iv3, tfr_0, tfr_1, tfr_2, tfr_3, tfr_4, w_ist7, tkl_n, tkl_i, tkl_l, tkl_r, w_nil, true_and, and_true, Nat.reduceAdd, Nat.reduceSub, eq_self, tshm_14, tshm_31, tshm_32, tykm_31, tykm_32, tci_15, tci_960, tykm_14, tci_14, tshm_667, tshm_668, tshm_669, tshm_670, tykm_33, tci_700, tsn_671, tyn_17, tcn_10, tzs_672, tzs_673, tzs_680, tzs_681, tzs_682, tzs_683, tzs_684, tzs_685, tzs_686, tzs_687, tzs_688, tzs_689, tzy_15, tzy_35, tzy_36, tzy_37, tzy_38, tzy_39, tzy_40, tzc_60, tzc_320, tzc_5, tzc_4, tzc_8]
        refine ⟨by omega, fun h => n471 c u hcr hu hr M1 z hz hy1 hf1 (fun q => absurd q h), fun h => ?_⟩
        have hO := hO (by omega)
        refine tc_i (D := 4) (fun d' hd' => o_difference hV1.1 (by omega) (by omega) (by omega) (hO.1) (hO.2.1) hd') (by omega) ?_
        rintro z2 M2 ⟨p2, r2⟩
        have hy2 := st M1 M2 _ hy1 (by omega) r2
        have hf2 : M2 664 11 = f + 3 := r2.2.trans hf1
        try simp only [kb_X12_slopes_454, w_ild7, w_if_ne, w_ald_0, w_ild4, w_ild5, w_iv3, tfr_0, tfr_1, tfr_2, tfr_3, tfr_4, w_ist7, tkl_n, tkl_i, tkl_l, tkl_r, w_nil, true_and, and_true, Nat.reduceAdd, Nat.reduceSub, eq_self, tshm_14, tshm_31, tshm_32, tykm_31, tykm_32, tci_15, tci_960, tykm_14, tci_14, tshm_667, tshm_668, tshm_669, tshm_670, tykm_33, tci_700, tsn_671, tyn_17, tcn_10, tzs_672, tzs_673, tzs_680, tzs_681, tzs_682, tzs_683, tzs_684, tzs_685, tzs_686, tzs_687, tzs_688, tzs_689, tzy_15, tzy_35, tzy_36, tzy_37, tzy_38, tzy_39, tzy_40, tzc_60, tzc_320, tzc_5, tzc_4, tzc_8]
        exact n471 c u hcr hu hr M2 z2 p2.1 hy2 hf2 (fun q => ⟨p2.2 q, OB_x r2 hO.2.1 (by omega) (by omega), OB_x r2 hO.2.2 (by omega) (by omega)⟩)
      have n437 : ∀ c u : Int, (0 ≤ c ∧ c < 65536) → (b ≤ u ∧ u < p) → (b ≤ M 682 p ∧ M 682 p < p) → ∀ (M1 : tM) (z : Int), (z = 0 ∨ z = 1 ∨ z = 2) → yE (fun r => f ≤ r) M M1 → M1 664 11 = f + 3 → (z = 0 → OB M1 (f) ∧ OB M1 (f + 1) ∧ OB M1 (f + 2)) → tT e d 3710 437 [some (.inr (.inr (.inl 664))), some (.inl (to)), some (.inl (p)), some (.inl (c)), some (.inl (f)), some (.inl (f + 1)), some (.inl (f + 2)), some (.inl (z)), some (.inl (u))] [] M1 n (tQi n (fun z M' => OK3 z M' to ∧ xE (toF to f) M M')) := by
        intro c u hcr hu hr M1 z hz hy1 hf1 hO
        have hzr := z3_r hz
        have hV1 : VI M1 D (f + 3) b s := sl_st hV hy1 (fun _ q => q) hf1 (by omega)
        refine tb_X12_slopes_437 (c := false) ?_
        simp only [kb_X12_slopes_437, w_ild7, w_if_ne, w_ald_0, w_ild5, w_ild6, w_iv3, tfr_0, tfr_1, tfr_2, tfr_3, tfr_4, w_ist7, tkl_n, tkl_i, tkl_l, tkl_r, w_nil, true_and, and_true, Nat.reduceAdd, Nat.reduceSub, eq_self, tshm_14, tshm_31, tshm_32, tykm_31, tykm_32, tci_15, tci_960, tykm_14, tci_14, tshm_667, tshm_668, tshm_669, tshm_670, tykm_33, tci_700, tsn_671, tyn_17, tcn_10, tzs_672, tzs_673, tzs_680, tzs_681, tzs_682, tzs_683, tzs_684, tzs_685, tzs_686, tzs_687, tzs_688, tzs_689, tzy_15, tzy_35, tzy_36, tzy_37, tzy_38, tzy_39, tzy_40, tzc_60, tzc_320, tzc_5, tzc_4, tzc_8]
        refine ⟨by omega, fun h => n454 c u hcr hu hr M1 z hz hy1 hf1 (fun q => absurd q h), fun h => ?_⟩
        have hO := hO (by omega)
        refine tc_i (D := 6) (fun d' hd' => o_product hV1.1 (by omega) (by omega) (by omega) hd') (by omega) ?_
        rintro z2 M2 ⟨p2, r2⟩
        have hy2 := st M1 M2 _ hy1 (by omega) r2
        have hf2 : M2 664 11 = f + 3 := r2.2.trans hf1
        try simp only [kb_X12_slopes_437, w_ild7, w_if_ne, w_ald_0, w_ild5, w_ild6, w_iv3, tfr_0, tfr_1, tfr_2, tfr_3, tfr_4, w_ist7, tkl_n, tkl_i, tkl_l, tkl_r, w_nil, true_and, and_true, Nat.reduceAdd, Nat.reduceSub, eq_self, tshm_14, tshm_31, tshm_32, tykm_31, tykm_32, tci_15, tci_960, tykm_14, tci_14, tshm_667, tshm_668, tshm_669, tshm_670, tykm_33, tci_700, tsn_671, tyn_17, tcn_10, tzs_672, tzs_673, tzs_680, tzs_681, tzs_682, tzs_683, tzs_684, tzs_685, tzs_686, tzs_687, tzs_688, tzs_689, tzy_15, tzy_35, tzy_36, tzy_37, tzy_38, tzy_39, tzy_40, tzc_60, tzc_320, tzc_5, tzc_4, tzc_8]
        exact n454 c u hcr hu hr M2 z2 p2.1 hy2 hf2 (fun q => ⟨OB_x r2 hO.1 (by omega) (by omega), p2.2 q, OB_x r2 hO.2.2 (by omega) (by omega)⟩)
      have n418 : ∀ c u : Int, (0 ≤ c ∧ c < 65536) → (b ≤ u ∧ u < p) → (b ≤ M 682 p ∧ M 682 p < p) → ∀ (M1 : tM) (z : Int), (z = 0 ∨ z = 1 ∨ z = 2) → yE (fun r => f ≤ r) M M1 → M1 664 11 = f + 3 → (z = 0 → OB M1 (f) ∧ OB M1 (f + 1) ∧ OB M1 (f + 2)) → tT e d 3710 418 [some (.inr (.inr (.inl 664))), some (.inl (to)), some (.inl (p)), some (.inl (c)), some (.inl (f)), some (.inl (f + 1)), some (.inl (f + 2)), some (.inl (z)), some (.inl (u))] [] M1 n (tQi n (fun z M' => OK3 z M' to ∧ xE (toF to f) M M')) := by
        intro c u hcr hu hr M1 z hz hy1 hf1 hO
        have hzr := z3_r hz
        have hV1 : VI M1 D (f + 3) b s := sl_st hV hy1 (fun _ q => q) hf1 (by omega)
        have g82 := e82 M1 hy1
        refine tb_X12_slopes_418 (c := false) ?_
        simp only [kb_X12_slopes_418, w_ild7, w_if_ne, w_ald_0, w_ild6, w_gf_14_28, tw_f, w_ild_2, w_ia, w_iax, w_iv2, tfr_0, tfr_1, tfr_2, tfr_3, tfr_4, w_ist7, tkl_n, tkl_i, tkl_l, tkl_r, w_nil, true_and, and_true, Nat.reduceAdd, Nat.reduceSub, eq_self, tshm_14, tshm_31, tshm_32, tykm_31, tykm_32, tci_15, tci_960, tykm_14, tci_14, tshm_667, tshm_668, tshm_669, tshm_670, tykm_33, tci_700, tsn_671, tyn_17, tcn_10, tzs_672, tzs_673, tzs_680, tzs_681, tzs_682, tzs_683, tzs_684, tzs_685, tzs_686, tzs_687, tzs_688, tzs_689, tzy_15, tzy_35, tzy_36, tzy_37, tzy_38, tzy_39, tzy_40, tzc_60, tzc_320, tzc_5, tzc_4, tzc_8, g82]
        refine ⟨by omega, fun h => n437 c u hcr hu hr M1 z hz hy1 hf1 (fun q => absurd q h), fun h => ?_⟩
        have hO := hO (by omega)
        refine ⟨by omega, ?_⟩
        refine tc_i (D := 9 + q) (fun d' hd' => ih hV1 (by omega) (by omega) (by omega) hd') (by omega) ?_
        rintro z2 M2 ⟨p2, r2⟩
        have hy2 := st M1 M2 _ hy1 (by omega) r2
        have hf2 : M2 664 11 = f + 3 := r2.2.trans hf1
        try simp only [kb_X12_slopes_418, w_ild7, w_if_ne, w_ald_0, w_ild6, w_gf_14_28, tw_f, w_ild_2, w_ia, w_iax, w_iv2, tfr_0, tfr_1, tfr_2, tfr_3, tfr_4, w_ist7, tkl_n, tkl_i, tkl_l, tkl_r, w_nil, true_and, and_true, Nat.reduceAdd, Nat.reduceSub, eq_self, tshm_14, tshm_31, tshm_32, tykm_31, tykm_32, tci_15, tci_960, tykm_14, tci_14, tshm_667, tshm_668, tshm_669, tshm_670, tykm_33, tci_700, tsn_671, tyn_17, tcn_10, tzs_672, tzs_673, tzs_680, tzs_681, tzs_682, tzs_683, tzs_684, tzs_685, tzs_686, tzs_687, tzs_688, tzs_689, tzy_15, tzy_35, tzy_36, tzy_37, tzy_38, tzy_39, tzy_40, tzc_60, tzc_320, tzc_5, tzc_4, tzc_8]
        exact n437 c u hcr hu hr M2 z2 p2.1 hy2 hf2 (fun q => ⟨OB_x r2 hO.1 (by omega) (by omega), OB_x r2 hO.2.1 (by omega) (by omega), p2.2 q⟩)
      have n401 : ∀ c u : Int, (0 ≤ c ∧ c < 65536) → (b ≤ u ∧ u < p) → (b ≤ M 682 p ∧ M 682 p < p) → ∀ (M1 : tM) (z : Int), (z = 0 ∨ z = 1 ∨ z = 2) → yE (fun r => f ≤ r) M M1 → M1 664 11 = f + 3 → (z = 0 → OB M1 (f) ∧ OB M1 (f + 1) ∧ OB M1 (f + 2)) → tT e d 3710 401 [some (.inr (.inr (.inl 664))), some (.inl (to)), some (.inl (p)), some (.inl (c)), some (.inl (f)), some (.inl (f + 1)), some (.inl (f + 2)), some (.inl (z)), some (.inl (u))] [] M1 n (tQi n (fun z M' => OK3 z M' to ∧ xE (toF to f) M M')) := by
        intro c u hcr hu hr M1 z hz hy1 hf1 hO
        have hzr := z3_r hz
        have hV1 : VI M1 D (f + 3) b s := sl_st hV hy1 (fun _ q => q) hf1 (by omega)
        refine tb_X12_slopes_401 (c := false) ?_
        simp only [kb_X12_slopes_401, w_ild7, w_if_ne, w_ald_0, w_ild5, w_ild6, w_iv3, tfr_0, tfr_1, tfr_2, tfr_3, tfr_4, w_ist7, tkl_n, tkl_i, tkl_l, tkl_r, w_nil, true_and, and_true, Nat.reduceAdd, Nat.reduceSub, eq_self, tshm_14, tshm_31, tshm_32, tykm_31, tykm_32, tci_15, tci_960, tykm_14, tci_14, tshm_667, tshm_668, tshm_669, tshm_670, tykm_33, tci_700, tsn_671, tyn_17, tcn_10, tzs_672, tzs_673, tzs_680, tzs_681, tzs_682, tzs_683, tzs_684, tzs_685, tzs_686, tzs_687, tzs_688, tzs_689, tzy_15, tzy_35, tzy_36, tzy_37, tzy_38, tzy_39, tzy_40, tzc_60, tzc_320, tzc_5, tzc_4, tzc_8]
        refine ⟨by omega, fun h => n418 c u hcr hu hr M1 z hz hy1 hf1 (fun q => absurd q h), fun h => ?_⟩
        have hO := hO (by omega)
        refine tc_i (D := 6) (fun d' hd' => o_quotient hV1.1 (by omega) (by omega) (by omega) (hO.2.2) hd') (by omega) ?_
        rintro z2 M2 ⟨p2, r2⟩
        have hy2 := st M1 M2 _ hy1 (by omega) r2
        have hf2 : M2 664 11 = f + 3 := r2.2.trans hf1
        try simp only [kb_X12_slopes_401, w_ild7, w_if_ne, w_ald_0, w_ild5, w_ild6, w_iv3, tfr_0, tfr_1, tfr_2, tfr_3, tfr_4, w_ist7, tkl_n, tkl_i, tkl_l, tkl_r, w_nil, true_and, and_true, Nat.reduceAdd, Nat.reduceSub, eq_self, tshm_14, tshm_31, tshm_32, tykm_31, tykm_32, tci_15, tci_960, tykm_14, tci_14, tshm_667, tshm_668, tshm_669, tshm_670, tykm_33, tci_700, tsn_671, tyn_17, tcn_10, tzs_672, tzs_673, tzs_680, tzs_681, tzs_682, tzs_683, tzs_684, tzs_685, tzs_686, tzs_687, tzs_688, tzs_689, tzy_15, tzy_35, tzy_36, tzy_37, tzy_38, tzy_39, tzy_40, tzc_60, tzc_320, tzc_5, tzc_4, tzc_8]
        exact n418 c u hcr hu hr M2 z2 p2.1 hy2 hf2 (fun q => ⟨OB_x r2 hO.1 (by omega) (by omega), p2.2 q, OB_x r2 hO.2.2 (by omega) (by omega)⟩)
      have n382 : ∀ c u : Int, (0 ≤ c ∧ c < 65536) → (b ≤ u ∧ u < p) → (b ≤ M 682 p ∧ M 682 p < p) → ∀ (M1 : tM) (z : Int), (z = 0 ∨ z = 1 ∨ z = 2) → yE (fun r => f ≤ r) M M1 → M1 664 11 = f + 3 → (z = 0 → OB M1 (f) ∧ OB M1 (f + 1)) → tT e d 3710 382 [some (.inr (.inr (.inl 664))), some (.inl (to)), some (.inl (p)), some (.inl (c)), some (.inl (f)), some (.inl (f + 1)), some (.inl (f + 2)), some (.inl (z)), some (.inl (u))] [] M1 n (tQi n (fun z M' => OK3 z M' to ∧ xE (toF to f) M M')) := by
        intro c u hcr hu hr M1 z hz hy1 hf1 hO
        have hzr := z3_r hz
        have hV1 : VI M1 D (f + 3) b s := sl_st hV hy1 (fun _ q => q) hf1 (by omega)
        have g82 := e82 M1 hy1
        refine tb_X12_slopes_382 (c := false) ?_
        simp only [kb_X12_slopes_382, w_ild7, w_if_ne, w_ald_0, w_ild6, w_gf_14_28, tw_f, w_ild_2, w_ia, w_iax, w_iv2, tfr_0, tfr_1, tfr_2, tfr_3, tfr_4, w_ist7, tkl_n, tkl_i, tkl_l, tkl_r, w_nil, true_and, and_true, Nat.reduceAdd, Nat.reduceSub, eq_self, tshm_14, tshm_31, tshm_32, tykm_31, tykm_32, tci_15, tci_960, tykm_14, tci_14, tshm_667, tshm_668, tshm_669, tshm_670, tykm_33, tci_700, tsn_671, tyn_17, tcn_10, tzs_672, tzs_673, tzs_680, tzs_681, tzs_682, tzs_683, tzs_684, tzs_685, tzs_686, tzs_687, tzs_688, tzs_689, tzy_15, tzy_35, tzy_36, tzy_37, tzy_38, tzy_39, tzy_40, tzc_60, tzc_320, tzc_5, tzc_4, tzc_8, g82]
        refine ⟨by omega, fun h => n401 c u hcr hu hr M1 z hz hy1 hf1 (fun q => absurd q h), fun h => ?_⟩
        have hO := hO (by omega)
        refine ⟨by omega, ?_⟩
        refine tc_i (D := 8 + q) (fun d' hd' => o_values q hV1 (by omega) (by omega) (by omega) hd') (by omega) ?_
        rintro z2 M2 ⟨p2, r2⟩
        have hy2 := st M1 M2 _ hy1 (by omega) r2
        have hf2 : M2 664 11 = f + 3 := r2.2.trans hf1
        try simp only [kb_X12_slopes_382, w_ild7, w_if_ne, w_ald_0, w_ild6, w_gf_14_28, tw_f, w_ild_2, w_ia, w_iax, w_iv2, tfr_0, tfr_1, tfr_2, tfr_3, tfr_4, w_ist7, tkl_n, tkl_i, tkl_l, tkl_r, w_nil, true_and, and_true, Nat.reduceAdd, Nat.reduceSub, eq_self, tshm_14, tshm_31, tshm_32, tykm_31, tykm_32, tci_15, tci_960, tykm_14, tci_14, tshm_667, tshm_668, tshm_669, tshm_670, tykm_33, tci_700, tsn_671, tyn_17, tcn_10, tzs_672, tzs_673, tzs_680, tzs_681, tzs_682, tzs_683, tzs_684, tzs_685, tzs_686, tzs_687, tzs_688, tzs_689, tzy_15, tzy_35, tzy_36, tzy_37, tzy_38, tzy_39, tzy_40, tzc_60, tzc_320, tzc_5, tzc_4, tzc_8]
        exact n401 c u hcr hu hr M2 z2 p2.1 hy2 hf2 (fun q => ⟨OB_x r2 hO.1 (by omega) (by omega), OB_x r2 hO.2 (by omega) (by omega), p2.2 q⟩)
      have n357 : ∀ c u : Int, (0 ≤ c ∧ c < 65536) → (b ≤ u ∧ u < p) → (b ≤ M 682 p ∧ M 682 p < p) → ∀ M1 : tM, yE (fun r => f ≤ r) M M1 → M1 664 11 = f + 3 → tT e d 3710 357 [some (.inr (.inr (.inl 664))), some (.inl (to)), some (.inl (p)), some (.inl (c)), some (.inl (f)), some (.inl (f + 1)), some (.inl (f + 2)), some (.inl (0)), some (.inl (u))] [] M1 n (tQi n (fun z M' => OK3 z M' to ∧ xE (toF to f) M M')) := by
        intro c u hcr hu hr M1 hy1 hf1
        have hV1 : VI M1 D (f + 3) b s := sl_st hV hy1 (fun _ q => q) hf1 (by omega)
        refine tb_X12_slopes_357 (c := false) ?_
        simp only [kb_X12_slopes_357, w_ald_0, w_ild4, w_ild8, w_iv2, tfr_0, tfr_1, tfr_2, tfr_3, tfr_4, w_ist7, tkl_n, tkl_i, tkl_l, tkl_r, w_ild7, w_if_ne, w_ild5, w_nil, true_and, and_true, Nat.reduceAdd, Nat.reduceSub, eq_self, tshm_14, tshm_31, tshm_32, tykm_31, tykm_32, tci_15, tci_960, tykm_14, tci_14, tshm_667, tshm_668, tshm_669, tshm_670, tykm_33, tci_700, tsn_671, tyn_17, tcn_10, tzs_672, tzs_673, tzs_680, tzs_681, tzs_682, tzs_683, tzs_684, tzs_685, tzs_686, tzs_687, tzs_688, tzs_689, tzy_15, tzy_35, tzy_36, tzy_37, tzy_38, tzy_39, tzy_40, tzc_60, tzc_320, tzc_5, tzc_4, tzc_8]
        refine tc_i (D := 9 + q) (fun d' hd' => ih hV1 (by omega) (by omega) (by omega) hd') (by omega) ?_
        rintro z2 M2 ⟨p2, r2⟩
        have hy2 := st M1 M2 _ hy1 (by omega) r2
        have hf2 : M2 664 11 = f + 3 := r2.2.trans hf1
        have hV2 : VI M2 D (f + 3) b s := sl_st hV hy2 (fun _ q => q) hf2 (by omega)
        try simp only [kb_X12_slopes_357, w_ald_0, w_ild4, w_ild8, w_iv2, tfr_0, tfr_1, tfr_2, tfr_3, tfr_4, w_ist7, tkl_n, tkl_i, tkl_l, tkl_r, w_ild7, w_if_ne, w_ild5, w_nil, true_and, and_true, Nat.reduceAdd, Nat.reduceSub, eq_self, tshm_14, tshm_31, tshm_32, tykm_31, tykm_32, tci_15, tci_960, tykm_14, tci_14, tshm_667, tshm_668, tshm_669, tshm_670, tykm_33, tci_700, tsn_671, tyn_17, tcn_10, tzs_672, tzs_673, tzs_680, tzs_681, tzs_682, tzs_683, tzs_684, tzs_685, tzs_686, tzs_687, tzs_688, tzs_689, tzy_15, tzy_35, tzy_36, tzy_37, tzy_38, tzy_39, tzy_40, tzc_60, tzc_320, tzc_5, tzc_4, tzc_8]
        have hz2 := p2.1
        have hzr2 := z3_r hz2
        refine ⟨by omega, fun h => n382 c u hcr hu hr M2 z2 hz2 hy2 hf2 (fun q => absurd q h), fun h => ?_⟩
        have hO := p2.2 (by omega)
        change OB M2 (f) at hO
        refine tc_i (D := 8 + q) (fun d' hd' => o_values q hV2 (by omega) (by omega) (by omega) hd') (by omega) ?_
        rintro z3 M3 ⟨p3, r3⟩
        have hy3 := st M2 M3 _ hy2 (by omega) r3
        have hf3 : M3 664 11 = f + 3 := r3.2.trans hf2
        try simp only [kb_X12_slopes_357, w_ald_0, w_ild4, w_ild8, w_iv2, tfr_0, tfr_1, tfr_2, tfr_3, tfr_4, w_ist7, tkl_n, tkl_i, tkl_l, tkl_r, w_ild7, w_if_ne, w_ild5, w_nil, true_and, and_true, Nat.reduceAdd, Nat.reduceSub, eq_self, tshm_14, tshm_31, tshm_32, tykm_31, tykm_32, tci_15, tci_960, tykm_14, tci_14, tshm_667, tshm_668, tshm_669, tshm_670, tykm_33, tci_700, tsn_671, tyn_17, tcn_10, tzs_672, tzs_673, tzs_680, tzs_681, tzs_682, tzs_683, tzs_684, tzs_685, tzs_686, tzs_687, tzs_688, tzs_689, tzy_15, tzy_35, tzy_36, tzy_37, tzy_38, tzy_39, tzy_40, tzc_60, tzc_320, tzc_5, tzc_4, tzc_8]
        exact n382 c u hcr hu hr M3 z3 p3.1 hy3 hf3 (fun q => ⟨OB_x r3 hO (by omega) (by omega), p3.2 q⟩)
      have n594 : ∀ c u : Int, (0 ≤ c ∧ c < 65536) → (b ≤ u ∧ u < p) → ∀ k : Nat, M 682 p = ((k + 1 : Nat) : Int) → k ≤ 8 → ∀ (M1 : tM) (z : Int), (z = 0 ∨ z = 1 ∨ z = 2) → yE (fun r => f ≤ r) M M1 → M1 664 11 = f + 3 → (z = 0 → OB M1 (f + 1) ∧ OB M1 (f + 2)) → tT e d 3710 594 [some (.inr (.inr (.inl 664))), some (.inl (to)), some (.inl (p)), some (.inl (c)), some (.inl (f)), some (.inl (f + 1)), some (.inl (f + 2)), some (.inl (z)), some (.inl (u))] [] M1 n (tQi n (fun z M' => OK3 z M' to ∧ xE (toF to f) M M')) := by
        intro c u hcr hu k hk hk8 M1 z hz hy1 hf1 hO
        have hzr := z3_r hz
        have hV1 : VI M1 D (f + 3) b s := sl_st hV hy1 (fun _ q => q) hf1 (by omega)
        refine tb_X12_slopes_594 (c := false) ?_
        simp only [kb_X12_slopes_594, w_ild7, w_if_ne, w_ald_0, w_ild_1, w_ild5, w_ild6, w_iv3, tfr_0, tfr_1, tfr_2, tfr_3, tfr_4, w_ist7, tkl_n, tkl_i, tkl_l, tkl_r, w_goto, true_and, and_true, Nat.reduceAdd, Nat.reduceSub, eq_self, tshm_14, tshm_31, tshm_32, tykm_31, tykm_32, tci_15, tci_960, tykm_14, tci_14, tshm_667, tshm_668, tshm_669, tshm_670, tykm_33, tci_700, tsn_671, tyn_17, tcn_10, tzs_672, tzs_673, tzs_680, tzs_681, tzs_682, tzs_683, tzs_684, tzs_685, tzs_686, tzs_687, tzs_688, tzs_689, tzy_15, tzy_35, tzy_36, tzy_37, tzy_38, tzy_39, tzy_40, tzc_60, tzc_320, tzc_5, tzc_4, tzc_8]
        refine ⟨by omega, fun h => n926 _ _ M1 z ⟨hz, fun q => absurd q h⟩ (yE_mono hy1 (fun _ q => Or.inr q)) hf1, fun h => ?_⟩
        have hO := hO (by omega)
        refine tc_i (D := 6) (fun d' hd' => o_product hV1.1 (by omega) (by omega) (by omega) hd') (by omega) ?_
        rintro z2 M2 ⟨p2, r2⟩
        try simp only [kb_X12_slopes_594, w_ild7, w_if_ne, w_ald_0, w_ild_1, w_ild5, w_ild6, w_iv3, tfr_0, tfr_1, tfr_2, tfr_3, tfr_4, w_ist7, tkl_n, tkl_i, tkl_l, tkl_r, w_goto, true_and, and_true, Nat.reduceAdd, Nat.reduceSub, eq_self, tshm_14, tshm_31, tshm_32, tykm_31, tykm_32, tci_15, tci_960, tykm_14, tci_14, tshm_667, tshm_668, tshm_669, tshm_670, tykm_33, tci_700, tsn_671, tyn_17, tcn_10, tzs_672, tzs_673, tzs_680, tzs_681, tzs_682, tzs_683, tzs_684, tzs_685, tzs_686, tzs_687, tzs_688, tzs_689, tzy_15, tzy_35, tzy_36, tzy_37, tzy_38, tzy_39, tzy_40, tzc_60, tzc_320, tzc_5, tzc_4, tzc_8]
        exact n926 _ _ M2 z2 p2 (fin M1 M2 hy1 r2) (r2.2.trans hf1)
      have n579 : ∀ c u : Int, (0 ≤ c ∧ c < 65536) → (b ≤ u ∧ u < p) → ∀ k : Nat, M 682 p = ((k + 1 : Nat) : Int) → k ≤ 8 → ∀ (M1 : tM) (z : Int), (z = 0 ∨ z = 1 ∨ z = 2) → yE (fun r => f ≤ r) M M1 → M1 664 11 = f + 3 → (z = 0 → OB M1 (f + 1) ∧ OB M1 (f + 2)) → tT e d 3710 579 [some (.inr (.inr (.inl 664))), some (.inl (to)), some (.inl (p)), some (.inl (c)), some (.inl (f)), some (.inl (f + 1)), some (.inl (f + 2)), some (.inl (z)), some (.inl (u))] [] M1 n (tQi n (fun z M' => OK3 z M' to ∧ xE (toF to f) M M')) := by
        intro c u hcr hu k hk hk8 M1 z hz hy1 hf1 hO
        have hzr := z3_r hz
        have hV1 : VI M1 D (f + 3) b s := sl_st hV hy1 (fun _ q => q) hf1 (by omega)
        refine tb_X12_slopes_579 (c := false) ?_
        simp only [kb_X12_slopes_579, w_ild7, w_if_ne, w_ald_0, w_ild6, w_ild8, w_iv2, tfr_0, tfr_1, tfr_2, tfr_3, tfr_4, w_ist7, tkl_n, tkl_i, tkl_l, tkl_r, w_nil, true_and, and_true, Nat.reduceAdd, Nat.reduceSub, eq_self, tshm_14, tshm_31, tshm_32, tykm_31, tykm_32, tci_15, tci_960, tykm_14, tci_14, tshm_667, tshm_668, tshm_669, tshm_670, tykm_33, tci_700, tsn_671, tyn_17, tcn_10, tzs_672, tzs_673, tzs_680, tzs_681, tzs_682, tzs_683, tzs_684, tzs_685, tzs_686, tzs_687, tzs_688, tzs_689, tzy_15, tzy_35, tzy_36, tzy_37, tzy_38, tzy_39, tzy_40, tzc_60, tzc_320, tzc_5, tzc_4, tzc_8]
        refine ⟨by omega, fun h => n594 c u hcr hu k hk hk8 M1 z hz hy1 hf1 (fun q => absurd q h), fun h => ?_⟩
        have hO := hO (by omega)
        refine tc_i (D := 9 + q) (fun d' hd' => ih hV1 (by omega) (by omega) (by omega) hd') (by omega) ?_
        rintro z2 M2 ⟨p2, r2⟩
        have hy2 := st M1 M2 _ hy1 (by omega) r2
        have hf2 : M2 664 11 = f + 3 := r2.2.trans hf1
        try simp only [kb_X12_slopes_579, w_ild7, w_if_ne, w_ald_0, w_ild6, w_ild8, w_iv2, tfr_0, tfr_1, tfr_2, tfr_3, tfr_4, w_ist7, tkl_n, tkl_i, tkl_l, tkl_r, w_nil, true_and, and_true, Nat.reduceAdd, Nat.reduceSub, eq_self, tshm_14, tshm_31, tshm_32, tykm_31, tykm_32, tci_15, tci_960, tykm_14, tci_14, tshm_667, tshm_668, tshm_669, tshm_670, tykm_33, tci_700, tsn_671, tyn_17, tcn_10, tzs_672, tzs_673, tzs_680, tzs_681, tzs_682, tzs_683, tzs_684, tzs_685, tzs_686, tzs_687, tzs_688, tzs_689, tzy_15, tzy_35, tzy_36, tzy_37, tzy_38, tzy_39, tzy_40, tzc_60, tzc_320, tzc_5, tzc_4, tzc_8]
        exact n594 c u hcr hu k hk hk8 M2 z2 p2.1 hy2 hf2 (fun q => ⟨OB_x r2 hO.1 (by omega) (by omega), p2.2 q⟩)
      have n562 : ∀ c u : Int, (0 ≤ c ∧ c < 65536) → (b ≤ u ∧ u < p) → ∀ k : Nat, M 682 p = ((k + 1 : Nat) : Int) → k ≤ 8 → ∀ (M1 : tM) (z : Int), (z = 0 ∨ z = 1 ∨ z = 2) → yE (fun r => f ≤ r) M M1 → M1 664 11 = f + 3 → (z = 0 → OB M1 (f + 1) ∧ OB M1 (f + 2)) → tT e d 3710 562 [some (.inr (.inr (.inl 664))), some (.inl (to)), some (.inl (p)), some (.inl (c)), some (.inl (f)), some (.inl (f + 1)), some (.inl (f + 2)), some (.inl (z)), some (.inl (u))] [] M1 n (tQi n (fun z M' => OK3 z M' to ∧ xE (toF to f) M M')) := by
        intro c u hcr hu k hk hk8 M1 z hz hy1 hf1 hO
        have hzr := z3_r hz
        have hV1 : VI M1 D (f + 3) b s := sl_st hV hy1 (fun _ q => q) hf1 (by omega)
        refine tb_X12_slopes_562 (c := false) ?_
        simp only [kb_X12_slopes_562, w_ild7, w_if_ne, w_ald_0, w_ild5, w_ild6, w_iv3, tfr_0, tfr_1, tfr_2, tfr_3, tfr_4, w_ist7, tkl_n, tkl_i, tkl_l, tkl_r, w_nil, true_and, and_true, Nat.reduceAdd, Nat.reduceSub, eq_self, tshm_14, tshm_31, tshm_32, tykm_31, tykm_32, tci_15, tci_960, tykm_14, tci_14, tshm_667, tshm_668, tshm_669, tshm_670, tykm_33, tci_700, tsn_671, tyn_17, tcn_10, tzs_672, tzs_673, tzs_680, tzs_681, tzs_682, tzs_683, tzs_684, tzs_685, tzs_686, tzs_687, tzs_688, tzs_689, tzy_15, tzy_35, tzy_36, tzy_37, tzy_38, tzy_39, tzy_40, tzc_60, tzc_320, tzc_5, tzc_4, tzc_8]
        refine ⟨by omega, fun h => n579 c u hcr hu k hk hk8 M1 z hz hy1 hf1 (fun q => absurd q h), fun h => ?_⟩
        have hO := hO (by omega)
        refine tc_i (D := 6) (fun d' hd' => o_product hV1.1 (by omega) (by omega) (by omega) hd') (by omega) ?_
        rintro z2 M2 ⟨p2, r2⟩
        have hy2 := st M1 M2 _ hy1 (by omega) r2
        have hf2 : M2 664 11 = f + 3 := r2.2.trans hf1
        try simp only [kb_X12_slopes_562, w_ild7, w_if_ne, w_ald_0, w_ild5, w_ild6, w_iv3, tfr_0, tfr_1, tfr_2, tfr_3, tfr_4, w_ist7, tkl_n, tkl_i, tkl_l, tkl_r, w_nil, true_and, and_true, Nat.reduceAdd, Nat.reduceSub, eq_self, tshm_14, tshm_31, tshm_32, tykm_31, tykm_32, tci_15, tci_960, tykm_14, tci_14, tshm_667, tshm_668, tshm_669, tshm_670, tykm_33, tci_700, tsn_671, tyn_17, tcn_10, tzs_672, tzs_673, tzs_680, tzs_681, tzs_682, tzs_683, tzs_684, tzs_685, tzs_686, tzs_687, tzs_688, tzs_689, tzy_15, tzy_35, tzy_36, tzy_37, tzy_38, tzy_39, tzy_40, tzc_60, tzc_320, tzc_5, tzc_4, tzc_8]
        exact n579 c u hcr hu k hk hk8 M2 z2 p2.1 hy2 hf2 (fun q => ⟨p2.2 q, OB_x r2 hO.2 (by omega) (by omega)⟩)
      have n542 : ∀ c u : Int, (0 ≤ c ∧ c < 65536) → (b ≤ u ∧ u < p) → ∀ k : Nat, M 682 p = ((k + 1 : Nat) : Int) → k ≤ 8 → ∀ (M1 : tM) (z : Int), (z = 0 ∨ z = 1 ∨ z = 2) → yE (fun r => f ≤ r) M M1 → M1 664 11 = f + 3 → (z = 0 → OB M1 (f + 1)) → tT e d 3710 542 [some (.inr (.inr (.inl 664))), some (.inl (to)), some (.inl (p)), some (.inl (c)), some (.inl (f)), some (.inl (f + 1)), some (.inl (f + 2)), some (.inl (z)), some (.inl (u))] [] M1 n (tQi n (fun z M' => OK3 z M' to ∧ xE (toF to f) M M')) := by
        intro c u hcr hu k hk hk8 M1 z hz hy1 hf1 hO
        have hzr := z3_r hz
        have hV1 : VI M1 D (f + 3) b s := sl_st hV hy1 (fun _ q => q) hf1 (by omega)
        have g82 := e82 M1 hy1
        rw [hk] at g82
        refine tb_X12_slopes_542 (c := false) ?_
        simp only [kb_X12_slopes_542, w_ild7, w_if_ne, w_ald_0, w_ild6, w_gf_14_28, tw_f, w_ild_2, w_ia, w_iax, w_i2l, w_iv2, tfr_0, tfr_1, tfr_2, tfr_3, tfr_4, w_ist7, tkl_n, tkl_i, tkl_l, tkl_r, w_nil, true_and, and_true, Nat.reduceAdd, Nat.reduceSub, eq_self, tshm_14, tshm_31, tshm_32, tykm_31, tykm_32, tci_15, tci_960, tykm_14, tci_14, tshm_667, tshm_668, tshm_669, tshm_670, tykm_33, tci_700, tsn_671, tyn_17, tcn_10, tzs_672, tzs_673, tzs_680, tzs_681, tzs_682, tzs_683, tzs_684, tzs_685, tzs_686, tzs_687, tzs_688, tzs_689, tzy_15, tzy_35, tzy_36, tzy_37, tzy_38, tzy_39, tzy_40, tzc_60, tzc_320, tzc_5, tzc_4, tzc_8, g82]
        refine ⟨by omega, fun h => n562 c u hcr hu k hk hk8 M1 z hz hy1 hf1 (fun q => absurd q h), fun h => ?_⟩
        have hO := hO (by omega)
        refine ⟨by omega, by omega, ?_⟩
        refine tc_i (D := 6) (fun d' hd' => o_whole (v := k + 1) hV1.1 (by omega) (by omega) hd') (by omega) ?_
        rintro z2 M2 ⟨p2, r2⟩
        have hy2 := st M1 M2 _ hy1 (by omega) r2
        have hf2 : M2 664 11 = f + 3 := r2.2.trans hf1
        try simp only [kb_X12_slopes_542, w_ild7, w_if_ne, w_ald_0, w_ild6, w_gf_14_28, tw_f, w_ild_2, w_ia, w_iax, w_i2l, w_iv2, tfr_0, tfr_1, tfr_2, tfr_3, tfr_4, w_ist7, tkl_n, tkl_i, tkl_l, tkl_r, w_nil, true_and, and_true, Nat.reduceAdd, Nat.reduceSub, eq_self, tshm_14, tshm_31, tshm_32, tykm_31, tykm_32, tci_15, tci_960, tykm_14, tci_14, tshm_667, tshm_668, tshm_669, tshm_670, tykm_33, tci_700, tsn_671, tyn_17, tcn_10, tzs_672, tzs_673, tzs_680, tzs_681, tzs_682, tzs_683, tzs_684, tzs_685, tzs_686, tzs_687, tzs_688, tzs_689, tzy_15, tzy_35, tzy_36, tzy_37, tzy_38, tzy_39, tzy_40, tzc_60, tzc_320, tzc_5, tzc_4, tzc_8]
        exact n562 c u hcr hu k hk hk8 M2 z2 p2.1 hy2 hf2 (fun q => ⟨OB_x r2 hO (by omega) (by omega), p2.2 q⟩)
      have n509 : ∀ c u : Int, (0 ≤ c ∧ c < 65536) → (b ≤ u ∧ u < p) → ∀ k : Nat, M 682 p = ((k + 1 : Nat) : Int) → k ≤ 8 → ∀ M1 : tM, yE (fun r => f ≤ r) M M1 → M1 664 11 = f + 3 → tT e d 3710 509 [some (.inr (.inr (.inl 664))), some (.inl (to)), some (.inl (p)), some (.inl (c)), some (.inl (f)), some (.inl (f + 1)), some (.inl (f + 2)), some (.inl (0)), some (.inl (u))] [] M1 n (tQi n (fun z M' => OK3 z M' to ∧ xE (toF to f) M M')) := by
        intro c u hcr hu k hk hk8 M1 hy1 hf1
        have hV1 : VI M1 D (f + 3) b s := sl_st hV hy1 (fun _ q => q) hf1 (by omega)
        have g82 := e82 M1 hy1
        rw [hk] at g82
        refine tb_X12_slopes_509 (c := false) ?_
        simp only [kb_X12_slopes_509, w_ald_0, w_ild5, w_ild8, w_iv2, tfr_0, tfr_1, tfr_2, tfr_3, tfr_4, w_ist7, tkl_n, tkl_i, tkl_l, tkl_r, w_ild7, w_if_ne, w_gf_14_28, tw_f, w_ild_2, w_ia, w_iax, w_ic, w_isub, w_iv3, w_nil, true_and, and_true, Nat.reduceAdd, Nat.reduceSub, eq_self, tshm_14, tshm_31, tshm_32, tykm_31, tykm_32, tci_15, tci_960, tykm_14, tci_14, tshm_667, tshm_668, tshm_669, tshm_670, tykm_33, tci_700, tsn_671, tyn_17, tcn_10, tzs_672, tzs_673, tzs_680, tzs_681, tzs_682, tzs_683, tzs_684, tzs_685, tzs_686, tzs_687, tzs_688, tzs_689, tzy_15, tzy_35, tzy_36, tzy_37, tzy_38, tzy_39, tzy_40, tzc_60, tzc_320, tzc_5, tzc_4, tzc_8, g82]
        refine tc_i (D := 8 + q) (fun d' hd' => o_values q hV1 (by omega) (by omega) (by omega) hd') (by omega) ?_
        rintro z2 M2 ⟨p2, r2⟩
        have hy2 := st M1 M2 _ hy1 (by omega) r2
        have hf2 : M2 664 11 = f + 3 := r2.2.trans hf1
        have hV2 : VI M2 D (f + 3) b s := sl_st hV hy2 (fun _ q => q) hf2 (by omega)
        have g82 := e82 M2 hy2
        rw [hk] at g82
        try simp only [kb_X12_slopes_509, w_ald_0, w_ild5, w_ild8, w_iv2, tfr_0, tfr_1, tfr_2, tfr_3, tfr_4, w_ist7, tkl_n, tkl_i, tkl_l, tkl_r, w_ild7, w_if_ne, w_gf_14_28, tw_f, w_ild_2, w_ia, w_iax, w_ic, w_isub, w_iv3, w_nil, true_and, and_true, Nat.reduceAdd, Nat.reduceSub, eq_self, tshm_14, tshm_31, tshm_32, tykm_31, tykm_32, tci_15, tci_960, tykm_14, tci_14, tshm_667, tshm_668, tshm_669, tshm_670, tykm_33, tci_700, tsn_671, tyn_17, tcn_10, tzs_672, tzs_673, tzs_680, tzs_681, tzs_682, tzs_683, tzs_684, tzs_685, tzs_686, tzs_687, tzs_688, tzs_689, tzy_15, tzy_35, tzy_36, tzy_37, tzy_38, tzy_39, tzy_40, tzc_60, tzc_320, tzc_5, tzc_4, tzc_8, g82]
        have hz2 := p2.1
        have hzr2 := z3_r hz2
        refine ⟨by omega, fun h => n542 c u hcr hu k hk hk8 M2 z2 hz2 hy2 hf2 (fun q => absurd q h), fun h => ?_⟩
        have hO := p2.2 (by omega)
        change OB M2 (f + 1) at hO
        refine ⟨by omega, ?_⟩
        rw [show ((k + 1 : Nat) : Int) - 1 = (k : Int) by omega]
        refine tc_i (D := 5) (fun d' hd' => o_lifted (k := k) hV2.1 (by omega) (by omega) hO (by omega) hd') (by omega) ?_
        rintro z3 M3 ⟨p3, r3⟩
        have hy3 := st M2 M3 _ hy2 (by omega) r3
        have hf3 : M3 664 11 = f + 3 := r3.2.trans hf2
        try simp only [kb_X12_slopes_509, w_ald_0, w_ild5, w_ild8, w_iv2, tfr_0, tfr_1, tfr_2, tfr_3, tfr_4, w_ist7, tkl_n, tkl_i, tkl_l, tkl_r, w_ild7, w_if_ne, w_gf_14_28, tw_f, w_ild_2, w_ia, w_iax, w_ic, w_isub, w_iv3, w_nil, true_and, and_true, Nat.reduceAdd, Nat.reduceSub, eq_self, tshm_14, tshm_31, tshm_32, tykm_31, tykm_32, tci_15, tci_960, tykm_14, tci_14, tshm_667, tshm_668, tshm_669, tshm_670, tykm_33, tci_700, tsn_671, tyn_17, tcn_10, tzs_672, tzs_673, tzs_680, tzs_681, tzs_682, tzs_683, tzs_684, tzs_685, tzs_686, tzs_687, tzs_688, tzs_689, tzy_15, tzy_35, tzy_36, tzy_37, tzy_38, tzy_39, tzy_40, tzc_60, tzc_320, tzc_5, tzc_4, tzc_8]
        exact n542 c u hcr hu k hk hk8 M3 z3 p3.1 hy3 hf3 (fun q => p3.2 q)
      have n613 : ∀ c u : Int, (0 ≤ c ∧ c < 65536) → (b ≤ u ∧ u < p) → ∀ M1 : tM, yE (fun r => f ≤ r) M M1 → M1 664 11 = f + 3 → tT e d 3710 613 [some (.inr (.inr (.inl 664))), some (.inl (to)), some (.inl (p)), some (.inl (c)), some (.inl (f)), some (.inl (f + 1)), some (.inl (f + 2)), some (.inl (0)), some (.inl (u))] [] M1 n (tQi n (fun z M' => OK3 z M' to ∧ xE (toF to f) M M')) := by
        intro c u hcr hu M1 hy1 hf1
        have hV1 : VI M1 D (f + 3) b s := sl_st hV hy1 (fun _ q => q) hf1 (by omega)
        refine tb_X12_slopes_613 (c := false) ?_
        simp only [kb_X12_slopes_613, w_ald_0, w_ild4, w_ild8, w_iv2, tfr_0, tfr_1, tfr_2, tfr_3, tfr_4, w_ist7, tkl_n, tkl_i, tkl_l, tkl_r, w_ild7, w_if_ne, w_ild_1, w_goto, true_and, and_true, Nat.reduceAdd, Nat.reduceSub, eq_self, tshm_14, tshm_31, tshm_32, tykm_31, tykm_32, tci_15, tci_960, tykm_14, tci_14, tshm_667, tshm_668, tshm_669, tshm_670, tykm_33, tci_700, tsn_671, tyn_17, tcn_10, tzs_672, tzs_673, tzs_680, tzs_681, tzs_682, tzs_683, tzs_684, tzs_685, tzs_686, tzs_687, tzs_688, tzs_689, tzy_15, tzy_35, tzy_36, tzy_37, tzy_38, tzy_39, tzy_40, tzc_60, tzc_320, tzc_5, tzc_4, tzc_8]
        refine tc_i (D := 9 + q) (fun d' hd' => ih hV1 (by omega) (by omega) (by omega) hd') (by omega) ?_
        rintro z2 M2 ⟨p2, r2⟩
        have hy2 := st M1 M2 _ hy1 (by omega) r2
        have hf2 : M2 664 11 = f + 3 := r2.2.trans hf1
        have hV2 : VI M2 D (f + 3) b s := sl_st hV hy2 (fun _ q => q) hf2 (by omega)
        try simp only [kb_X12_slopes_613, w_ald_0, w_ild4, w_ild8, w_iv2, tfr_0, tfr_1, tfr_2, tfr_3, tfr_4, w_ist7, tkl_n, tkl_i, tkl_l, tkl_r, w_ild7, w_if_ne, w_ild_1, w_goto, true_and, and_true, Nat.reduceAdd, Nat.reduceSub, eq_self, tshm_14, tshm_31, tshm_32, tykm_31, tykm_32, tci_15, tci_960, tykm_14, tci_14, tshm_667, tshm_668, tshm_669, tshm_670, tykm_33, tci_700, tsn_671, tyn_17, tcn_10, tzs_672, tzs_673, tzs_680, tzs_681, tzs_682, tzs_683, tzs_684, tzs_685, tzs_686, tzs_687, tzs_688, tzs_689, tzy_15, tzy_35, tzy_36, tzy_37, tzy_38, tzy_39, tzy_40, tzc_60, tzc_320, tzc_5, tzc_4, tzc_8]
        have hz2 := p2.1
        have hzr2 := z3_r hz2
        refine ⟨by omega, fun h => n926 _ _ M2 z2 ⟨hz2, fun q => absurd q h⟩ (yE_mono hy2 (fun _ q => Or.inr q)) hf2, fun h => ?_⟩
        have hO := p2.2 (by omega)
        change OB M2 (f) at hO
        refine tc_i (D := 3) (fun d' hd' => o_negative hV2.1 (by omega) (by omega) hO hd') (by omega) ?_
        rintro z3 M3 ⟨p3, r3⟩
        try simp only [kb_X12_slopes_613, w_ald_0, w_ild4, w_ild8, w_iv2, tfr_0, tfr_1, tfr_2, tfr_3, tfr_4, w_ist7, tkl_n, tkl_i, tkl_l, tkl_r, w_ild7, w_if_ne, w_ild_1, w_goto, true_and, and_true, Nat.reduceAdd, Nat.reduceSub, eq_self, tshm_14, tshm_31, tshm_32, tykm_31, tykm_32, tci_15, tci_960, tykm_14, tci_14, tshm_667, tshm_668, tshm_669, tshm_670, tykm_33, tci_700, tsn_671, tyn_17, tcn_10, tzs_672, tzs_673, tzs_680, tzs_681, tzs_682, tzs_683, tzs_684, tzs_685, tzs_686, tzs_687, tzs_688, tzs_689, tzy_15, tzy_35, tzy_36, tzy_37, tzy_38, tzy_39, tzy_40, tzc_60, tzc_320, tzc_5, tzc_4, tzc_8]
        exact n926 _ _ M3 z3 p3 (fin M2 M3 hy2 r3) (r3.2.trans hf2)
      have n714 : ∀ c u : Int, (0 ≤ c ∧ c < 65536) → (b ≤ u ∧ u < p) → ∀ (M1 : tM) (z : Int), (z = 0 ∨ z = 1 ∨ z = 2) → yE (fun r => f ≤ r) M M1 → M1 664 11 = f + 3 → (z = 0 → OB M1 (f) ∧ OB M1 (f + 1) ∧ OB M1 (f + 2)) → tT e d 3710 714 [some (.inr (.inr (.inl 664))), some (.inl (to)), some (.inl (p)), some (.inl (c)), some (.inl (f)), some (.inl (f + 1)), some (.inl (f + 2)), some (.inl (z)), some (.inl (u))] [] M1 n (tQi n (fun z M' => OK3 z M' to ∧ xE (toF to f) M M')) := by
        intro c u hcr hu M1 z hz hy1 hf1 hO
        have hzr := z3_r hz
        have hV1 : VI M1 D (f + 3) b s := sl_st hV hy1 (fun _ q => q) hf1 (by omega)
        refine tb_X12_slopes_714 (c := false) ?_
        simp only [kb_X12_slopes_714, w_ild7, w_if_ne, w_ald_0, w_ild_1, w_ild4, w_ild5, w_iv3, tfr_0, tfr_1, tfr_2, tfr_3, tfr_4, w_ist7, tkl_n, tkl_i, tkl_l, tkl_r, w_goto, true_and, and_true, Nat.reduceAdd, Nat.reduceSub, eq_self, tshm_14, tshm_31, tshm_32, tykm_31, tykm_32, tci_15, tci_960, tykm_14, tci_14, tshm_667, tshm_668, tshm_669, tshm_670, tykm_33, tci_700, tsn_671, tyn_17, tcn_10, tzs_672, tzs_673, tzs_680, tzs_681, tzs_682, tzs_683, tzs_684, tzs_685, tzs_686, tzs_687, tzs_688, tzs_689, tzy_15, tzy_35, tzy_36, tzy_37, tzy_38, tzy_39, tzy_40, tzc_60, tzc_320, tzc_5, tzc_4, tzc_8]
        refine ⟨by omega, fun h => n926 _ _ M1 z ⟨hz, fun q => absurd q h⟩ (yE_mono hy1 (fun _ q => Or.inr q)) hf1, fun h => ?_⟩
        have hO := hO (by omega)
        refine tc_i (D := 6) (fun d' hd' => o_quotient hV1.1 (by omega) (by omega) (by omega) (hO.2.1) hd') (by omega) ?_
        rintro z2 M2 ⟨p2, r2⟩
        try simp only [kb_X12_slopes_714, w_ild7, w_if_ne, w_ald_0, w_ild_1, w_ild4, w_ild5, w_iv3, tfr_0, tfr_1, tfr_2, tfr_3, tfr_4, w_ist7, tkl_n, tkl_i, tkl_l, tkl_r, w_goto, true_and, and_true, Nat.reduceAdd, Nat.reduceSub, eq_self, tshm_14, tshm_31, tshm_32, tykm_31, tykm_32, tci_15, tci_960, tykm_14, tci_14, tshm_667, tshm_668, tshm_669, tshm_670, tykm_33, tci_700, tsn_671, tyn_17, tcn_10, tzs_672, tzs_673, tzs_680, tzs_681, tzs_682, tzs_683, tzs_684, tzs_685, tzs_686, tzs_687, tzs_688, tzs_689, tzy_15, tzy_35, tzy_36, tzy_37, tzy_38, tzy_39, tzy_40, tzc_60, tzc_320, tzc_5, tzc_4, tzc_8]
        exact n926 _ _ M2 z2 p2 (fin M1 M2 hy1 r2) (r2.2.trans hf1)
      have n697 : ∀ c u : Int, (0 ≤ c ∧ c < 65536) → (b ≤ u ∧ u < p) → ∀ (M1 : tM) (z : Int), (z = 0 ∨ z = 1 ∨ z = 2) → yE (fun r => f ≤ r) M M1 → M1 664 11 = f + 3 → (z = 0 → OB M1 (f) ∧ OB M1 (f + 1) ∧ OB M1 (f + 2)) → tT e d 3710 697 [some (.inr (.inr (.inl 664))), some (.inl (to)), some (.inl (p)), some (.inl (c)), some (.inl (f)), some (.inl (f + 1)), some (.inl (f + 2)), some (.inl (z)), some (.inl (u))] [] M1 n (tQi n (fun z M' => OK3 z M' to ∧ xE (toF to f) M M')) := by
        intro c u hcr hu M1 z hz hy1 hf1 hO
        have hzr := z3_r hz
        have hV1 : VI M1 D (f + 3) b s := sl_st hV hy1 (fun _ q => q) hf1 (by omega)
        refine tb_X12_slopes_697 (c := false) ?_
        simp only [kb_X12_slopes_697, w_ild7, w_if_ne, w_ald_0, w_ild5, w_ild6, w_iv3, tfr_0, tfr_1, tfr_2, tfr_3, tfr_4, w_ist7, tkl_n, tkl_i, tkl_l, tkl_r, w_nil, true_and, and_true, Nat.reduceAdd, Nat.reduceSub, eq_self, tshm_14, tshm_31, tshm_32, tykm_31, tykm_32, tci_15, tci_960, tykm_14, tci_14, tshm_667, tshm_668, tshm_669, tshm_670, tykm_33, tci_700, tsn_671, tyn_17, tcn_10, tzs_672, tzs_673, tzs_680, tzs_681, tzs_682, tzs_683, tzs_684, tzs_685, tzs_686, tzs_687, tzs_688, tzs_689, tzy_15, tzy_35, tzy_36, tzy_37, tzy_38, tzy_39, tzy_40, tzc_60, tzc_320, tzc_5, tzc_4, tzc_8]
        refine ⟨by omega, fun h => n714 c u hcr hu M1 z hz hy1 hf1 (fun q => absurd q h), fun h => ?_⟩
        have hO := hO (by omega)
        refine tc_i (D := 6) (fun d' hd' => o_product hV1.1 (by omega) (by omega) (by omega) hd') (by omega) ?_
        rintro z2 M2 ⟨p2, r2⟩
        have hy2 := st M1 M2 _ hy1 (by omega) r2
        have hf2 : M2 664 11 = f + 3 := r2.2.trans hf1
        try simp only [kb_X12_slopes_697, w_ild7, w_if_ne, w_ald_0, w_ild5, w_ild6, w_iv3, tfr_0, tfr_1, tfr_2, tfr_3, tfr_4, w_ist7, tkl_n, tkl_i, tkl_l, tkl_r, w_nil, true_and, and_true, Nat.reduceAdd, Nat.reduceSub, eq_self, tshm_14, tshm_31, tshm_32, tykm_31, tykm_32, tci_15, tci_960, tykm_14, tci_14, tshm_667, tshm_668, tshm_669, tshm_670, tykm_33, tci_700, tsn_671, tyn_17, tcn_10, tzs_672, tzs_673, tzs_680, tzs_681, tzs_682, tzs_683, tzs_684, tzs_685, tzs_686, tzs_687, tzs_688, tzs_689, tzy_15, tzy_35, tzy_36, tzy_37, tzy_38, tzy_39, tzy_40, tzc_60, tzc_320, tzc_5, tzc_4, tzc_8]
        exact n714 c u hcr hu M2 z2 p2.1 hy2 hf2 (fun q => ⟨OB_x r2 hO.1 (by omega) (by omega), p2.2 q, OB_x r2 hO.2.2 (by omega) (by omega)⟩)
      have n681 : ∀ c u : Int, (0 ≤ c ∧ c < 65536) → (b ≤ u ∧ u < p) → ∀ (M1 : tM) (z : Int), (z = 0 ∨ z = 1 ∨ z = 2) → yE (fun r => f ≤ r) M M1 → M1 664 11 = f + 3 → (z = 0 → OB M1 (f) ∧ OB M1 (f + 1)) → tT e d 3710 681 [some (.inr (.inr (.inl 664))), some (.inl (to)), some (.inl (p)), some (.inl (c)), some (.inl (f)), some (.inl (f + 1)), some (.inl (f + 2)), some (.inl (z)), some (.inl (u))] [] M1 n (tQi n (fun z M' => OK3 z M' to ∧ xE (toF to f) M M')) := by
        intro c u hcr hu M1 z hz hy1 hf1 hO
        have hzr := z3_r hz
        have hV1 : VI M1 D (f + 3) b s := sl_st hV hy1 (fun _ q => q) hf1 (by omega)
        refine tb_X12_slopes_681 (c := false) ?_
        simp only [kb_X12_slopes_681, w_ild7, w_if_ne, w_ald_0, w_ild6, w_ld2, w_iv2, tfr_0, tfr_1, tfr_2, tfr_3, tfr_4, w_ist7, tkl_n, tkl_i, tkl_l, tkl_r, w_nil, true_and, and_true, Nat.reduceAdd, Nat.reduceSub, eq_self, tshm_14, tshm_31, tshm_32, tykm_31, tykm_32, tci_15, tci_960, tykm_14, tci_14, tshm_667, tshm_668, tshm_669, tshm_670, tykm_33, tci_700, tsn_671, tyn_17, tcn_10, tzs_672, tzs_673, tzs_680, tzs_681, tzs_682, tzs_683, tzs_684, tzs_685, tzs_686, tzs_687, tzs_688, tzs_689, tzy_15, tzy_35, tzy_36, tzy_37, tzy_38, tzy_39, tzy_40, tzc_60, tzc_320, tzc_5, tzc_4, tzc_8]
        refine ⟨by omega, fun h => n697 c u hcr hu M1 z hz hy1 hf1 (fun q => absurd q h), fun h => ?_⟩
        have hO := hO (by omega)
        refine tc_i (D := 6) (fun d' hd' => o_whole (v := 2) hV1.1 (by omega) (by omega) hd') (by omega) ?_
        rintro z2 M2 ⟨p2, r2⟩
        have hy2 := st M1 M2 _ hy1 (by omega) r2
        have hf2 : M2 664 11 = f + 3 := r2.2.trans hf1
        try simp only [kb_X12_slopes_681, w_ild7, w_if_ne, w_ald_0, w_ild6, w_ld2, w_iv2, tfr_0, tfr_1, tfr_2, tfr_3, tfr_4, w_ist7, tkl_n, tkl_i, tkl_l, tkl_r, w_nil, true_and, and_true, Nat.reduceAdd, Nat.reduceSub, eq_self, tshm_14, tshm_31, tshm_32, tykm_31, tykm_32, tci_15, tci_960, tykm_14, tci_14, tshm_667, tshm_668, tshm_669, tshm_670, tykm_33, tci_700, tsn_671, tyn_17, tcn_10, tzs_672, tzs_673, tzs_680, tzs_681, tzs_682, tzs_683, tzs_684, tzs_685, tzs_686, tzs_687, tzs_688, tzs_689, tzy_15, tzy_35, tzy_36, tzy_37, tzy_38, tzy_39, tzy_40, tzc_60, tzc_320, tzc_5, tzc_4, tzc_8]
        exact n697 c u hcr hu M2 z2 p2.1 hy2 hf2 (fun q => ⟨OB_x r2 hO.1 (by omega) (by omega), OB_x r2 hO.2 (by omega) (by omega), p2.2 q⟩)
      have n665 : ∀ c u : Int, (0 ≤ c ∧ c < 65536) → (b ≤ u ∧ u < p) → ∀ (M1 : tM) (z : Int), (z = 0 ∨ z = 1 ∨ z = 2) → yE (fun r => f ≤ r) M M1 → M1 664 11 = f + 3 → (z = 0 → OB M1 (f) ∧ OB M1 (f + 1)) → tT e d 3710 665 [some (.inr (.inr (.inl 664))), some (.inl (to)), some (.inl (p)), some (.inl (c)), some (.inl (f)), some (.inl (f + 1)), some (.inl (f + 2)), some (.inl (z)), some (.inl (u))] [] M1 n (tQi n (fun z M' => OK3 z M' to ∧ xE (toF to f) M M')) := by
        intro c u hcr hu M1 z hz hy1 hf1 hO
        have hzr := z3_r hz
        have hV1 : VI M1 D (f + 3) b s := sl_st hV hy1 (fun _ q => q) hf1 (by omega)
        refine tb_X12_slopes_665 (c := false) ?_
        simp only [kb_X12_slopes_665, w_ild7, w_if_ne, w_ald_0, w_ild5, w_ic, w_iv3, tfr_0, tfr_1, tfr_2, tfr_3, tfr_4, w_ist7, tkl_n, tkl_i, tkl_l, tkl_r, w_nil, true_and, and_true, Nat.reduceAdd, Nat.reduceSub, eq_self, tshm_14, tshm_31, tshm_32, tykm_31, tykm_32, tci_15, tci_960, tykm_14, tci_14, tshm_667, tshm_668, tshm_669, tshm_670, tykm_33, tci_700, tsn_671, tyn_17, tcn_10, tzs_672, tzs_673, tzs_680, tzs_681, tzs_682, tzs_683, tzs_684, tzs_685, tzs_686, tzs_687, tzs_688, tzs_689, tzy_15, tzy_35, tzy_36, tzy_37, tzy_38, tzy_39, tzy_40, tzc_60, tzc_320, tzc_5, tzc_4, tzc_8]
        refine ⟨by omega, fun h => n681 c u hcr hu M1 z hz hy1 hf1 (fun q => absurd q h), fun h => ?_⟩
        have hO := hO (by omega)
        refine tc_i (D := 5) (fun d' hd' => o_rooted (k := 2) hV1.1 (by omega) (by omega) (hO.2) (by omega) hd') (by omega) ?_
        rintro z2 M2 ⟨p2, r2⟩
        have hy2 := st M1 M2 _ hy1 (by omega) r2
        have hf2 : M2 664 11 = f + 3 := r2.2.trans hf1
        try simp only [kb_X12_slopes_665, w_ild7, w_if_ne, w_ald_0, w_ild5, w_ic, w_iv3, tfr_0, tfr_1, tfr_2, tfr_3, tfr_4, w_ist7, tkl_n, tkl_i, tkl_l, tkl_r, w_nil, true_and, and_true, Nat.reduceAdd, Nat.reduceSub, eq_self, tshm_14, tshm_31, tshm_32, tykm_31, tykm_32, tci_15, tci_960, tykm_14, tci_14, tshm_667, tshm_668, tshm_669, tshm_670, tykm_33, tci_700, tsn_671, tyn_17, tcn_10, tzs_672, tzs_673, tzs_680, tzs_681, tzs_682, tzs_683, tzs_684, tzs_685, tzs_686, tzs_687, tzs_688, tzs_689, tzy_15, tzy_35, tzy_36, tzy_37, tzy_38, tzy_39, tzy_40, tzc_60, tzc_320, tzc_5, tzc_4, tzc_8]
        exact n681 c u hcr hu M2 z2 p2.1 hy2 hf2 (fun q => ⟨OB_x r2 hO.1 (by omega) (by omega), p2.2 q⟩)
      have n640 : ∀ c u : Int, (0 ≤ c ∧ c < 65536) → (b ≤ u ∧ u < p) → ∀ M1 : tM, yE (fun r => f ≤ r) M M1 → M1 664 11 = f + 3 → tT e d 3710 640 [some (.inr (.inr (.inl 664))), some (.inl (to)), some (.inl (p)), some (.inl (c)), some (.inl (f)), some (.inl (f + 1)), some (.inl (f + 2)), some (.inl (0)), some (.inl (u))] [] M1 n (tQi n (fun z M' => OK3 z M' to ∧ xE (toF to f) M M')) := by
        intro c u hcr hu M1 hy1 hf1
        have hV1 : VI M1 D (f + 3) b s := sl_st hV hy1 (fun _ q => q) hf1 (by omega)
        refine tb_X12_slopes_640 (c := false) ?_
        simp only [kb_X12_slopes_640, w_ald_0, w_ild4, w_ild8, w_iv2, tfr_0, tfr_1, tfr_2, tfr_3, tfr_4, w_ist7, tkl_n, tkl_i, tkl_l, tkl_r, w_ild7, w_if_ne, w_ild5, w_nil, true_and, and_true, Nat.reduceAdd, Nat.reduceSub, eq_self, tshm_14, tshm_31, tshm_32, tykm_31, tykm_32, tci_15, tci_960, tykm_14, tci_14, tshm_667, tshm_668, tshm_669, tshm_670, tykm_33, tci_700, tsn_671, tyn_17, tcn_10, tzs_672, tzs_673, tzs_680, tzs_681, tzs_682, tzs_683, tzs_684, tzs_685, tzs_686, tzs_687, tzs_688, tzs_689, tzy_15, tzy_35, tzy_36, tzy_37, tzy_38, tzy_39, tzy_40, tzc_60, tzc_320, tzc_5, tzc_4, tzc_8]
        refine tc_i (D := 9 + q) (fun d' hd' => ih hV1 (by omega) (by omega) (by omega) hd') (by omega) ?_
        rintro z2 M2 ⟨p2, r2⟩
        have hy2 := st M1 M2 _ hy1 (by omega) r2
        have hf2 : M2 664 11 = f + 3 := r2.2.trans hf1
        have hV2 : VI M2 D (f + 3) b s := sl_st hV hy2 (fun _ q => q) hf2 (by omega)
        try simp only [kb_X12_slopes_640, w_ald_0, w_ild4, w_ild8, w_iv2, tfr_0, tfr_1, tfr_2, tfr_3, tfr_4, w_ist7, tkl_n, tkl_i, tkl_l, tkl_r, w_ild7, w_if_ne, w_ild5, w_nil, true_and, and_true, Nat.reduceAdd, Nat.reduceSub, eq_self, tshm_14, tshm_31, tshm_32, tykm_31, tykm_32, tci_15, tci_960, tykm_14, tci_14, tshm_667, tshm_668, tshm_669, tshm_670, tykm_33, tci_700, tsn_671, tyn_17, tcn_10, tzs_672, tzs_673, tzs_680, tzs_681, tzs_682, tzs_683, tzs_684, tzs_685, tzs_686, tzs_687, tzs_688, tzs_689, tzy_15, tzy_35, tzy_36, tzy_37, tzy_38, tzy_39, tzy_40, tzc_60, tzc_320, tzc_5, tzc_4, tzc_8]
        have hz2 := p2.1
        have hzr2 := z3_r hz2
        refine ⟨by omega, fun h => n665 c u hcr hu M2 z2 hz2 hy2 hf2 (fun q => absurd q h), fun h => ?_⟩
        have hO := p2.2 (by omega)
        change OB M2 (f) at hO
        refine tc_i (D := 8 + q) (fun d' hd' => o_values q hV2 (by omega) (by omega) (by omega) hd') (by omega) ?_
        rintro z3 M3 ⟨p3, r3⟩
        have hy3 := st M2 M3 _ hy2 (by omega) r3
        have hf3 : M3 664 11 = f + 3 := r3.2.trans hf2
        try simp only [kb_X12_slopes_640, w_ald_0, w_ild4, w_ild8, w_iv2, tfr_0, tfr_1, tfr_2, tfr_3, tfr_4, w_ist7, tkl_n, tkl_i, tkl_l, tkl_r, w_ild7, w_if_ne, w_ild5, w_nil, true_and, and_true, Nat.reduceAdd, Nat.reduceSub, eq_self, tshm_14, tshm_31, tshm_32, tykm_31, tykm_32, tci_15, tci_960, tykm_14, tci_14, tshm_667, tshm_668, tshm_669, tshm_670, tykm_33, tci_700, tsn_671, tyn_17, tcn_10, tzs_672, tzs_673, tzs_680, tzs_681, tzs_682, tzs_683, tzs_684, tzs_685, tzs_686, tzs_687, tzs_688, tzs_689, tzy_15, tzy_35, tzy_36, tzy_37, tzy_38, tzy_39, tzy_40, tzc_60, tzc_320, tzc_5, tzc_4, tzc_8]
        exact n665 c u hcr hu M3 z3 p3.1 hy3 hf3 (fun q => ⟨OB_x r3 hO (by omega) (by omega), p3.2 q⟩)
      have n775 : ∀ c u : Int, (0 ≤ c ∧ c < 65536) → (b ≤ u ∧ u < p) → ∀ (M1 : tM) (z : Int), (z = 0 ∨ z = 1 ∨ z = 2) → yE (fun r => f ≤ r) M M1 → M1 664 11 = f + 3 → (z = 0 → OB M1 (f) ∧ OB M1 (f + 1)) → tT e d 3710 775 [some (.inr (.inr (.inl 664))), some (.inl (to)), some (.inl (p)), some (.inl (c)), some (.inl (f)), some (.inl (f + 1)), some (.inl (f + 2)), some (.inl (z)), some (.inl (u))] [] M1 n (tQi n (fun z M' => OK3 z M' to ∧ xE (toF to f) M M')) := by
        intro c u hcr hu M1 z hz hy1 hf1 hO
        have hzr := z3_r hz
        have hV1 : VI M1 D (f + 3) b s := sl_st hV hy1 (fun _ q => q) hf1 (by omega)
        refine tb_X12_slopes_775 (c := false) ?_
        simp only [kb_X12_slopes_775, w_ild7, w_if_ne, w_ald_0, w_ild_1, w_ild5, w_ild4, w_iv3, tfr_0, tfr_1, tfr_2, tfr_3, tfr_4, w_ist7, tkl_n, tkl_i, tkl_l, tkl_r, w_goto, true_and, and_true, Nat.reduceAdd, Nat.reduceSub, eq_self, tshm_14, tshm_31, tshm_32, tykm_31, tykm_32, tci_15, tci_960, tykm_14, tci_14, tshm_667, tshm_668, tshm_669, tshm_670, tykm_33, tci_700, tsn_671, tyn_17, tcn_10, tzs_672, tzs_673, tzs_680, tzs_681, tzs_682, tzs_683, tzs_684, tzs_685, tzs_686, tzs_687, tzs_688, tzs_689, tzy_15, tzy_35, tzy_36, tzy_37, tzy_38, tzy_39, tzy_40, tzc_60, tzc_320, tzc_5, tzc_4, tzc_8]
        refine ⟨by omega, fun h => n926 _ _ M1 z ⟨hz, fun q => absurd q h⟩ (yE_mono hy1 (fun _ q => Or.inr q)) hf1, fun h => ?_⟩
        have hO := hO (by omega)
        refine tc_i (D := 6) (fun d' hd' => o_product hV1.1 (by omega) (by omega) (by omega) hd') (by omega) ?_
        rintro z2 M2 ⟨p2, r2⟩
        try simp only [kb_X12_slopes_775, w_ild7, w_if_ne, w_ald_0, w_ild_1, w_ild5, w_ild4, w_iv3, tfr_0, tfr_1, tfr_2, tfr_3, tfr_4, w_ist7, tkl_n, tkl_i, tkl_l, tkl_r, w_goto, true_and, and_true, Nat.reduceAdd, Nat.reduceSub, eq_self, tshm_14, tshm_31, tshm_32, tykm_31, tykm_32, tci_15, tci_960, tykm_14, tci_14, tshm_667, tshm_668, tshm_669, tshm_670, tykm_33, tci_700, tsn_671, tyn_17, tcn_10, tzs_672, tzs_673, tzs_680, tzs_681, tzs_682, tzs_683, tzs_684, tzs_685, tzs_686, tzs_687, tzs_688, tzs_689, tzy_15, tzy_35, tzy_36, tzy_37, tzy_38, tzy_39, tzy_40, tzc_60, tzc_320, tzc_5, tzc_4, tzc_8]
        exact n926 _ _ M2 z2 p2 (fin M1 M2 hy1 r2) (r2.2.trans hf1)
      have n760 : ∀ c u : Int, (0 ≤ c ∧ c < 65536) → (b ≤ u ∧ u < p) → ∀ (M1 : tM) (z : Int), (z = 0 ∨ z = 1 ∨ z = 2) → yE (fun r => f ≤ r) M M1 → M1 664 11 = f + 3 → (z = 0 → OB M1 (f + 1)) → tT e d 3710 760 [some (.inr (.inr (.inl 664))), some (.inl (to)), some (.inl (p)), some (.inl (c)), some (.inl (f)), some (.inl (f + 1)), some (.inl (f + 2)), some (.inl (z)), some (.inl (u))] [] M1 n (tQi n (fun z M' => OK3 z M' to ∧ xE (toF to f) M M')) := by
        intro c u hcr hu M1 z hz hy1 hf1 hO
        have hzr := z3_r hz
        have hV1 : VI M1 D (f + 3) b s := sl_st hV hy1 (fun _ q => q) hf1 (by omega)
        refine tb_X12_slopes_760 (c := false) ?_
        simp only [kb_X12_slopes_760, w_ild7, w_if_ne, w_ald_0, w_ild4, w_ild8, w_iv2, tfr_0, tfr_1, tfr_2, tfr_3, tfr_4, w_ist7, tkl_n, tkl_i, tkl_l, tkl_r, w_nil, true_and, and_true, Nat.reduceAdd, Nat.reduceSub, eq_self, tshm_14, tshm_31, tshm_32, tykm_31, tykm_32, tci_15, tci_960, tykm_14, tci_14, tshm_667, tshm_668, tshm_669, tshm_670, tykm_33, tci_700, tsn_671, tyn_17, tcn_10, tzs_672, tzs_673, tzs_680, tzs_681, tzs_682, tzs_683, tzs_684, tzs_685, tzs_686, tzs_687, tzs_688, tzs_689, tzy_15, tzy_35, tzy_36, tzy_37, tzy_38, tzy_39, tzy_40, tzc_60, tzc_320, tzc_5, tzc_4, tzc_8]
        refine ⟨by omega, fun h => n775 c u hcr hu M1 z hz hy1 hf1 (fun q => absurd q h), fun h => ?_⟩
        have hO := hO (by omega)
        refine tc_i (D := 9 + q) (fun d' hd' => ih hV1 (by omega) (by omega) (by omega) hd') (by omega) ?_
        rintro z2 M2 ⟨p2, r2⟩
        have hy2 := st M1 M2 _ hy1 (by omega) r2
        have hf2 : M2 664 11 = f + 3 := r2.2.trans hf1
        try simp only [kb_X12_slopes_760, w_ild7, w_if_ne, w_ald_0, w_ild4, w_ild8, w_iv2, tfr_0, tfr_1, tfr_2, tfr_3, tfr_4, w_ist7, tkl_n, tkl_i, tkl_l, tkl_r, w_nil, true_and, and_true, Nat.reduceAdd, Nat.reduceSub, eq_self, tshm_14, tshm_31, tshm_32, tykm_31, tykm_32, tci_15, tci_960, tykm_14, tci_14, tshm_667, tshm_668, tshm_669, tshm_670, tykm_33, tci_700, tsn_671, tyn_17, tcn_10, tzs_672, tzs_673, tzs_680, tzs_681, tzs_682, tzs_683, tzs_684, tzs_685, tzs_686, tzs_687, tzs_688, tzs_689, tzy_15, tzy_35, tzy_36, tzy_37, tzy_38, tzy_39, tzy_40, tzc_60, tzc_320, tzc_5, tzc_4, tzc_8]
        exact n775 c u hcr hu M2 z2 p2.1 hy2 hf2 (fun q => ⟨p2.2 q, OB_x r2 hO (by omega) (by omega)⟩)
      have n733 : ∀ c u : Int, (0 ≤ c ∧ c < 65536) → (b ≤ u ∧ u < p) → ∀ M1 : tM, yE (fun r => f ≤ r) M M1 → M1 664 11 = f + 3 → tT e d 3710 733 [some (.inr (.inr (.inl 664))), some (.inl (to)), some (.inl (p)), some (.inl (c)), some (.inl (f)), some (.inl (f + 1)), some (.inl (f + 2)), some (.inl (0)), some (.inl (u))] [] M1 n (tQi n (fun z M' => OK3 z M' to ∧ xE (toF to f) M M')) := by
        intro c u hcr hu M1 hy1 hf1
        have hV1 : VI M1 D (f + 3) b s := sl_st hV hy1 (fun _ q => q) hf1 (by omega)
        refine tb_X12_slopes_733 (c := false) ?_
        simp only [kb_X12_slopes_733, w_ald_0, w_ild5, w_ild8, w_iv2, tfr_0, tfr_1, tfr_2, tfr_3, tfr_4, w_ist7, tkl_n, tkl_i, tkl_l, tkl_r, w_ild7, w_if_ne, w_bi, w_iv3, w_nil, true_and, and_true, Nat.reduceAdd, Nat.reduceSub, eq_self, tshm_14, tshm_31, tshm_32, tykm_31, tykm_32, tci_15, tci_960, tykm_14, tci_14, tshm_667, tshm_668, tshm_669, tshm_670, tykm_33, tci_700, tsn_671, tyn_17, tcn_10, tzs_672, tzs_673, tzs_680, tzs_681, tzs_682, tzs_683, tzs_684, tzs_685, tzs_686, tzs_687, tzs_688, tzs_689, tzy_15, tzy_35, tzy_36, tzy_37, tzy_38, tzy_39, tzy_40, tzc_60, tzc_320, tzc_5, tzc_4, tzc_8]
        refine tc_i (D := 8 + q) (fun d' hd' => o_values q hV1 (by omega) (by omega) (by omega) hd') (by omega) ?_
        rintro z2 M2 ⟨p2, r2⟩
        have hy2 := st M1 M2 _ hy1 (by omega) r2
        have hf2 : M2 664 11 = f + 3 := r2.2.trans hf1
        have hV2 : VI M2 D (f + 3) b s := sl_st hV hy2 (fun _ q => q) hf2 (by omega)
        try simp only [kb_X12_slopes_733, w_ald_0, w_ild5, w_ild8, w_iv2, tfr_0, tfr_1, tfr_2, tfr_3, tfr_4, w_ist7, tkl_n, tkl_i, tkl_l, tkl_r, w_ild7, w_if_ne, w_bi, w_iv3, w_nil, true_and, and_true, Nat.reduceAdd, Nat.reduceSub, eq_self, tshm_14, tshm_31, tshm_32, tykm_31, tykm_32, tci_15, tci_960, tykm_14, tci_14, tshm_667, tshm_668, tshm_669, tshm_670, tykm_33, tci_700, tsn_671, tyn_17, tcn_10, tzs_672, tzs_673, tzs_680, tzs_681, tzs_682, tzs_683, tzs_684, tzs_685, tzs_686, tzs_687, tzs_688, tzs_689, tzy_15, tzy_35, tzy_36, tzy_37, tzy_38, tzy_39, tzy_40, tzc_60, tzc_320, tzc_5, tzc_4, tzc_8]
        have hz2 := p2.1
        have hzr2 := z3_r hz2
        refine ⟨by omega, fun h => n760 c u hcr hu M2 z2 hz2 hy2 hf2 (fun q => absurd q h), fun h => ?_⟩
        have hO := p2.2 (by omega)
        change OB M2 (f + 1) at hO
        refine tc_i (D := 7) (fun d' hd' => o_rising hV2.1 (by omega) (by omega) hO (by omega) hd') (by omega) ?_
        rintro z3 M3 ⟨p3, r3⟩
        have hy3 := st M2 M3 _ hy2 (by omega) r3
        have hf3 : M3 664 11 = f + 3 := r3.2.trans hf2
        try simp only [kb_X12_slopes_733, w_ald_0, w_ild5, w_ild8, w_iv2, tfr_0, tfr_1, tfr_2, tfr_3, tfr_4, w_ist7, tkl_n, tkl_i, tkl_l, tkl_r, w_ild7, w_if_ne, w_bi, w_iv3, w_nil, true_and, and_true, Nat.reduceAdd, Nat.reduceSub, eq_self, tshm_14, tshm_31, tshm_32, tykm_31, tykm_32, tci_15, tci_960, tykm_14, tci_14, tshm_667, tshm_668, tshm_669, tshm_670, tykm_33, tci_700, tsn_671, tyn_17, tcn_10, tzs_672, tzs_673, tzs_680, tzs_681, tzs_682, tzs_683, tzs_684, tzs_685, tzs_686, tzs_687, tzs_688, tzs_689, tzy_15, tzy_35, tzy_36, tzy_37, tzy_38, tzy_39, tzy_40, tzc_60, tzc_320, tzc_5, tzc_4, tzc_8]
        exact n760 c u hcr hu M3 z3 p3.1 hy3 hf3 (fun q => p3.2 q)
      have n819 : ∀ c u : Int, (0 ≤ c ∧ c < 65536) → (b ≤ u ∧ u < p) → ∀ (M1 : tM) (z : Int), (z = 0 ∨ z = 1 ∨ z = 2) → yE (fun r => f ≤ r) M M1 → M1 664 11 = f + 3 → (z = 0 → OB M1 (f) ∧ OB M1 (f + 1)) → tT e d 3710 819 [some (.inr (.inr (.inl 664))), some (.inl (to)), some (.inl (p)), some (.inl (c)), some (.inl (f)), some (.inl (f + 1)), some (.inl (f + 2)), some (.inl (z)), some (.inl (u))] [] M1 n (tQi n (fun z M' => OK3 z M' to ∧ xE (toF to f) M M')) := by
        intro c u hcr hu M1 z hz hy1 hf1 hO
        have hzr := z3_r hz
        have hV1 : VI M1 D (f + 3) b s := sl_st hV hy1 (fun _ q => q) hf1 (by omega)
        refine tb_X12_slopes_819 (c := false) ?_
        simp only [kb_X12_slopes_819, w_ild7, w_if_ne, w_ald_0, w_ild_1, w_ild4, w_ild5, w_iv3, tfr_0, tfr_1, tfr_2, tfr_3, tfr_4, w_ist7, tkl_n, tkl_i, tkl_l, tkl_r, w_goto, true_and, and_true, Nat.reduceAdd, Nat.reduceSub, eq_self, tshm_14, tshm_31, tshm_32, tykm_31, tykm_32, tci_15, tci_960, tykm_14, tci_14, tshm_667, tshm_668, tshm_669, tshm_670, tykm_33, tci_700, tsn_671, tyn_17, tcn_10, tzs_672, tzs_673, tzs_680, tzs_681, tzs_682, tzs_683, tzs_684, tzs_685, tzs_686, tzs_687, tzs_688, tzs_689, tzy_15, tzy_35, tzy_36, tzy_37, tzy_38, tzy_39, tzy_40, tzc_60, tzc_320, tzc_5, tzc_4, tzc_8]
        refine ⟨by omega, fun h => n926 _ _ M1 z ⟨hz, fun q => absurd q h⟩ (yE_mono hy1 (fun _ q => Or.inr q)) hf1, fun h => ?_⟩
        have hO := hO (by omega)
        refine tc_i (D := 6) (fun d' hd' => o_quotient hV1.1 (by omega) (by omega) (by omega) (hO.2) hd') (by omega) ?_
        rintro z2 M2 ⟨p2, r2⟩
        try simp only [kb_X12_slopes_819, w_ild7, w_if_ne, w_ald_0, w_ild_1, w_ild4, w_ild5, w_iv3, tfr_0, tfr_1, tfr_2, tfr_3, tfr_4, w_ist7, tkl_n, tkl_i, tkl_l, tkl_r, w_goto, true_and, and_true, Nat.reduceAdd, Nat.reduceSub, eq_self, tshm_14, tshm_31, tshm_32, tykm_31, tykm_32, tci_15, tci_960, tykm_14, tci_14, tshm_667, tshm_668, tshm_669, tshm_670, tykm_33, tci_700, tsn_671, tyn_17, tcn_10, tzs_672, tzs_673, tzs_680, tzs_681, tzs_682, tzs_683, tzs_684, tzs_685, tzs_686, tzs_687, tzs_688, tzs_689, tzy_15, tzy_35, tzy_36, tzy_37, tzy_38, tzy_39, tzy_40, tzc_60, tzc_320, tzc_5, tzc_4, tzc_8]
        exact n926 _ _ M2 z2 p2 (fin M1 M2 hy1 r2) (r2.2.trans hf1)
      have n794 : ∀ c u : Int, (0 ≤ c ∧ c < 65536) → (b ≤ u ∧ u < p) → ∀ M1 : tM, yE (fun r => f ≤ r) M M1 → M1 664 11 = f + 3 → tT e d 3710 794 [some (.inr (.inr (.inl 664))), some (.inl (to)), some (.inl (p)), some (.inl (c)), some (.inl (f)), some (.inl (f + 1)), some (.inl (f + 2)), some (.inl (0)), some (.inl (u))] [] M1 n (tQi n (fun z M' => OK3 z M' to ∧ xE (toF to f) M M')) := by
        intro c u hcr hu M1 hy1 hf1
        have hV1 : VI M1 D (f + 3) b s := sl_st hV hy1 (fun _ q => q) hf1 (by omega)
        refine tb_X12_slopes_794 (c := false) ?_
        simp only [kb_X12_slopes_794, w_ald_0, w_ild4, w_ild8, w_iv2, tfr_0, tfr_1, tfr_2, tfr_3, tfr_4, w_ist7, tkl_n, tkl_i, tkl_l, tkl_r, w_ild7, w_if_ne, w_ild5, w_nil, true_and, and_true, Nat.reduceAdd, Nat.reduceSub, eq_self, tshm_14, tshm_31, tshm_32, tykm_31, tykm_32, tci_15, tci_960, tykm_14, tci_14, tshm_667, tshm_668, tshm_669, tshm_670, tykm_33, tci_700, tsn_671, tyn_17, tcn_10, tzs_672, tzs_673, tzs_680, tzs_681, tzs_682, tzs_683, tzs_684, tzs_685, tzs_686, tzs_687, tzs_688, tzs_689, tzy_15, tzy_35, tzy_36, tzy_37, tzy_38, tzy_39, tzy_40, tzc_60, tzc_320, tzc_5, tzc_4, tzc_8]
        refine tc_i (D := 9 + q) (fun d' hd' => ih hV1 (by omega) (by omega) (by omega) hd') (by omega) ?_
        rintro z2 M2 ⟨p2, r2⟩
        have hy2 := st M1 M2 _ hy1 (by omega) r2
        have hf2 : M2 664 11 = f + 3 := r2.2.trans hf1
        have hV2 : VI M2 D (f + 3) b s := sl_st hV hy2 (fun _ q => q) hf2 (by omega)
        try simp only [kb_X12_slopes_794, w_ald_0, w_ild4, w_ild8, w_iv2, tfr_0, tfr_1, tfr_2, tfr_3, tfr_4, w_ist7, tkl_n, tkl_i, tkl_l, tkl_r, w_ild7, w_if_ne, w_ild5, w_nil, true_and, and_true, Nat.reduceAdd, Nat.reduceSub, eq_self, tshm_14, tshm_31, tshm_32, tykm_31, tykm_32, tci_15, tci_960, tykm_14, tci_14, tshm_667, tshm_668, tshm_669, tshm_670, tykm_33, tci_700, tsn_671, tyn_17, tcn_10, tzs_672, tzs_673, tzs_680, tzs_681, tzs_682, tzs_683, tzs_684, tzs_685, tzs_686, tzs_687, tzs_688, tzs_689, tzy_15, tzy_35, tzy_36, tzy_37, tzy_38, tzy_39, tzy_40, tzc_60, tzc_320, tzc_5, tzc_4, tzc_8]
        have hz2 := p2.1
        have hzr2 := z3_r hz2
        refine ⟨by omega, fun h => n819 c u hcr hu M2 z2 hz2 hy2 hf2 (fun q => absurd q h), fun h => ?_⟩
        have hO := p2.2 (by omega)
        change OB M2 (f) at hO
        refine tc_i (D := 8 + q) (fun d' hd' => o_values q hV2 (by omega) (by omega) (by omega) hd') (by omega) ?_
        rintro z3 M3 ⟨p3, r3⟩
        have hy3 := st M2 M3 _ hy2 (by omega) r3
        have hf3 : M3 664 11 = f + 3 := r3.2.trans hf2
        try simp only [kb_X12_slopes_794, w_ald_0, w_ild4, w_ild8, w_iv2, tfr_0, tfr_1, tfr_2, tfr_3, tfr_4, w_ist7, tkl_n, tkl_i, tkl_l, tkl_r, w_ild7, w_if_ne, w_ild5, w_nil, true_and, and_true, Nat.reduceAdd, Nat.reduceSub, eq_self, tshm_14, tshm_31, tshm_32, tykm_31, tykm_32, tci_15, tci_960, tykm_14, tci_14, tshm_667, tshm_668, tshm_669, tshm_670, tykm_33, tci_700, tsn_671, tyn_17, tcn_10, tzs_672, tzs_673, tzs_680, tzs_681, tzs_682, tzs_683, tzs_684, tzs_685, tzs_686, tzs_687, tzs_688, tzs_689, tzy_15, tzy_35, tzy_36, tzy_37, tzy_38, tzy_39, tzy_40, tzc_60, tzc_320, tzc_5, tzc_4, tzc_8]
        exact n819 c u hcr hu M3 z3 p3.1 hy3 hf3 (fun q => ⟨OB_x r3 hO (by omega) (by omega), p3.2 q⟩)
      have n910 : ∀ c u : Int, (0 ≤ c ∧ c < 65536) → (b ≤ u ∧ u < p) → ∀ (M1 : tM) (z : Int), (z = 0 ∨ z = 1 ∨ z = 2) → yE (fun r => f ≤ r) M M1 → M1 664 11 = f + 3 → (z = 0 → OB M1 (f) ∧ OB M1 (f + 1) ∧ OB M1 (f + 2)) → tT e d 3710 910 [some (.inr (.inr (.inl 664))), some (.inl (to)), some (.inl (p)), some (.inl (c)), some (.inl (f)), some (.inl (f + 1)), some (.inl (f + 2)), some (.inl (z)), some (.inl (u))] [] M1 n (tQi n (fun z M' => OK3 z M' to ∧ xE (toF to f) M M')) := by
        intro c u hcr hu M1 z hz hy1 hf1 hO
        have hzr := z3_r hz
        have hV1 : VI M1 D (f + 3) b s := sl_st hV hy1 (fun _ q => q) hf1 (by omega)
        refine tb_X12_slopes_910 (c := false) ?_
        simp only [kb_X12_slopes_910, w_ild7, w_if_ne, w_ald_0, w_ild_1, w_ild4, w_ild5, w_iv3, tfr_0, tfr_1, tfr_2, tfr_3, tfr_4, w_ist7, tkl_n, tkl_i, tkl_l, tkl_r, w_nil, true_and, and_true, Nat.reduceAdd, Nat.reduceSub, eq_self, tshm_14, tshm_31, tshm_32, tykm_31, tykm_32, tci_15, tci_960, tykm_14, tci_14, tshm_667, tshm_668, tshm_669, tshm_670, tykm_33, tci_700, tsn_671, tyn_17, tcn_10, tzs_672, tzs_673, tzs_680, tzs_681, tzs_682, tzs_683, tzs_684, tzs_685, tzs_686, tzs_687, tzs_688, tzs_689, tzy_15, tzy_35, tzy_36, tzy_37, tzy_38, tzy_39, tzy_40, tzc_60, tzc_320, tzc_5, tzc_4, tzc_8]
        refine ⟨by omega, fun h => n926 _ _ M1 z ⟨hz, fun q => absurd q h⟩ (yE_mono hy1 (fun _ q => Or.inr q)) hf1, fun h => ?_⟩
        have hO := hO (by omega)
        refine tc_i (D := 6) (fun d' hd' => o_quotient hV1.1 (by omega) (by omega) (by omega) (hO.2.1) hd') (by omega) ?_
        rintro z2 M2 ⟨p2, r2⟩
        try simp only [kb_X12_slopes_910, w_ild7, w_if_ne, w_ald_0, w_ild_1, w_ild4, w_ild5, w_iv3, tfr_0, tfr_1, tfr_2, tfr_3, tfr_4, w_ist7, tkl_n, tkl_i, tkl_l, tkl_r, w_nil, true_and, and_true, Nat.reduceAdd, Nat.reduceSub, eq_self, tshm_14, tshm_31, tshm_32, tykm_31, tykm_32, tci_15, tci_960, tykm_14, tci_14, tshm_667, tshm_668, tshm_669, tshm_670, tykm_33, tci_700, tsn_671, tyn_17, tcn_10, tzs_672, tzs_673, tzs_680, tzs_681, tzs_682, tzs_683, tzs_684, tzs_685, tzs_686, tzs_687, tzs_688, tzs_689, tzy_15, tzy_35, tzy_36, tzy_37, tzy_38, tzy_39, tzy_40, tzc_60, tzc_320, tzc_5, tzc_4, tzc_8]
        exact n926 _ _ M2 z2 p2 (fin M1 M2 hy1 r2) (r2.2.trans hf1)
      have n893 : ∀ c u : Int, (0 ≤ c ∧ c < 65536) → (b ≤ u ∧ u < p) → ∀ (M1 : tM) (z : Int), (z = 0 ∨ z = 1 ∨ z = 2) → yE (fun r => f ≤ r) M M1 → M1 664 11 = f + 3 → (z = 0 → OB M1 (f) ∧ OB M1 (f + 1) ∧ OB M1 (f + 2)) → tT e d 3710 893 [some (.inr (.inr (.inl 664))), some (.inl (to)), some (.inl (p)), some (.inl (c)), some (.inl (f)), some (.inl (f + 1)), some (.inl (f + 2)), some (.inl (z)), some (.inl (u))] [] M1 n (tQi n (fun z M' => OK3 z M' to ∧ xE (toF to f) M M')) := by
        intro c u hcr hu M1 z hz hy1 hf1 hO
        have hzr := z3_r hz
        have hV1 : VI M1 D (f + 3) b s := sl_st hV hy1 (fun _ q => q) hf1 (by omega)
        refine tb_X12_slopes_893 (c := false) ?_
        simp only [kb_X12_slopes_893, w_ild7, w_if_ne, w_ald_0, w_ild5, w_ild6, w_iv3, tfr_0, tfr_1, tfr_2, tfr_3, tfr_4, w_ist7, tkl_n, tkl_i, tkl_l, tkl_r, w_nil, true_and, and_true, Nat.reduceAdd, Nat.reduceSub, eq_self, tshm_14, tshm_31, tshm_32, tykm_31, tykm_32, tci_15, tci_960, tykm_14, tci_14, tshm_667, tshm_668, tshm_669, tshm_670, tykm_33, tci_700, tsn_671, tyn_17, tcn_10, tzs_672, tzs_673, tzs_680, tzs_681, tzs_682, tzs_683, tzs_684, tzs_685, tzs_686, tzs_687, tzs_688, tzs_689, tzy_15, tzy_35, tzy_36, tzy_37, tzy_38, tzy_39, tzy_40, tzc_60, tzc_320, tzc_5, tzc_4, tzc_8]
        refine ⟨by omega, fun h => n910 c u hcr hu M1 z hz hy1 hf1 (fun q => absurd q h), fun h => ?_⟩
        have hO := hO (by omega)
        refine tc_i (D := 3) (fun d' hd' => o_sum hV1.1 (by omega) (by omega) (by omega) (hO.2.2) (hO.2.1) hd') (by omega) ?_
        rintro z2 M2 ⟨p2, r2⟩
        have hy2 := st M1 M2 _ hy1 (by omega) r2
        have hf2 : M2 664 11 = f + 3 := r2.2.trans hf1
        try simp only [kb_X12_slopes_893, w_ild7, w_if_ne, w_ald_0, w_ild5, w_ild6, w_iv3, tfr_0, tfr_1, tfr_2, tfr_3, tfr_4, w_ist7, tkl_n, tkl_i, tkl_l, tkl_r, w_nil, true_and, and_true, Nat.reduceAdd, Nat.reduceSub, eq_self, tshm_14, tshm_31, tshm_32, tykm_31, tykm_32, tci_15, tci_960, tykm_14, tci_14, tshm_667, tshm_668, tshm_669, tshm_670, tykm_33, tci_700, tsn_671, tyn_17, tcn_10, tzs_672, tzs_673, tzs_680, tzs_681, tzs_682, tzs_683, tzs_684, tzs_685, tzs_686, tzs_687, tzs_688, tzs_689, tzy_15, tzy_35, tzy_36, tzy_37, tzy_38, tzy_39, tzy_40, tzc_60, tzc_320, tzc_5, tzc_4, tzc_8]
        exact n910 c u hcr hu M2 z2 p2.1 hy2 hf2 (fun q => ⟨OB_x r2 hO.1 (by omega) (by omega), p2.2 q, OB_x r2 hO.2.2 (by omega) (by omega)⟩)
      have n879 : ∀ c u : Int, (0 ≤ c ∧ c < 65536) → (b ≤ u ∧ u < p) → ∀ (M1 : tM) (z : Int), (z = 0 ∨ z = 1 ∨ z = 2) → yE (fun r => f ≤ r) M M1 → M1 664 11 = f + 3 → (z = 0 → OB M1 (f) ∧ OB M1 (f + 1)) → tT e d 3710 879 [some (.inr (.inr (.inl 664))), some (.inl (to)), some (.inl (p)), some (.inl (c)), some (.inl (f)), some (.inl (f + 1)), some (.inl (f + 2)), some (.inl (z)), some (.inl (u))] [] M1 n (tQi n (fun z M' => OK3 z M' to ∧ xE (toF to f) M M')) := by
        intro c u hcr hu M1 z hz hy1 hf1 hO
        have hzr := z3_r hz
        have hV1 : VI M1 D (f + 3) b s := sl_st hV hy1 (fun _ q => q) hf1 (by omega)
        refine tb_X12_slopes_879 (c := false) ?_
        simp only [kb_X12_slopes_879, w_ild7, w_if_ne, w_ald_0, w_ild6, w_lc1, w_iv2, tfr_0, tfr_1, tfr_2, tfr_3, tfr_4, w_ist7, tkl_n, tkl_i, tkl_l, tkl_r, w_nil, true_and, and_true, Nat.reduceAdd, Nat.reduceSub, eq_self, tshm_14, tshm_31, tshm_32, tykm_31, tykm_32, tci_15, tci_960, tykm_14, tci_14, tshm_667, tshm_668, tshm_669, tshm_670, tykm_33, tci_700, tsn_671, tyn_17, tcn_10, tzs_672, tzs_673, tzs_680, tzs_681, tzs_682, tzs_683, tzs_684, tzs_685, tzs_686, tzs_687, tzs_688, tzs_689, tzy_15, tzy_35, tzy_36, tzy_37, tzy_38, tzy_39, tzy_40, tzc_60, tzc_320, tzc_5, tzc_4, tzc_8]
        refine ⟨by omega, fun h => n893 c u hcr hu M1 z hz hy1 hf1 (fun q => absurd q h), fun h => ?_⟩
        have hO := hO (by omega)
        refine tc_i (D := 6) (fun d' hd' => o_whole (v := 1) hV1.1 (by omega) (by omega) hd') (by omega) ?_
        rintro z2 M2 ⟨p2, r2⟩
        have hy2 := st M1 M2 _ hy1 (by omega) r2
        have hf2 : M2 664 11 = f + 3 := r2.2.trans hf1
        try simp only [kb_X12_slopes_879, w_ild7, w_if_ne, w_ald_0, w_ild6, w_lc1, w_iv2, tfr_0, tfr_1, tfr_2, tfr_3, tfr_4, w_ist7, tkl_n, tkl_i, tkl_l, tkl_r, w_nil, true_and, and_true, Nat.reduceAdd, Nat.reduceSub, eq_self, tshm_14, tshm_31, tshm_32, tykm_31, tykm_32, tci_15, tci_960, tykm_14, tci_14, tshm_667, tshm_668, tshm_669, tshm_670, tykm_33, tci_700, tsn_671, tyn_17, tcn_10, tzs_672, tzs_673, tzs_680, tzs_681, tzs_682, tzs_683, tzs_684, tzs_685, tzs_686, tzs_687, tzs_688, tzs_689, tzy_15, tzy_35, tzy_36, tzy_37, tzy_38, tzy_39, tzy_40, tzc_60, tzc_320, tzc_5, tzc_4, tzc_8]
        exact n893 c u hcr hu M2 z2 p2.1 hy2 hf2 (fun q => ⟨OB_x r2 hO.1 (by omega) (by omega), OB_x r2 hO.2 (by omega) (by omega), p2.2 q⟩)
      have n863 : ∀ c u : Int, (0 ≤ c ∧ c < 65536) → (b ≤ u ∧ u < p) → ∀ (M1 : tM) (z : Int), (z = 0 ∨ z = 1 ∨ z = 2) → yE (fun r => f ≤ r) M M1 → M1 664 11 = f + 3 → (z = 0 → OB M1 (f) ∧ OB M1 (f + 1)) → tT e d 3710 863 [some (.inr (.inr (.inl 664))), some (.inl (to)), some (.inl (p)), some (.inl (c)), some (.inl (f)), some (.inl (f + 1)), some (.inl (f + 2)), some (.inl (z)), some (.inl (u))] [] M1 n (tQi n (fun z M' => OK3 z M' to ∧ xE (toF to f) M M')) := by
        intro c u hcr hu M1 z hz hy1 hf1 hO
        have hzr := z3_r hz
        have hV1 : VI M1 D (f + 3) b s := sl_st hV hy1 (fun _ q => q) hf1 (by omega)
        refine tb_X12_slopes_863 (c := false) ?_
        simp only [kb_X12_slopes_863, w_ild7, w_if_ne, w_ald_0, w_ild5, w_ic, w_iv3, tfr_0, tfr_1, tfr_2, tfr_3, tfr_4, w_ist7, tkl_n, tkl_i, tkl_l, tkl_r, w_nil, true_and, and_true, Nat.reduceAdd, Nat.reduceSub, eq_self, tshm_14, tshm_31, tshm_32, tykm_31, tykm_32, tci_15, tci_960, tykm_14, tci_14, tshm_667, tshm_668, tshm_669, tshm_670, tykm_33, tci_700, tsn_671, tyn_17, tcn_10, tzs_672, tzs_673, tzs_680, tzs_681, tzs_682, tzs_683, tzs_684, tzs_685, tzs_686, tzs_687, tzs_688, tzs_689, tzy_15, tzy_35, tzy_36, tzy_37, tzy_38, tzy_39, tzy_40, tzc_60, tzc_320, tzc_5, tzc_4, tzc_8]
        refine ⟨by omega, fun h => n879 c u hcr hu M1 z hz hy1 hf1 (fun q => absurd q h), fun h => ?_⟩
        have hO := hO (by omega)
        refine tc_i (D := 5) (fun d' hd' => o_lifted (k := 2) hV1.1 (by omega) (by omega) (hO.2) (by omega) hd') (by omega) ?_
        rintro z2 M2 ⟨p2, r2⟩
        have hy2 := st M1 M2 _ hy1 (by omega) r2
        have hf2 : M2 664 11 = f + 3 := r2.2.trans hf1
        try simp only [kb_X12_slopes_863, w_ild7, w_if_ne, w_ald_0, w_ild5, w_ic, w_iv3, tfr_0, tfr_1, tfr_2, tfr_3, tfr_4, w_ist7, tkl_n, tkl_i, tkl_l, tkl_r, w_nil, true_and, and_true, Nat.reduceAdd, Nat.reduceSub, eq_self, tshm_14, tshm_31, tshm_32, tykm_31, tykm_32, tci_15, tci_960, tykm_14, tci_14, tshm_667, tshm_668, tshm_669, tshm_670, tykm_33, tci_700, tsn_671, tyn_17, tcn_10, tzs_672, tzs_673, tzs_680, tzs_681, tzs_682, tzs_683, tzs_684, tzs_685, tzs_686, tzs_687, tzs_688, tzs_689, tzy_15, tzy_35, tzy_36, tzy_37, tzy_38, tzy_39, tzy_40, tzc_60, tzc_320, tzc_5, tzc_4, tzc_8]
        exact n879 c u hcr hu M2 z2 p2.1 hy2 hf2 (fun q => ⟨OB_x r2 hO.1 (by omega) (by omega), p2.2 q⟩)
      have n838 : ∀ c u : Int, (0 ≤ c ∧ c < 65536) → (b ≤ u ∧ u < p) → ∀ M1 : tM, yE (fun r => f ≤ r) M M1 → M1 664 11 = f + 3 → tT e d 3710 838 [some (.inr (.inr (.inl 664))), some (.inl (to)), some (.inl (p)), some (.inl (c)), some (.inl (f)), some (.inl (f + 1)), some (.inl (f + 2)), some (.inl (0)), some (.inl (u))] [] M1 n (tQi n (fun z M' => OK3 z M' to ∧ xE (toF to f) M M')) := by
        intro c u hcr hu M1 hy1 hf1
        have hV1 : VI M1 D (f + 3) b s := sl_st hV hy1 (fun _ q => q) hf1 (by omega)
        refine tb_X12_slopes_838 (c := false) ?_
        simp only [kb_X12_slopes_838, w_ald_0, w_ild4, w_ild8, w_iv2, tfr_0, tfr_1, tfr_2, tfr_3, tfr_4, w_ist7, tkl_n, tkl_i, tkl_l, tkl_r, w_ild7, w_if_ne, w_ild5, w_nil, true_and, and_true, Nat.reduceAdd, Nat.reduceSub, eq_self, tshm_14, tshm_31, tshm_32, tykm_31, tykm_32, tci_15, tci_960, tykm_14, tci_14, tshm_667, tshm_668, tshm_669, tshm_670, tykm_33, tci_700, tsn_671, tyn_17, tcn_10, tzs_672, tzs_673, tzs_680, tzs_681, tzs_682, tzs_683, tzs_684, tzs_685, tzs_686, tzs_687, tzs_688, tzs_689, tzy_15, tzy_35, tzy_36, tzy_37, tzy_38, tzy_39, tzy_40, tzc_60, tzc_320, tzc_5, tzc_4, tzc_8]
        refine tc_i (D := 9 + q) (fun d' hd' => ih hV1 (by omega) (by omega) (by omega) hd') (by omega) ?_
        rintro z2 M2 ⟨p2, r2⟩
        have hy2 := st M1 M2 _ hy1 (by omega) r2
        have hf2 : M2 664 11 = f + 3 := r2.2.trans hf1
        have hV2 : VI M2 D (f + 3) b s := sl_st hV hy2 (fun _ q => q) hf2 (by omega)
        try simp only [kb_X12_slopes_838, w_ald_0, w_ild4, w_ild8, w_iv2, tfr_0, tfr_1, tfr_2, tfr_3, tfr_4, w_ist7, tkl_n, tkl_i, tkl_l, tkl_r, w_ild7, w_if_ne, w_ild5, w_nil, true_and, and_true, Nat.reduceAdd, Nat.reduceSub, eq_self, tshm_14, tshm_31, tshm_32, tykm_31, tykm_32, tci_15, tci_960, tykm_14, tci_14, tshm_667, tshm_668, tshm_669, tshm_670, tykm_33, tci_700, tsn_671, tyn_17, tcn_10, tzs_672, tzs_673, tzs_680, tzs_681, tzs_682, tzs_683, tzs_684, tzs_685, tzs_686, tzs_687, tzs_688, tzs_689, tzy_15, tzy_35, tzy_36, tzy_37, tzy_38, tzy_39, tzy_40, tzc_60, tzc_320, tzc_5, tzc_4, tzc_8]
        have hz2 := p2.1
        have hzr2 := z3_r hz2
        refine ⟨by omega, fun h => n863 c u hcr hu M2 z2 hz2 hy2 hf2 (fun q => absurd q h), fun h => ?_⟩
        have hO := p2.2 (by omega)
        change OB M2 (f) at hO
        refine tc_i (D := 8 + q) (fun d' hd' => o_values q hV2 (by omega) (by omega) (by omega) hd') (by omega) ?_
        rintro z3 M3 ⟨p3, r3⟩
        have hy3 := st M2 M3 _ hy2 (by omega) r3
        have hf3 : M3 664 11 = f + 3 := r3.2.trans hf2
        try simp only [kb_X12_slopes_838, w_ald_0, w_ild4, w_ild8, w_iv2, tfr_0, tfr_1, tfr_2, tfr_3, tfr_4, w_ist7, tkl_n, tkl_i, tkl_l, tkl_r, w_ild7, w_if_ne, w_ild5, w_nil, true_and, and_true, Nat.reduceAdd, Nat.reduceSub, eq_self, tshm_14, tshm_31, tshm_32, tykm_31, tykm_32, tci_15, tci_960, tykm_14, tci_14, tshm_667, tshm_668, tshm_669, tshm_670, tykm_33, tci_700, tsn_671, tyn_17, tcn_10, tzs_672, tzs_673, tzs_680, tzs_681, tzs_682, tzs_683, tzs_684, tzs_685, tzs_686, tzs_687, tzs_688, tzs_689, tzy_15, tzy_35, tzy_36, tzy_37, tzy_38, tzy_39, tzy_40, tzc_60, tzc_320, tzc_5, tzc_4, tzc_8]
        exact n863 c u hcr hu M3 z3 p3.1 hy3 hf3 (fun q => ⟨OB_x r3 hO (by omega) (by omega), p3.2 q⟩)
      intro c1 c2 c3 c4 c5
      have hu : b ≤ M 681 p ∧ M 681 p < p := by unfold FN at hFN; omega
      have hr : M 680 p = 43 ∨ M 680 p = 45 ∨ M 680 p = 42 ∨ M 680 p = 47 → b ≤ M 682 p ∧ M 682 p < p := by unfold FN at hFN; omega
      have hk : M 680 p = 94 → 1 ≤ M 682 p ∧ M 682 p ≤ 9 := by unfold FN at hFN; omega
      have hcr : 0 ≤ M 680 p ∧ M 680 p < 65536 := by unfold FN at hFN; omega
      clear hFN
      generalize M 680 p = c at hr hk hcr c1 c2 c3 c4 c5 ⊢
      generalize hu0 : M 681 p = u at hu
      have hy0 : yE (fun r => f ≤ r) M (tU M 664 11 (f + 3)) := yE_free
      have e81 : tU M 664 11 (f + 3) 681 p = u := (tU_nk (by decide)).trans hu0
      have k0 : tU M 664 11 (f + 3) 664 11 = f + 3 := tU_eq ..
      refine tb_X12_slopes_66 (c := false) ?_
      simp (disch := decide) only [kb_X12_slopes_66, w_ald_0, w_gf_14_11, tw_f, w_ist4, tkl_n, tkl_i, tkl_l, tkl_r, w_ic, w_iadd, w_ist5, w_ist6, w_dupi, w_dupr, w_pf_14_11, w_ist7, w_gf_14_27, w_ild_2, w_ia, w_iax, w_ist8, w_ild_3, w_sw, tsw, true_and, and_true, Nat.reduceAdd, Nat.reduceSub, eq_self, tshm_14, tshm_31, tshm_32, tykm_31, tykm_32, tci_15, tci_960, tykm_14, tci_14, tshm_667, tshm_668, tshm_669, tshm_670, tykm_33, tci_700, tsn_671, tyn_17, tcn_10, tzs_672, tzs_673, tzs_680, tzs_681, tzs_682, tzs_683, tzs_684, tzs_685, tzs_686, tzs_687, tzs_688, tzs_689, tzy_15, tzy_35, tzy_36, tzy_37, tzy_38, tzy_39, tzy_40, tzc_60, tzc_320, tzc_5, tzc_4, tzc_8, hf3, hu0, tU_nk, tU_ni, tU_eq]
      generalize tU M 664 11 (f + 3) = M0 at hy0 e81 k0 ⊢
      refine ⟨by omega, by omega, ?_⟩
      have npm : (c = 43 ∨ c = 45) → tT e d 3710 192 [some (.inr (.inr (.inl 664))), some (.inl (to)), some (.inl (p)), some (.inl (c)), some (.inl (f)), some (.inl (f + 1)), some (.inl (f + 2)), some (.inl (0)), some (.inl (u))] [] M0 n (tQi n (fun z M' => OK3 z M' to ∧ xE (toF to f) M M')) := fun g => n192 c u hcr hu (hr (by omega)) M0 hy0 k0
      refine ⟨fun g => n241 c u hcr hu (hr (by omega)) M0 hy0 k0, fun g1 => ⟨fun g => npm (by omega), fun g2 => ⟨fun g => npm (by omega), fun g3 => ⟨fun g => n357 c u hcr hu (hr (by omega)) M0 hy0 k0, fun g4 => ⟨fun g => ?_, fun g5 => ⟨fun g => n733 c u hcr hu M0 hy0 k0, fun g6 => ⟨fun g => n794 c u hcr hu M0 hy0 k0, fun g7 => ⟨fun g => n613 c u hcr hu M0 hy0 k0, fun g8 => ⟨fun g => n640 c u hcr hu M0 hy0 k0, fun g9 => n838 c u hcr hu M0 hy0 k0⟩⟩⟩⟩⟩⟩⟩⟩⟩
      obtain ⟨k, hk2⟩ : ∃ k : Nat, M 682 p = ((k + 1 : Nat) : Int) := ⟨(M 682 p - 1).toNat, by have := hk g; omega⟩
      exact n509 c u hcr hu k hk2 (by have := hk g; omega) M0 hy0 k0
    have n49 : M 680 p ≠ 49 → M 680 p ≠ 112 → M 680 p ≠ 121 → ¬ (M 680 p = 94 ∧ M 682 p = 0) → tT e d 3710 49 [some (.inr (.inr (.inl 664))), some (.inl (to)), some (.inl (p)), some (.inl (M 680 p)), none, none, none, none, none] [] M n (tQi n (fun z M' => OK3 z M' to ∧ xE (toF to f) M M')) := by
      intro c1 c2 c3 c4
      refine tb_X12_slopes_49 (c := false) ?_
      simp only [kb_X12_slopes_49, w_ild_3, w_bi, w_ic_ne, w_ald_0, w_ild_1, w_ld2, w_lc0, w_iv3, tfr_0, tfr_1, tfr_2, tfr_3, tfr_4, w_ic, w_ire, trg, true_and, and_true, Nat.reduceAdd, Nat.reduceSub, eq_self, tshm_14, tshm_31, tshm_32, tykm_31, tykm_32, tci_15, tci_960, tykm_14, tci_14, tshm_667, tshm_668, tshm_669, tshm_670, tykm_33, tci_700, tsn_671, tyn_17, tcn_10, tzs_672, tzs_673, tzs_680, tzs_681, tzs_682, tzs_683, tzs_684, tzs_685, tzs_686, tzs_687, tzs_688, tzs_689, tzy_15, tzy_35, tzy_36, tzy_37, tzy_38, tzy_39, tzy_40, tzc_60, tzc_320, tzc_5, tzc_4, tzc_8]
      refine ⟨by unfold FN at hFN; omega, fun g => n66 c1 c2 g c3 c4, fun g => ?_⟩
      refine tc_n (D := 1) (fun d' hd' => c_single (by omega) hd') (by omega) ?_
      rintro M1 rfl
      try simp only [kb_X12_slopes_49, w_ild_3, w_bi, w_ic_ne, w_ald_0, w_ild_1, w_ld2, w_lc0, w_iv3, tfr_0, tfr_1, tfr_2, tfr_3, tfr_4, w_ic, w_ire, trg, true_and, and_true, Nat.reduceAdd, Nat.reduceSub, eq_self, tshm_14, tshm_31, tshm_32, tykm_31, tykm_32, tci_15, tci_960, tykm_14, tci_14, tshm_667, tshm_668, tshm_669, tshm_670, tykm_33, tci_700, tsn_671, tyn_17, tcn_10, tzs_672, tzs_673, tzs_680, tzs_681, tzs_682, tzs_683, tzs_684, tzs_685, tzs_686, tzs_687, tzs_688, tzs_689, tzy_15, tzy_35, tzy_36, tzy_37, tzy_38, tzy_39, tzy_40, tzc_60, tzc_320, tzc_5, tzc_4, tzc_8]
      exact ⟨0, rfl, rfl, ⟨Or.inl rfl, fun _ => by unfold OB; rw [sing_lo, sing_hi]; omega⟩, sing_xE (Or.inl rfl) (by omega) (by omega)⟩
    refine tb_X12_slopes_0 (c := false) ?_
    simp only [kb_X12_slopes_0, w_ald_0, w_gf_14_26, tw_f, w_ild_2, w_ca, w_ist_3, tkl_n, tkl_i, tkl_l, tkl_r, w_ild_3, w_bi, w_ic_eq, w_ic_ne, w_gf_14_28, w_ia, w_iax, w_if_ne, w_nil, true_and, and_true, Nat.reduceAdd, Nat.reduceSub, eq_self, tshm_14, tshm_31, tshm_32, tykm_31, tykm_32, tci_15, tci_960, tykm_14, tci_14, tshm_667, tshm_668, tshm_669, tshm_670, tykm_33, tci_700, tsn_671, tyn_17, tcn_10, tzs_672, tzs_673, tzs_680, tzs_681, tzs_682, tzs_683, tzs_684, tzs_685, tzs_686, tzs_687, tzs_688, tzs_689, tzy_15, tzy_35, tzy_36, tzy_37, tzy_38, tzy_39, tzy_40, tzc_60, tzc_320, tzc_5, tzc_4, tzc_8]
    refine ⟨by omega, by unfold FN at hFN; omega, fun g => n40 _ _ _ _ _ _, fun g1 => ⟨by unfold FN at hFN; omega, fun g => n40 _ _ _ _ _ _, fun g2 => ⟨by unfold FN at hFN; omega, fun g => n40 _ _ _ _ _ _, fun g3 => ⟨by unfold FN at hFN; omega, fun g => n49 g1 g2 g3 (fun q => g q.1), fun g4 => ⟨by omega, by unfold FN at hFN; omega, fun g => n49 g1 g2 g3 (fun q => g q.2), fun g => n40 _ _ _ _ _ _⟩⟩⟩⟩⟩
end MODEL
