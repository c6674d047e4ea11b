/-! THE MODEL: looks and zeros. -/

/-- what looks change -/
def lV (f : Int) (M M' : tM) : Prop := (∀ (k : Nat) (i : Int), k ≠ 665 → k ≠ 666 → ¬ (k = 664 ∧ (i = 4 ∨ i = 5 ∨ i = 11 ∨ i = 12 ∨ i = 13 ∨ i = 14 ∨ i = 37 ∨ i = 38 ∨ i = 42)) → k ≠ 689 → ¬ (isB k ∧ ((20 ≤ i ∧ i < 28) ∨ f ≤ i)) → M' k i = M k i) ∧ (KI M → KI M') ∧ (BI M → BI M')
theorem lV_tr {f : Int} {M M1 M2 : tM} (h1 : lV f M M1) (h2 : lV f M1 M2) : lV f M M2 :=
  ⟨fun k i a b c g q => (h2.1 k i a b c g q).trans (h1.1 k i a b c g q), fun q => h2.2.1 (h1.2.1 q), fun q => h2.2.2 (h1.2.2 q)⟩
theorem lV_mono {f g : Int} {M M' : tM} (h : lV g M M') (hs : f ≤ g) : lV f M M' :=
  ⟨fun k i a b c g q => h.1 k i a b c g (fun z => q ⟨z.1, by have := z.2; omega⟩), h.2⟩
theorem lV_v {T : Int → Prop} {f : Int} {M M' : tM} (h : vE T M M') (hT : ∀ r, T r → (20 ≤ r ∧ r < 28) ∨ f ≤ r) : lV f M M' :=
  ⟨fun k i a b c g q => h.1 k i a b (by omega) (fun z => q ⟨z.1, hT _ z.2⟩), h.2⟩
theorem lV_k {f : Int} {M M' : tM} (h : lV f M M') (k : Nat) (i : Int) (hk : (k = 664 ∧ (i = 2 ∨ i = 3 ∨ 15 ≤ i ∧ i ≤ 36 ∨ 39 ≤ i ∧ i ≤ 41)) ∨ (671 ≤ k ∧ k ≠ 689) ∨ k < 664) : M' k i = M k i :=
  h.1 k i (by omega) (by omega) (by omega) (by omega) (fun q => by have := q.1; unfold isB at this; omega)
theorem OB_l {f b : Int} {M M' : tM} (ho : OB M b) (h : lV f M M') (h1 : ¬ (20 ≤ b ∧ b < 28)) (h2 : b < f) : OB M' b :=
  OB_same (fun k g => h.1 k b (by unfold isB at g; omega) (by unfold isB at g; omega) (by unfold isB at g; omega) (by unfold isB at g; omega) (fun q => by omega)) ho
theorem MB_l {M M1 : tM} {D : Nat} {f g x : Int} (h : MB M D f) (hx : lV x M M1) (h1 : M1 664 11 = g) (hg : 0 ≤ g ∧ g < 700) : MB M1 D g := by
  obtain ⟨a1, a2, a3, a4, a5, a6⟩ := h
  exact ⟨(lV_k hx 664 2 (by omega)).trans a1, a2, h1, hg, hx.2.2 a5, hx.2.1 a6⟩
theorem FI_l {M M1 : tM} {x : Int} (h : FI M) (hx : lV x M M1) : FI M1 := FI_same (fun k i g => lV_k hx k i (by omega)) h
def cN (M : tM) : Prop := ∀ i : Int, 0 ≤ i → i < 8 → 0 ≤ M 689 i ∧ M 689 i ≤ 65535
theorem lV_42 {f v : Int} {M : tM} : lV f M (tU M 664 42 v) := by
  have hk : ∀ (k : Nat) (i : Int), ¬ (k = 664 ∧ i = 42) → tU M 664 42 v k i = M k i := fun k i g => if_neg g
  exact ⟨fun k i _ _ c _ _ => hk k i (by omega), fun q => KI_k q (fun k i g => hk k i (by omega)), fun q => BI_same (fun k i g => hk k i (by unfold isB at g; omega)) q⟩
theorem lV_89 {f j v : Int} {M : tM} : lV f M (tU M 689 j v) := by
  have hk : ∀ (k : Nat) (i : Int), k ≠ 689 → tU M 689 j v k i = M k i := fun k i g => tU_nk g
  exact ⟨fun k i _ _ _ c _ => hk k i c, fun q => KI_k q (fun k i g => hk k i (by omega)), fun q => BI_same (fun k i g => hk k i (by unfold isB at g; omega)) q⟩
section MODEL
variable {e : tE} {D : Nat}
theorem o_looks {fo : Int} (hf : 0 ≤ fo ∧ fo ≤ 3) : ∀ (fu : Nat) {M : tM} {d n : Nat} {a f w cu : Int}, cu = (fu : Int) → (fu = 0 ∧ w = 1 ∨ fu = 1 ∧ w = 2 ∨ fu = 2 ∧ w = 4 ∨ fu = 3 ∧ w = 8) → MB M D f → FI M → M 687 fo ≠ 0 → (0 ≤ a ∧ a < f) → ¬ (20 ≤ a ∧ a < 28) → OB M a → (60 ≤ f ∧ f + 2 * (fu : Int) ≤ 480) → (0 ≤ M 664 42 ∧ M 664 42 + w ≤ 8) → cN M → cO M 20 → 74 + fu ≤ d → tC e d 3648 [.inr (.inr (.inl 664)), .inl fo, .inl a, .inl cu] M n (tQn n (fun M' => lV f M M' ∧ M' 664 11 = f ∧ (0 ≤ M' 664 42 ∧ M' 664 42 ≤ M 664 42 + w) ∧ cN M' ∧ cO M' 20)) := by
  intro fu
  induction fu with
  | zero =>
    intro M d n a f w cu hcu hw h hF hu ha ha2 oa hf2 hk hN hO hd
    have h3 := h.2.2.1
    refine tst_X12_looks ?_
    have n35 : ∀ (M1 : tM) (z : Int) (A : Option tV), (0 ≤ z ∧ z ≤ 65535) → lV f M M1 → M1 664 11 = f → M1 664 42 = M 664 42 → cN M1 → cO M1 20 → OB M1 a → bcan M1 a → tT e d 3648 35 [some (.inr (.inr (.inl 664))), some (.inl (fo)), some (.inl (a)), some (.inl (cu)), some (.inl (z)), A] [] M1 n (tQn n (fun M' => lV f M M' ∧ M' 664 11 = f ∧ (0 ≤ M' 664 42 ∧ M' 664 42 ≤ M 664 42 + w) ∧ cN M' ∧ cO M' 20)) := by
      intro M1 z A g0 g1 g2 g3 g4 g5 g6 g7
      refine tb_X12_looks_35 (c := false) ?_
      simp (disch := decide) only [kb_X12_looks_35, w_ald_0, w_gf_14_40, tw_f, w_gf_14_42, w_ild4, w_casz, w_ild_2, w_bi, w_iadd, w_iv2, tfr_0, tfr_1, tfr_2, tfr_3, tfr_4, w_dupi, w_dupr, w_ic, w_pf_14_42, w_re, true_and, and_true, Nat.reduceAdd, Nat.reduceSub, eq_self, tshm_14, tshm_31, tshm_32, tykm_31, tykm_32, tci_15, tci_960, tykm_14, tci_14, tshm_667, tshm_668, tshm_669, tshm_670, tykm_33, tci_700, tsn_671, tyn_17, tcn_10, tzs_672, tzs_673, tzs_680, tzs_681, tzs_682, tzs_683, tzs_684, tzs_685, tzs_686, tzs_687, tzs_688, tzs_689, tzy_15, tzy_35, tzy_36, tzy_37, tzy_38, tzy_39, tzy_40, tzc_60, tzc_320, tzc_5, tzc_4, tzc_8, g3, tU_nk, tU_ni, tU_eq]
      refine ⟨by omega, by omega, ?_⟩
      refine tc_n (D := 0) (fun d' hd' => c_takes (by omega) (by omega)) (by omega) ?_
      rintro M2 rfl
      have hM2 : xE (fun r => r = 20 + M 664 42) (tU M1 689 (M 664 42) z) (sTk (tU M1 689 (M 664 42) z) a (20 + M 664 42)) := sTk_xE rfl (by unfold bcan at g7 ⊢; simp (disch := decide) only [tU_nk]; exact g7)
      have l2 := sTk_lo (tU M1 689 (M 664 42) z) a (20 + M 664 42)
      have h2 := sTk_hi (tU M1 689 (M 664 42) z) a (20 + M 664 42)
      have oa2 : OB (tU M1 689 (M 664 42) z) a := OB_same (fun k g => tU_nk (by unfold isB at g; omega)) g6
      have N1 : cN (tU M1 689 (M 664 42) z) := fun i i1 i2 => by
        by_cases q : i = M 664 42
        · rw [q, tU_eq]; exact g0
        · rw [tU_ni q]; exact g4 i i1 i2
      have O1 : cO (tU M1 689 (M 664 42) z) 20 := fun b b1 b2 => OB_same (fun k g => tU_nk (by unfold isB at g; omega)) (g5 b b1 b2)
      have v1 : lV f M (tU M1 689 (M 664 42) z) := lV_tr g1 lV_89
      have f1 : tU M1 689 (M 664 42) z 664 11 = f := (tU_nk (by decide)).trans g2
      have e1 : tU M1 689 (M 664 42) z 664 42 = M 664 42 := (tU_nk (by decide)).trans g3
      generalize tU M1 689 (M 664 42) z = M3 at hM2 l2 h2 oa2 N1 O1 v1 f1 e1 ⊢
      have e2 : sTk M3 a (20 + M 664 42) 664 42 = M 664 42 := (sTk_k (fun q => by have := q.1; unfold isB at this; omega)).trans e1
      try simp only [kb_X12_looks_35, w_ald_0, w_gf_14_40, tw_f, w_gf_14_42, w_ild4, w_casz, w_ild_2, w_bi, w_iadd, w_iv2, tfr_0, tfr_1, tfr_2, tfr_3, tfr_4, w_dupi, w_dupr, w_ic, w_pf_14_42, w_re, true_and, and_true, Nat.reduceAdd, Nat.reduceSub, eq_self, tshm_14, tshm_31, tshm_32, tykm_31, tykm_32, tci_15, tci_960, tykm_14, tci_14, tshm_667, tshm_668, tshm_669, tshm_670, tykm_33, tci_700, tsn_671, tyn_17, tcn_10, tzs_672, tzs_673, tzs_680, tzs_681, tzs_682, tzs_683, tzs_684, tzs_685, tzs_686, tzs_687, tzs_688, tzs_689, tzy_15, tzy_35, tzy_36, tzy_37, tzy_38, tzy_39, tzy_40, tzc_60, tzc_320, tzc_5, tzc_4, tzc_8, e2]
      refine ⟨rfl, rfl, lV_tr v1 (lV_tr (lV_v (vE_y hM2.1) (fun r q => by omega)) lV_42), ?_, ?_, ?_, ?_⟩
      · rw [tU_ni (by decide), hM2.2]; exact f1
      · rw [tU_eq]; omega
      · intro i i1 i2
        rw [tU_nk (by decide), sTk_k (fun q => by have := q.1; unfold isB at this; omega)]
        exact N1 i i1 i2
      · intro b b1 b2
        refine OB_same (M := sTk M3 a (20 + M 664 42)) (fun k g => tU_nk (by unfold isB at g; omega)) ?_
        by_cases hb : b = 20 + M 664 42
        · unfold OB at oa2 ⊢
          rw [hb, l2, h2]
          exact oa2
        · exact OB_y (O1 b b1 b2) hM2.1 hb
    refine tb_X12_looks_0 (c := false) ?_
    simp only [kb_X12_looks_0, w_ald_0, w_ild_1, w_ild_2, w_iv2, tfr_0, tfr_1, tfr_2, tfr_3, tfr_4, w_ist4, tkl_n, tkl_i, tkl_l, tkl_r, w_ild4, w_bi, w_ic_ne, w_re, true_and, and_true, Nat.reduceAdd, Nat.reduceSub, eq_self, tshm_14, tshm_31, tshm_32, tykm_31, tykm_32, tci_15, tci_960, tykm_14, tci_14, tshm_667, tshm_668, tshm_669, tshm_670, tykm_33, tci_700, tsn_671, tyn_17, tcn_10, tzs_672, tzs_673, tzs_680, tzs_681, tzs_682, tzs_683, tzs_684, tzs_685, tzs_686, tzs_687, tzs_688, tzs_689, tzy_15, tzy_35, tzy_36, tzy_37, tzy_38, tzy_39, tzy_40, tzc_60, tzc_320, tzc_5, tzc_4, tzc_8]
    refine tc_i (D := 72) (fun d' hd' => o_tellsOf h hF hf hu ha oa (by omega) hd') (by omega) ?_
    rintro z M1 ⟨q0, q1⟩
    have v1 : lV f M M1 := lV_v q1.1 (fun r q => Or.inr q)
    have f1 := q1.2.trans h3
    have e42 : M1 664 42 = M 664 42 := vE_k q1.1 664 42 (by omega)
    have N1 : cN M1 := fun i i1 i2 => by rw [vE_k q1.1 689 i (by omega)]; exact hN i i1 i2
    have O1 : cO M1 20 := fun b b1 b2 => OB_v (hO b b1 b2) q1.1 (by omega)
    have B1 := (MB_z h q1).2.2.2.2.1
    have oa1 := OB_v oa q1.1 (by omega)
    try simp only [kb_X12_looks_0, w_ald_0, w_ild_1, w_ild_2, w_iv2, tfr_0, tfr_1, tfr_2, tfr_3, tfr_4, w_ist4, tkl_n, tkl_i, tkl_l, tkl_r, w_ild4, w_bi, w_ic_ne, w_re, true_and, and_true, Nat.reduceAdd, Nat.reduceSub, eq_self, tshm_14, tshm_31, tshm_32, tykm_31, tykm_32, tci_15, tci_960, tykm_14, tci_14, tshm_667, tshm_668, tshm_669, tshm_670, tykm_33, tci_700, tsn_671, tyn_17, tcn_10, tzs_672, tzs_673, tzs_680, tzs_681, tzs_682, tzs_683, tzs_684, tzs_685, tzs_686, tzs_687, tzs_688, tzs_689, tzy_15, tzy_35, tzy_36, tzy_37, tzy_38, tzy_39, tzy_40, tzc_60, tzc_320, tzc_5, tzc_4, tzc_8]
    refine ⟨by omega, fun q => ?_, fun q => ⟨rfl, rfl, v1, f1, by omega, N1, O1⟩⟩
    refine tb_X12_looks_16 (c := false) ?_
    simp only [kb_X12_looks_16, w_ild4, w_bi, w_ic_eq, w_ild_3, w_if_eq, w_ald_0, w_ild_2, w_iv1, tfr_0, tfr_1, tfr_2, tfr_3, tfr_4, w_if_ne, w_nil, true_and, and_true, Nat.reduceAdd, Nat.reduceSub, eq_self, tshm_14, tshm_31, tshm_32, tykm_31, tykm_32, tci_15, tci_960, tykm_14, tci_14, tshm_667, tshm_668, tshm_669, tshm_670, tykm_33, tci_700, tsn_671, tyn_17, tcn_10, tzs_672, tzs_673, tzs_680, tzs_681, tzs_682, tzs_683, tzs_684, tzs_685, tzs_686, tzs_687, tzs_688, tzs_689, tzy_15, tzy_35, tzy_36, tzy_37, tzy_38, tzy_39, tzy_40, tzc_60, tzc_320, tzc_5, tzc_4, tzc_8]
    refine ⟨by omega, fun q => n35 M1 z _ q0 v1 f1 e42 N1 O1 oa1 (B1 a (by omega) (by omega)), fun q => ⟨by omega, fun q => n35 M1 z _ q0 v1 f1 e42 N1 O1 oa1 (B1 a (by omega) (by omega)), fun q => by exfalso; omega⟩⟩
  | succ fu ih =>
    intro M d n a f w cu hcu hw h hF hu ha ha2 oa hf2 hk hN hO hd
    have h3 := h.2.2.1
    refine tst_X12_looks ?_
    have n35 : ∀ (M1 : tM) (z : Int) (A : Option tV), (0 ≤ z ∧ z ≤ 65535) → lV f M M1 → M1 664 11 = f → M1 664 42 = M 664 42 → cN M1 → cO M1 20 → OB M1 a → bcan M1 a → tT e d 3648 35 [some (.inr (.inr (.inl 664))), some (.inl (fo)), some (.inl (a)), some (.inl (cu)), some (.inl (z)), A] [] M1 n (tQn n (fun M' => lV f M M' ∧ M' 664 11 = f ∧ (0 ≤ M' 664 42 ∧ M' 664 42 ≤ M 664 42 + w) ∧ cN M' ∧ cO M' 20)) := by
      intro M1 z A g0 g1 g2 g3 g4 g5 g6 g7
      refine tb_X12_looks_35 (c := false) ?_
      simp (disch := decide) only [kb_X12_looks_35, w_ald_0, w_gf_14_40, tw_f, w_gf_14_42, w_ild4, w_casz, w_ild_2, w_bi, w_iadd, w_iv2, tfr_0, tfr_1, tfr_2, tfr_3, tfr_4, w_dupi, w_dupr, w_ic, w_pf_14_42, w_re, true_and, and_true, Nat.reduceAdd, Nat.reduceSub, eq_self, tshm_14, tshm_31, tshm_32, tykm_31, tykm_32, tci_15, tci_960, tykm_14, tci_14, tshm_667, tshm_668, tshm_669, tshm_670, tykm_33, tci_700, tsn_671, tyn_17, tcn_10, tzs_672, tzs_673, tzs_680, tzs_681, tzs_682, tzs_683, tzs_684, tzs_685, tzs_686, tzs_687, tzs_688, tzs_689, tzy_15, tzy_35, tzy_36, tzy_37, tzy_38, tzy_39, tzy_40, tzc_60, tzc_320, tzc_5, tzc_4, tzc_8, g3, tU_nk, tU_ni, tU_eq]
      refine ⟨by omega, by omega, ?_⟩
      refine tc_n (D := 0) (fun d' hd' => c_takes (by omega) (by omega)) (by omega) ?_
      rintro M2 rfl
      have hM2 : xE (fun r => r = 20 + M 664 42) (tU M1 689 (M 664 42) z) (sTk (tU M1 689 (M 664 42) z) a (20 + M 664 42)) := sTk_xE rfl (by unfold bcan at g7 ⊢; simp (disch := decide) only [tU_nk]; exact g7)
      have l2 := sTk_lo (tU M1 689 (M 664 42) z) a (20 + M 664 42)
      have h2 := sTk_hi (tU M1 689 (M 664 42) z) a (20 + M 664 42)
      have oa2 : OB (tU M1 689 (M 664 42) z) a := OB_same (fun k g => tU_nk (by unfold isB at g; omega)) g6
      have N1 : cN (tU M1 689 (M 664 42) z) := fun i i1 i2 => by
        by_cases q : i = M 664 42
        · rw [q, tU_eq]; exact g0
        · rw [tU_ni q]; exact g4 i i1 i2
      have O1 : cO (tU M1 689 (M 664 42) z) 20 := fun b b1 b2 => OB_same (fun k g => tU_nk (by unfold isB at g; omega)) (g5 b b1 b2)
      have v1 : lV f M (tU M1 689 (M 664 42) z) := lV_tr g1 lV_89
      have f1 : tU M1 689 (M 664 42) z 664 11 = f := (tU_nk (by decide)).trans g2
      have e1 : tU M1 689 (M 664 42) z 664 42 = M 664 42 := (tU_nk (by decide)).trans g3
      generalize tU M1 689 (M 664 42) z = M3 at hM2 l2 h2 oa2 N1 O1 v1 f1 e1 ⊢
      have e2 : sTk M3 a (20 + M 664 42) 664 42 = M 664 42 := (sTk_k (fun q => by have := q.1; unfold isB at this; omega)).trans e1
      try simp only [kb_X12_looks_35, w_ald_0, w_gf_14_40, tw_f, w_gf_14_42, w_ild4, w_casz, w_ild_2, w_bi, w_iadd, w_iv2, tfr_0, tfr_1, tfr_2, tfr_3, tfr_4, w_dupi, w_dupr, w_ic, w_pf_14_42, w_re, true_and, and_true, Nat.reduceAdd, Nat.reduceSub, eq_self, tshm_14, tshm_31, tshm_32, tykm_31, tykm_32, tci_15, tci_960, tykm_14, tci_14, tshm_667, tshm_668, tshm_669, tshm_670, tykm_33, tci_700, tsn_671, tyn_17, tcn_10, tzs_672, tzs_673, tzs_680, tzs_681, tzs_682, tzs_683, tzs_684, tzs_685, tzs_686, tzs_687, tzs_688, tzs_689, tzy_15, tzy_35, tzy_36, tzy_37, tzy_38, tzy_39, tzy_40, tzc_60, tzc_320, tzc_5, tzc_4, tzc_8, e2]
      refine ⟨rfl, rfl, lV_tr v1 (lV_tr (lV_v (vE_y hM2.1) (fun r q => by omega)) lV_42), ?_, ?_, ?_, ?_⟩
      · rw [tU_ni (by decide), hM2.2]; exact f1
      · rw [tU_eq]; omega
      · intro i i1 i2
        rw [tU_nk (by decide), sTk_k (fun q => by have := q.1; unfold isB at this; omega)]
        exact N1 i i1 i2
      · intro b b1 b2
        refine OB_same (M := sTk M3 a (20 + M 664 42)) (fun k g => tU_nk (by unfold isB at g; omega)) ?_
        by_cases hb : b = 20 + M 664 42
        · unfold OB at oa2 ⊢
          rw [hb, l2, h2]
          exact oa2
        · exact OB_y (O1 b b1 b2) hM2.1 hb
    have n69 : ∀ (M1 : tM) (z : Int), lV f M M1 → M1 664 11 = f → M1 664 42 = M 664 42 → cN M1 → cO M1 20 → tT e d 3648 69 [some (.inr (.inr (.inl 664))), some (.inl (fo)), some (.inl (a)), some (.inl (cu)), some (.inl (z)), none] [] M1 n (tQn n (fun M' => lV f M M' ∧ M' 664 11 = f ∧ (0 ≤ M' 664 42 ∧ M' 664 42 ≤ M 664 42 + w) ∧ cN M' ∧ cO M' 20)) := by
      intro M1 z g1 g2 g3 g4 g5
      obtain ⟨v, hv⟩ : ∃ v : Int, w = 2 * v ∧ (fu = 0 ∧ v = 1 ∨ fu = 1 ∧ v = 2 ∨ fu = 2 ∧ v = 4 ∨ fu = 3 ∧ v = 8) := ⟨w / 2, by omega⟩
      have v0 : lV f M (tU M1 664 11 (f + 2)) := lV_tr g1 (lV_v (T := fun _ => False) vE_free (fun _ q => q.elim))
      have f0 : tU M1 664 11 (f + 2) 664 11 = f + 2 := tU_eq ..
      have e0 : tU M1 664 11 (f + 2) 664 42 = M 664 42 := (tU_ni (by decide)).trans g3
      have N0 : cN (tU M1 664 11 (f + 2)) := fun i i1 i2 => by rw [tU_nk (by decide)]; exact g4 i i1 i2
      have O0 : cO (tU M1 664 11 (f + 2)) 20 := fun b b1 b2 => OB_v (g5 b b1 b2) (vE_free (T := fun _ => False)) id
      refine tb_X12_looks_69 (c := false) ?_
      simp only [kb_X12_looks_69, w_ald_0, w_gf_14_11, tw_f, w_ic, w_iadd, w_ist5, tkl_n, tkl_i, tkl_l, tkl_r, w_dupi, w_dupr, w_pf_14_11, w_ild5, w_ild_2, w_iv3, tfr_0, tfr_1, tfr_2, tfr_3, tfr_4, w_ild_1, w_ild_3, w_isub, w_re, true_and, and_true, Nat.reduceAdd, Nat.reduceSub, eq_self, tshm_14, tshm_31, tshm_32, tykm_31, tykm_32, tci_15, tci_960, tykm_14, tci_14, tshm_667, tshm_668, tshm_669, tshm_670, tykm_33, tci_700, tsn_671, tyn_17, tcn_10, tzs_672, tzs_673, tzs_680, tzs_681, tzs_682, tzs_683, tzs_684, tzs_685, tzs_686, tzs_687, tzs_688, tzs_689, tzy_15, tzy_35, tzy_36, tzy_37, tzy_38, tzy_39, tzy_40, tzc_60, tzc_320, tzc_5, tzc_4, tzc_8, g2]
      generalize tU M1 664 11 (f + 2) = M2 at v0 f0 e0 N0 O0 ⊢
      refine tc_n (D := 3) (fun d' hd' => o_half (MB_l h v0 f0 (by omega)) (by omega) (by omega) (OB_l oa v0 ha2 ha.2) (Or.inl rfl) hd') (by omega) ?_
      rintro M3 ⟨p1, p2⟩
      have v3 : lV f M M3 := lV_tr v0 (lV_v (vE_y p2.1) (fun r q => by rcases q with q | q <;> omega))
      have f3 := p2.2.trans f0
      have e3 : M3 664 42 = M 664 42 := (vE_k (vE_y p2.1) 664 42 (by omega)).trans e0
      have N3 : cN M3 := fun i i1 i2 => by rw [vE_k (vE_y p2.1) 689 i (by omega)]; exact N0 i i1 i2
      have O3 : cO M3 20 := fun b b1 b2 => OB_y (O0 b b1 b2) p2.1 (by unfold toF; omega)
      try simp only [kb_X12_looks_69, w_ald_0, w_gf_14_11, tw_f, w_ic, w_iadd, w_ist5, tkl_n, tkl_i, tkl_l, tkl_r, w_dupi, w_dupr, w_pf_14_11, w_ild5, w_ild_2, w_iv3, tfr_0, tfr_1, tfr_2, tfr_3, tfr_4, w_ild_1, w_ild_3, w_isub, w_re, true_and, and_true, Nat.reduceAdd, Nat.reduceSub, eq_self, tshm_14, tshm_31, tshm_32, tykm_31, tykm_32, tci_15, tci_960, tykm_14, tci_14, tshm_667, tshm_668, tshm_669, tshm_670, tykm_33, tci_700, tsn_671, tyn_17, tcn_10, tzs_672, tzs_673, tzs_680, tzs_681, tzs_682, tzs_683, tzs_684, tzs_685, tzs_686, tzs_687, tzs_688, tzs_689, tzy_15, tzy_35, tzy_36, tzy_37, tzy_38, tzy_39, tzy_40, tzc_60, tzc_320, tzc_5, tzc_4, tzc_8]
      refine tc_n (D := 74 + fu) (fun d' hd' => ih (w := v) (by omega) hv.2 (MB_l h v3 f3 (by omega)) (FI_l hF v3) (by rw [lV_k v3 687 fo (by omega)]; exact hu) (by omega) (by omega) p1 (by omega) (by omega) N3 O3 hd') (by omega) ?_
      rintro M4 ⟨r1, r2, r3, r4, r5⟩
      have v4 : lV f M M4 := lV_tr v3 (lV_mono r1 (by omega))
      try simp only [kb_X12_looks_69, w_ald_0, w_gf_14_11, tw_f, w_ic, w_iadd, w_ist5, tkl_n, tkl_i, tkl_l, tkl_r, w_dupi, w_dupr, w_pf_14_11, w_ild5, w_ild_2, w_iv3, tfr_0, tfr_1, tfr_2, tfr_3, tfr_4, w_ild_1, w_ild_3, w_isub, w_re, true_and, and_true, Nat.reduceAdd, Nat.reduceSub, eq_self, tshm_14, tshm_31, tshm_32, tykm_31, tykm_32, tci_15, tci_960, tykm_14, tci_14, tshm_667, tshm_668, tshm_669, tshm_670, tykm_33, tci_700, tsn_671, tyn_17, tcn_10, tzs_672, tzs_673, tzs_680, tzs_681, tzs_682, tzs_683, tzs_684, tzs_685, tzs_686, tzs_687, tzs_688, tzs_689, tzy_15, tzy_35, tzy_36, tzy_37, tzy_38, tzy_39, tzy_40, tzc_60, tzc_320, tzc_5, tzc_4, tzc_8]
      refine tc_n (D := 3) (fun d' hd' => o_half (MB_l h v4 r2 (by omega)) (by omega) (by omega) (OB_l oa v4 ha2 ha.2) (Or.inr rfl) hd') (by omega) ?_
      rintro M5 ⟨s1, s2⟩
      have v5 : lV f M M5 := lV_tr v4 (lV_v (vE_y s2.1) (fun r q => by rcases q with q | q <;> omega))
      have f5 := s2.2.trans r2
      have e5 : M5 664 42 = M4 664 42 := vE_k (vE_y s2.1) 664 42 (by omega)
      have N5 : cN M5 := fun i i1 i2 => by rw [vE_k (vE_y s2.1) 689 i (by omega)]; exact r4 i i1 i2
      have O5 : cO M5 20 := fun b b1 b2 => OB_y (r5 b b1 b2) s2.1 (by unfold toF; omega)
      try simp only [kb_X12_looks_69, w_ald_0, w_gf_14_11, tw_f, w_ic, w_iadd, w_ist5, tkl_n, tkl_i, tkl_l, tkl_r, w_dupi, w_dupr, w_pf_14_11, w_ild5, w_ild_2, w_iv3, tfr_0, tfr_1, tfr_2, tfr_3, tfr_4, w_ild_1, w_ild_3, w_isub, w_re, true_and, and_true, Nat.reduceAdd, Nat.reduceSub, eq_self, tshm_14, tshm_31, tshm_32, tykm_31, tykm_32, tci_15, tci_960, tykm_14, tci_14, tshm_667, tshm_668, tshm_669, tshm_670, tykm_33, tci_700, tsn_671, tyn_17, tcn_10, tzs_672, tzs_673, tzs_680, tzs_681, tzs_682, tzs_683, tzs_684, tzs_685, tzs_686, tzs_687, tzs_688, tzs_689, tzy_15, tzy_35, tzy_36, tzy_37, tzy_38, tzy_39, tzy_40, tzc_60, tzc_320, tzc_5, tzc_4, tzc_8]
      refine tc_n (D := 74 + fu) (fun d' hd' => ih (w := v) (by omega) hv.2 (MB_l h v5 f5 (by omega)) (FI_l hF v5) (by rw [lV_k v5 687 fo (by omega)]; exact hu) (by omega) (by omega) s1 (by omega) (by omega) N5 O5 hd') (by omega) ?_
      rintro M6 ⟨t1, t2, t3, t4, t5⟩
      try simp only [kb_X12_looks_69, w_ald_0, w_gf_14_11, tw_f, w_ic, w_iadd, w_ist5, tkl_n, tkl_i, tkl_l, tkl_r, w_dupi, w_dupr, w_pf_14_11, w_ild5, w_ild_2, w_iv3, tfr_0, tfr_1, tfr_2, tfr_3, tfr_4, w_ild_1, w_ild_3, w_isub, w_re, true_and, and_true, Nat.reduceAdd, Nat.reduceSub, eq_self, tshm_14, tshm_31, tshm_32, tykm_31, tykm_32, tci_15, tci_960, tykm_14, tci_14, tshm_667, tshm_668, tshm_669, tshm_670, tykm_33, tci_700, tsn_671, tyn_17, tcn_10, tzs_672, tzs_673, tzs_680, tzs_681, tzs_682, tzs_683, tzs_684, tzs_685, tzs_686, tzs_687, tzs_688, tzs_689, tzy_15, tzy_35, tzy_36, tzy_37, tzy_38, tzy_39, tzy_40, tzc_60, tzc_320, tzc_5, tzc_4, tzc_8, t2]
      refine ⟨rfl, rfl, lV_tr (lV_tr v5 (lV_mono t1 (by omega))) (lV_v (T := fun _ => False) vE_free (fun _ q => q.elim)), by rw [tU_eq]; omega, by rw [tU_ni (by decide)]; omega, fun i i1 i2 => by rw [tU_nk (by decide)]; exact t4 i i1 i2, fun b b1 b2 => OB_v (t5 b b1 b2) (vE_free (T := fun _ => False)) id⟩
    refine tb_X12_looks_0 (c := false) ?_
    simp only [kb_X12_looks_0, w_ald_0, w_ild_1, w_ild_2, w_iv2, tfr_0, tfr_1, tfr_2, tfr_3, tfr_4, w_ist4, tkl_n, tkl_i, tkl_l, tkl_r, w_ild4, w_bi, w_ic_ne, w_re, true_and, and_true, Nat.reduceAdd, Nat.reduceSub, eq_self, tshm_14, tshm_31, tshm_32, tykm_31, tykm_32, tci_15, tci_960, tykm_14, tci_14, tshm_667, tshm_668, tshm_669, tshm_670, tykm_33, tci_700, tsn_671, tyn_17, tcn_10, tzs_672, tzs_673, tzs_680, tzs_681, tzs_682, tzs_683, tzs_684, tzs_685, tzs_686, tzs_687, tzs_688, tzs_689, tzy_15, tzy_35, tzy_36, tzy_37, tzy_38, tzy_39, tzy_40, tzc_60, tzc_320, tzc_5, tzc_4, tzc_8]
    refine tc_i (D := 72) (fun d' hd' => o_tellsOf h hF hf hu ha oa (by omega) hd') (by omega) ?_
    rintro z M1 ⟨q0, q1⟩
    have v1 : lV f M M1 := lV_v q1.1 (fun r q => Or.inr q)
    have f1 := q1.2.trans h3
    have e42 : M1 664 42 = M 664 42 := vE_k q1.1 664 42 (by omega)
    have N1 : cN M1 := fun i i1 i2 => by rw [vE_k q1.1 689 i (by omega)]; exact hN i i1 i2
    have O1 : cO M1 20 := fun b b1 b2 => OB_v (hO b b1 b2) q1.1 (by omega)
    have H1 := MB_z h q1
    have B1 := H1.2.2.2.2.1
    have oa1 := OB_v oa q1.1 (by omega)
    try simp only [kb_X12_looks_0, w_ald_0, w_ild_1, w_ild_2, w_iv2, tfr_0, tfr_1, tfr_2, tfr_3, tfr_4, w_ist4, tkl_n, tkl_i, tkl_l, tkl_r, w_ild4, w_bi, w_ic_ne, w_re, true_and, and_true, Nat.reduceAdd, Nat.reduceSub, eq_self, tshm_14, tshm_31, tshm_32, tykm_31, tykm_32, tci_15, tci_960, tykm_14, tci_14, tshm_667, tshm_668, tshm_669, tshm_670, tykm_33, tci_700, tsn_671, tyn_17, tcn_10, tzs_672, tzs_673, tzs_680, tzs_681, tzs_682, tzs_683, tzs_684, tzs_685, tzs_686, tzs_687, tzs_688, tzs_689, tzy_15, tzy_35, tzy_36, tzy_37, tzy_38, tzy_39, tzy_40, tzc_60, tzc_320, tzc_5, tzc_4, tzc_8]
    refine ⟨by omega, fun q => ?_, fun q => ⟨rfl, rfl, v1, f1, by omega, N1, O1⟩⟩
    refine tb_X12_looks_16 (c := false) ?_
    simp only [kb_X12_looks_16, w_ild4, w_bi, w_ic_eq, w_ild_3, w_if_eq, w_ald_0, w_ild_2, w_iv1, tfr_0, tfr_1, tfr_2, tfr_3, tfr_4, w_if_ne, w_nil, true_and, and_true, Nat.reduceAdd, Nat.reduceSub, eq_self, tshm_14, tshm_31, tshm_32, tykm_31, tykm_32, tci_15, tci_960, tykm_14, tci_14, tshm_667, tshm_668, tshm_669, tshm_670, tykm_33, tci_700, tsn_671, tyn_17, tcn_10, tzs_672, tzs_673, tzs_680, tzs_681, tzs_682, tzs_683, tzs_684, tzs_685, tzs_686, tzs_687, tzs_688, tzs_689, tzy_15, tzy_35, tzy_36, tzy_37, tzy_38, tzy_39, tzy_40, tzc_60, tzc_320, tzc_5, tzc_4, tzc_8]
    refine ⟨by omega, fun q => n35 M1 z _ q0 v1 f1 e42 N1 O1 oa1 (B1 a (by omega) (by omega)), fun q => ⟨by omega, fun q => n35 M1 z _ q0 v1 f1 e42 N1 O1 oa1 (B1 a (by omega) (by omega)), fun q => ?_⟩⟩
    refine tc_i (D := 3) (fun d' hd' => o_canCut H1 ha oa1 hd') (by omega) ?_
    rintro z2 M2 ⟨p0, p1⟩
    have v2 : lV f M M2 := lV_tr v1 (lV_v (vE_y p1.1) (fun r q => by omega))
    have f2 := p1.2.trans f1
    have e2 : M2 664 42 = M 664 42 := (vE_k (vE_y p1.1) 664 42 (by omega)).trans e42
    have N2 : cN M2 := fun i i1 i2 => by rw [vE_k (vE_y p1.1) 689 i (by omega)]; exact N1 i i1 i2
    have O2 : cO M2 20 := fun b b1 b2 => OB_y (O1 b b1 b2) p1.1 (by omega)
    have oa2 := OB_y oa1 p1.1 (by omega)
    have B2 := xE_B p1 B1
    try simp only [kb_X12_looks_16, w_ild4, w_bi, w_ic_eq, w_ild_3, w_if_eq, w_ald_0, w_ild_2, w_iv1, tfr_0, tfr_1, tfr_2, tfr_3, tfr_4, w_if_ne, w_nil, true_and, and_true, Nat.reduceAdd, Nat.reduceSub, eq_self, tshm_14, tshm_31, tshm_32, tykm_31, tykm_32, tci_15, tci_960, tykm_14, tci_14, tshm_667, tshm_668, tshm_669, tshm_670, tykm_33, tci_700, tsn_671, tyn_17, tcn_10, tzs_672, tzs_673, tzs_680, tzs_681, tzs_682, tzs_683, tzs_684, tzs_685, tzs_686, tzs_687, tzs_688, tzs_689, tzy_15, tzy_35, tzy_36, tzy_37, tzy_38, tzy_39, tzy_40, tzc_60, tzc_320, tzc_5, tzc_4, tzc_8]
    exact ⟨by omega, fun q => n69 M2 z v2 f2 e2 N2 O2, fun q => n35 M2 z _ q0 v2 f2 e2 N2 O2 oa2 (B2 a (by omega) (by omega))⟩
variable {d n : Nat} {M : tM}
theorem MF_l {M1 : tM} (h : MF M D) (hx : lV 60 M M1) (h1 : M1 664 11 = 60) (hN : cN M1) (hO : cO M1 20) : MF M1 D ∧ MC M M1 := by
  obtain ⟨⟨a1, a2, a3⟩, a4, a5, a6⟩ := h
  refine ⟨⟨⟨MB_l a1 hx h1 (by omega), ⟨by rw [lV_k hx 664 25 (by omega)]; exact a2.1, fun j j1 j2 => ?_, fun i i1 i2 => by rw [lV_k hx 671 i (by omega)]; exact a2.2.2 i i1 i2⟩, fun b b1 b2 => ?_⟩, TX_same (fun k i g => lV_k hx k i (by omega)) a4, FI_l a5 hx, ⟨by rw [lV_k hx 664 41 (by omega)]; exact a6.1, fun i i1 i2 => ⟨by rw [lV_k hx 688 i (by omega)]; exact (a6.2 i i1 i2).1, hN i i1 i2⟩⟩⟩, fun k i g => lV_k hx k i (by omega)⟩
  · have := a2.2.1 j j1 j2
    unfold KS at this ⊢
    rw [lV_k hx 674 j (by omega), lV_k hx 675 j (by omega), lV_k hx 676 j (by omega), lV_k hx 677 j (by omega), lV_k hx 678 j (by omega), lV_k hx 679 j (by omega)]
    exact this
  · by_cases hb : 20 ≤ b ∧ b < 28
    · exact hO b hb.1 hb.2
    · exact OB_l (a3 b b1 b2) hx hb b2
theorem MF_u {k0 : Nat} {i0 v : Int} (h : MF M D) (hk : k0 = 664 ∧ (i0 = 3 ∨ i0 = 42 ∨ i0 = 37 ∨ i0 = 38) ∨ k0 = 664 ∧ i0 = 41 ∧ (0 ≤ v ∧ v ≤ 8) ∨ (k0 = 688 ∨ k0 = 689) ∧ (0 ≤ v ∧ v ≤ 65535)) : MF (tU M k0 i0 v) D ∧ MC M (tU M k0 i0 v) := by
  have hn : ∀ (k : Nat) (i : Int), ¬ (k = k0 ∧ i = i0) → tU M k0 i0 v k i = M k i := fun k i g => if_neg g
  refine ⟨⟨MP_same (fun k i g => hn k i (by omega)) h.1, TX_same (fun k i g => hn k i (by omega)) h.2.1, FI_same (fun k i g => hn k i (by omega)) h.2.2.1, ?_, fun i i1 i2 => ⟨?_, ?_⟩⟩, fun k i g => hn k i (by omega)⟩
  · by_cases q : k0 = 664 ∧ i0 = 41
    · obtain ⟨q1, q2⟩ := q
      subst q1; subst q2
      rw [tU_eq]
      omega
    · rw [hn 664 41 (by omega)]
      exact h.2.2.2.1
  · by_cases q : k0 = 688 ∧ i0 = i
    · obtain ⟨q1, q2⟩ := q
      subst q1; subst q2
      rw [tU_eq]
      omega
    · rw [hn 688 i (by omega)]
      exact (h.2.2.2.2 i i1 i2).1
  · by_cases q : k0 = 689 ∧ i0 = i
    · obtain ⟨q1, q2⟩ := q
      subst q1; subst q2
      rw [tU_eq]
      omega
    · rw [hn 689 i (by omega)]
      exact (h.2.2.2.2 i i1 i2).2
theorem MF_tk {a b : Int} (h : MF M D) (ha : 0 ≤ a ∧ a < 60) (hb : 0 ≤ b ∧ b < 60) : MF (sTk M a b) D ∧ MC M (sTk M a b) := by
  have hx : xE (fun r => r = b) M (sTk M a b) := sTk_xE rfl (h.1.1.2.2.2.2.1 a ha.1 (by omega))
  refine MF_v h (vE_y hx.1) (hx.2.trans h.1.1.2.2.1) (fun c c1 c2 => ?_)
  by_cases q : c = b
  · have := h.1.2.2 a ha.1 ha.2
    unfold OB at this ⊢
    rw [q, sTk_lo, sTk_hi]
    exact this
  · exact OB_y (h.1.2.2 c c1 c2) hx.1 q
theorem o_zeros {x1 x2 x3 : Int} (hP : MF M D) (h1 : (-2147483648 ≤ x1 ∧ x1 < 2147483648)) (h2 : (-2147483648 ≤ x2 ∧ x2 < 2147483648)) (h3 : (-2147483648 ≤ x3 ∧ x3 < 2147483648)) (hd : 78 ≤ d) : tC e d 3737 [.inr (.inr (.inl 664)), .inl x1, .inl x2, .inl x3] M n (tQi n (fun _ M' => MF M' D ∧ MC M M')) := by
  refine tst_X12_zeros ?_
  have n102 : ∀ (fu : Nat) (M1 : tM) (k : Int), MF M1 D → MC M M1 → (0 ≤ k ∧ k ≤ M1 664 41) → M1 664 41 < k + (fu : Int) → tT e d 3737 102 [some (.inr (.inr (.inl 664))), some (.inl (x1)), some (.inl (x2)), some (.inl (x3)), some (.inl (k))] [] M1 n (tQi n (fun _ M' => MF M' D ∧ MC M M')) := by
    intro fu
    induction fu with
    | zero => intro M1 k g1 g2 g3 g4; exfalso; omega
    | succ fu ih =>
      intro M1 k g1 g2 g3 g4
      have g41 := g1.2.2.2.1
      have gn : k < M1 664 41 → 0 ≤ M1 689 k ∧ M1 689 k ≤ 65535 := fun q => (g1.2.2.2.2 k (by omega) (by omega)).2
      refine tb_X12_zeros_102 (c := false) ?_
      simp only [kb_X12_zeros_102, w_ild4, w_ald_0, w_gf_14_41, tw_f, w_ic_ge, w_gf_14_39, w_gf_14_40, w_ca, w_casz, w_bi, w_iadd, w_iv2, tfr_0, tfr_1, tfr_2, tfr_3, tfr_4, w_inc4, tkl_n, tkl_i, tkl_l, tkl_r, w_goto, true_and, and_true, Nat.reduceAdd, Nat.reduceSub, eq_self, tshm_14, tshm_31, tshm_32, tykm_31, tykm_32, tci_15, tci_960, tykm_14, tci_14, tshm_667, tshm_668, tshm_669, tshm_670, tykm_33, tci_700, tsn_671, tyn_17, tcn_10, tzs_672, tzs_673, tzs_680, tzs_681, tzs_682, tzs_683, tzs_684, tzs_685, tzs_686, tzs_687, tzs_688, tzs_689, tzy_15, tzy_35, tzy_36, tzy_37, tzy_38, tzy_39, tzy_40, tzc_60, tzc_320, tzc_5, tzc_4, tzc_8]
      refine ⟨by omega, fun q => ?_, fun q => ⟨by omega, by omega, gn (by omega), ?_⟩⟩
      · refine tb_X12_zeros_145 (c := false) ?_
        simp only [kb_X12_zeros_145, w_ald_0, w_gf_14_41, tw_f, w_ire, trg, true_and, and_true, Nat.reduceAdd, Nat.reduceSub, eq_self, tshm_14, tshm_31, tshm_32, tykm_31, tykm_32, tci_15, tci_960, tykm_14, tci_14, tshm_667, tshm_668, tshm_669, tshm_670, tykm_33, tci_700, tsn_671, tyn_17, tcn_10, tzs_672, tzs_673, tzs_680, tzs_681, tzs_682, tzs_683, tzs_684, tzs_685, tzs_686, tzs_687, tzs_688, tzs_689, tzy_15, tzy_35, tzy_36, tzy_37, tzy_38, tzy_39, tzy_40, tzc_60, tzc_320, tzc_5, tzc_4, tzc_8]
        exact ⟨_, rfl, rfl, g1, g2⟩
      · have m2 := MF_u (k0 := 688) (i0 := k) (v := M1 689 k) g1 (Or.inr (Or.inr ⟨Or.inl rfl, gn (by omega)⟩))
        have e2 : tU M1 688 k (M1 689 k) 664 41 = M1 664 41 := tU_nk (by decide)
        generalize tU M1 688 k (M1 689 k) = M2 at m2 e2 ⊢
        refine tc_n (D := 0) (fun d' hd' => c_takes (by omega) (by omega)) (by omega) ?_
        rintro M3 rfl
        have m3 := MF_tk (a := 20 + k) (b := 10 + k) m2.1 (by omega) (by omega)
        have e3 : sTk M2 (20 + k) (10 + k) 664 41 = M1 664 41 := (sTk_k (fun q => by have := q.1; unfold isB at this; omega)).trans e2
        try simp only [kb_X12_zeros_102, w_ild4, w_ald_0, w_gf_14_41, tw_f, w_ic_ge, w_gf_14_39, w_gf_14_40, w_ca, w_casz, w_bi, w_iadd, w_iv2, tfr_0, tfr_1, tfr_2, tfr_3, tfr_4, w_inc4, tkl_n, tkl_i, tkl_l, tkl_r, w_goto, true_and, and_true, Nat.reduceAdd, Nat.reduceSub, eq_self, tshm_14, tshm_31, tshm_32, tykm_31, tykm_32, tci_15, tci_960, tykm_14, tci_14, tshm_667, tshm_668, tshm_669, tshm_670, tykm_33, tci_700, tsn_671, tyn_17, tcn_10, tzs_672, tzs_673, tzs_680, tzs_681, tzs_682, tzs_683, tzs_684, tzs_685, tzs_686, tzs_687, tzs_688, tzs_689, tzy_15, tzy_35, tzy_36, tzy_37, tzy_38, tzy_39, tzy_40, tzc_60, tzc_320, tzc_5, tzc_4, tzc_8]
        exact ih _ (k + 1) m3.1 (MC_tr g2 (MC_tr m2.2 m3.2)) (by omega) (by omega)
  have n73 : ∀ M1 : tM, MF M1 D → MC M M1 → (0 ≤ x1 ∧ x1 ≤ 3) → (0 ≤ x2 ∧ x2 ≤ 9) → (0 ≤ x3 ∧ x3 ≤ 3) → M1 687 x1 ≠ 0 → tT e d 3737 73 [some (.inr (.inr (.inl 664))), some (.inl (x1)), some (.inl (x2)), some (.inl (x3)), none] [] M1 n (tQi n (fun _ M' => MF M' D ∧ MC M M')) := by
    intro M1 g1 g2 g3 g4 g5 hu
    have m0 := MF_u (k0 := 664) (i0 := 42) (v := 0) g1 (by omega)
    have f0 := m0.1.1.1.2.2.1
    have e0 : tU M1 664 42 0 664 42 = 0 := tU_eq ..
    have u0 : tU M1 664 42 0 687 x1 ≠ 0 := by rw [tU_nk (by decide)]; exact hu
    refine tb_X12_zeros_73 (c := false) ?_
    simp only [kb_X12_zeros_73, w_ald_0, w_ic, w_pf_14_42, w_bi, w_pf_14_11, w_ild_1, w_ild_2, w_ild_3, w_iv3, tfr_0, tfr_1, tfr_2, tfr_3, tfr_4, w_gf_14_42, tw_f, w_pf_14_41, w_ist4, tkl_n, tkl_i, tkl_l, tkl_r, w_nil, true_and, and_true, Nat.reduceAdd, Nat.reduceSub, eq_self, tshm_14, tshm_31, tshm_32, tykm_31, tykm_32, tci_15, tci_960, tykm_14, tci_14, tshm_667, tshm_668, tshm_669, tshm_670, tykm_33, tci_700, tsn_671, tyn_17, tcn_10, tzs_672, tzs_673, tzs_680, tzs_681, tzs_682, tzs_683, tzs_684, tzs_685, tzs_686, tzs_687, tzs_688, tzs_689, tzy_15, tzy_35, tzy_36, tzy_37, tzy_38, tzy_39, tzy_40, tzc_60, tzc_320, tzc_5, tzc_4, tzc_8]
    generalize tU M1 664 42 0 = M0 at m0 f0 e0 u0 ⊢
    have m2 := MF_w (T := fun _ => False) m0.1 (vE_free (v := 60)) (tU_eq ..) (fun _ q => q.elim)
    have e2 : tU M0 664 11 60 664 42 = 0 := (tU_ni (by decide)).trans e0
    have u2 : tU M0 664 11 60 687 x1 ≠ 0 := by rw [tU_nk (by decide)]; exact u0
    generalize tU M0 664 11 60 = M2 at m2 e2 u2 ⊢
    have w0 : ∃ w : Int, (x3.toNat = 0 ∧ w = 1 ∨ x3.toNat = 1 ∧ w = 2 ∨ x3.toNat = 2 ∧ w = 4 ∨ x3.toNat = 3 ∧ w = 8) := by
      have : x3 = 0 ∨ x3 = 1 ∨ x3 = 2 ∨ x3 = 3 := by omega
      rcases this with q | q | q | q <;> subst q
      · exact ⟨1, by decide⟩
      · exact ⟨2, by decide⟩
      · exact ⟨4, by decide⟩
      · exact ⟨8, by decide⟩
    obtain ⟨w, hw⟩ := w0
    refine tc_n (D := 77) (fun d' hd' => o_looks g3 x3.toNat (by omega) hw m2.1.1.1 m2.1.2.2.1 u2 (by omega) (by omega) (m2.1.1.2.2 x2 (by omega) (by omega)) (by omega) (by omega) (fun i i1 i2 => (m2.1.2.2.2.2 i i1 i2).2) (fun b b1 b2 => m2.1.1.2.2 b (by omega) (by omega)) (by omega)) (by omega) ?_
    rintro M3 ⟨p1, p2, p3, p4, p5⟩
    have m3 := MF_l m2.1 p1 p2 p4 p5
    have m4 := MF_u (k0 := 664) (i0 := 41) (v := M3 664 42) m3.1 (by omega)
    have g41 := m4.1.2.2.2.1
    try simp only [kb_X12_zeros_73, w_ald_0, w_ic, w_pf_14_42, w_bi, w_pf_14_11, w_ild_1, w_ild_2, w_ild_3, w_iv3, tfr_0, tfr_1, tfr_2, tfr_3, tfr_4, w_gf_14_42, tw_f, w_pf_14_41, w_ist4, tkl_n, tkl_i, tkl_l, tkl_r, w_nil, true_and, and_true, Nat.reduceAdd, Nat.reduceSub, eq_self, tshm_14, tshm_31, tshm_32, tykm_31, tykm_32, tci_15, tci_960, tykm_14, tci_14, tshm_667, tshm_668, tshm_669, tshm_670, tykm_33, tci_700, tsn_671, tyn_17, tcn_10, tzs_672, tzs_673, tzs_680, tzs_681, tzs_682, tzs_683, tzs_684, tzs_685, tzs_686, tzs_687, tzs_688, tzs_689, tzy_15, tzy_35, tzy_36, tzy_37, tzy_38, tzy_39, tzy_40, tzc_60, tzc_320, tzc_5, tzc_4, tzc_8]
    exact n102 9 _ 0 m4.1 (MC_tr g2 (MC_tr m0.2 (MC_tr m2.2 (MC_tr m3.2 m4.2)))) (by omega) (by omega)
  have n65 : ∀ v : Int, (0 ≤ v ∧ v ≤ 4) → (v = 0 → (0 ≤ x1 ∧ x1 ≤ 3) ∧ (0 ≤ x2 ∧ x2 ≤ 9) ∧ (0 ≤ x3 ∧ x3 ≤ 3) ∧ M 687 x1 ≠ 0) → tT e d 3737 65 [some (.inr (.inr (.inl 664))), some (.inl (x1)), some (.inl (x2)), some (.inl (x3)), none] [.inl v, .inr (.inr (.inl 664))] M n (tQi n (fun _ M' => MF M' D ∧ MC M M')) := by
    intro v hv hv0
    refine tb_X12_zeros_65 (c := false) ?_
    simp only [kb_X12_zeros_65, w_iv1, tfr_0, tfr_1, tfr_2, tfr_3, tfr_4, w_if_eq, w_ic, w_ire, trg, true_and, and_true, Nat.reduceAdd, Nat.reduceSub, eq_self, tshm_14, tshm_31, tshm_32, tykm_31, tykm_32, tci_15, tci_960, tykm_14, tci_14, tshm_667, tshm_668, tshm_669, tshm_670, tykm_33, tci_700, tsn_671, tyn_17, tcn_10, tzs_672, tzs_673, tzs_680, tzs_681, tzs_682, tzs_683, tzs_684, tzs_685, tzs_686, tzs_687, tzs_688, tzs_689, tzy_15, tzy_35, tzy_36, tzy_37, tzy_38, tzy_39, tzy_40, tzc_60, tzc_320, tzc_5, tzc_4, tzc_8]
    refine tc_i (D := 0) (fun d' hd' => o_fails (by omega)) (by omega) ?_
    rintro z M2 ⟨q2, rfl⟩
    try simp only [kb_X12_zeros_65, w_iv1, tfr_0, tfr_1, tfr_2, tfr_3, tfr_4, w_if_eq, w_ic, w_ire, trg, true_and, and_true, Nat.reduceAdd, Nat.reduceSub, eq_self, tshm_14, tshm_31, tshm_32, tykm_31, tykm_32, tci_15, tci_960, tykm_14, tci_14, tshm_667, tshm_668, tshm_669, tshm_670, tykm_33, tci_700, tsn_671, tyn_17, tcn_10, tzs_672, tzs_673, tzs_680, tzs_681, tzs_682, tzs_683, tzs_684, tzs_685, tzs_686, tzs_687, tzs_688, tzs_689, tzy_15, tzy_35, tzy_36, tzy_37, tzy_38, tzy_39, tzy_40, tzc_60, tzc_320, tzc_5, tzc_4, tzc_8]
    have h4 := MF_3 (v := v) hP
    refine ⟨by omega, fun q => ?_, fun q => ⟨0, rfl, rfl, h4⟩⟩
    obtain ⟨g1, g2, g3, g4⟩ := hv0 (by omega)
    exact n73 _ h4.1 h4.2 g1 g2 g3 (by rw [tU_nk (by decide)]; exact g4)
  have n48 : tT e d 3737 48 [some (.inr (.inr (.inl 664))), some (.inl (x1)), some (.inl (x2)), some (.inl (x3)), none] [.inr (.inr (.inl 664))] M n (tQi n (fun _ M' => MF M' D ∧ MC M M')) := by
    refine tb_X12_zeros_48 (c := false) ?_
    simp only [kb_X12_zeros_48, w_ic, w_goto, true_and, and_true, Nat.reduceAdd, Nat.reduceSub, eq_self]
    exact n65 3 (by omega) (fun q => absurd q (by decide))
  refine tb_X12_zeros_0 (c := false) ?_
  simp only [kb_X12_zeros_0, w_ald_0, w_ild_1, w_ild_2, w_iv2, tfr_0, tfr_1, tfr_2, tfr_3, tfr_4, w_if_le, w_ic, w_goto, true_and, and_true, Nat.reduceAdd, Nat.reduceSub, eq_self, tshm_14, tshm_31, tshm_32, tykm_31, tykm_32, tci_15, tci_960, tykm_14, tci_14, tshm_667, tshm_668, tshm_669, tshm_670, tykm_33, tci_700, tsn_671, tyn_17, tcn_10, tzs_672, tzs_673, tzs_680, tzs_681, tzs_682, tzs_683, tzs_684, tzs_685, tzs_686, tzs_687, tzs_688, tzs_689, tzy_15, tzy_35, tzy_36, tzy_37, tzy_38, tzy_39, tzy_40, tzc_60, tzc_320, tzc_5, tzc_4, tzc_8]
  refine tc_i (D := 2) (fun d' hd' => o_noLook h1 h2 hd') (by omega) ?_
  rintro z1 M1 ⟨q1, rfl⟩
  try simp only [kb_X12_zeros_0, w_ald_0, w_ild_1, w_ild_2, w_iv2, tfr_0, tfr_1, tfr_2, tfr_3, tfr_4, w_if_le, w_ic, w_goto, true_and, and_true, Nat.reduceAdd, Nat.reduceSub, eq_self, tshm_14, tshm_31, tshm_32, tykm_31, tykm_32, tci_15, tci_960, tykm_14, tci_14, tshm_667, tshm_668, tshm_669, tshm_670, tykm_33, tci_700, tsn_671, tyn_17, tcn_10, tzs_672, tzs_673, tzs_680, tzs_681, tzs_682, tzs_683, tzs_684, tzs_685, tzs_686, tzs_687, tzs_688, tzs_689, tzy_15, tzy_35, tzy_36, tzy_37, tzy_38, tzy_39, tzy_40, tzc_60, tzc_320, tzc_5, tzc_4, tzc_8]
  refine ⟨by omega, fun q => ?_, fun q => n65 1 (by omega) (fun q => absurd q (by decide))⟩
  refine tb_X12_zeros_14 (c := false) ?_
  simp only [kb_X12_zeros_14, w_ild_3, w_i2l, w_lc0, w_ld2, w_is3, tfr_0, tfr_1, tfr_2, tfr_3, tfr_4, w_if_ne, w_ic, w_goto, true_and, and_true, Nat.reduceAdd, Nat.reduceSub, eq_self]
  refine ⟨by omega, ?_⟩
  refine tc_i (D := 0) (fun d' hd' => c_in (by omega) (by omega) (by omega)) (by omega) ?_
  rintro z3 M3 ⟨q3, rfl⟩
  try simp only [kb_X12_zeros_14, w_ild_3, w_i2l, w_lc0, w_ld2, w_is3, tfr_0, tfr_1, tfr_2, tfr_3, tfr_4, w_if_ne, w_ic, w_goto, true_and, and_true, Nat.reduceAdd, Nat.reduceSub, eq_self]
  refine ⟨by omega, fun q => ?_, fun q => n65 2 (by omega) (fun q => absurd q (by decide))⟩
  have g := hP.2.2.1 x1 (by omega) (by omega)
  have k := hP.1.2.1.2.2 x2 (by omega) (by omega)
  refine tb_X12_zeros_30 (c := false) ?_
  simp only [kb_X12_zeros_30, w_ald_0, w_gf_14_33, tw_f, w_ild_1, w_ba, w_if_eq, w_gf_14_10, w_ild_2, w_if_ne, w_nil, true_and, and_true, Nat.reduceAdd, Nat.reduceSub, eq_self, tshm_14, tshm_31, tshm_32, tykm_31, tykm_32, tci_15, tci_960, tykm_14, tci_14, tshm_667, tshm_668, tshm_669, tshm_670, tykm_33, tci_700, tsn_671, tyn_17, tcn_10, tzs_672, tzs_673, tzs_680, tzs_681, tzs_682, tzs_683, tzs_684, tzs_685, tzs_686, tzs_687, tzs_688, tzs_689, tzy_15, tzy_35, tzy_36, tzy_37, tzy_38, tzy_39, tzy_40, tzc_60, tzc_320, tzc_5, tzc_4, tzc_8]
  refine ⟨by omega, by omega, fun q => n48, fun q => ⟨by omega, by omega, fun q => ?_, fun q => n48⟩⟩
  refine tb_X12_zeros_52 (c := false) ?_
  simp only [kb_X12_zeros_52, w_ald_0, w_ild_1, w_iv1, tfr_0, tfr_1, tfr_2, tfr_3, tfr_4, w_if_eq, w_ic, w_goto, true_and, and_true, Nat.reduceAdd, Nat.reduceSub, eq_self, tshm_14, tshm_31, tshm_32, tykm_31, tykm_32, tci_15, tci_960, tykm_14, tci_14, tshm_667, tshm_668, tshm_669, tshm_670, tykm_33, tci_700, tsn_671, tyn_17, tcn_10, tzs_672, tzs_673, tzs_680, tzs_681, tzs_682, tzs_683, tzs_684, tzs_685, tzs_686, tzs_687, tzs_688, tzs_689, tzy_15, tzy_35, tzy_36, tzy_37, tzy_38, tzy_39, tzy_40, tzc_60, tzc_320, tzc_5, tzc_4, tzc_8]
  refine tc_i (D := 0) (fun d' hd' => o_hasYOf hP.2.2.1 (by omega) (by omega)) (by omega) ?_
  rintro z4 M4 ⟨q4, rfl⟩
  try simp only [kb_X12_zeros_52, w_ald_0, w_ild_1, w_iv1, tfr_0, tfr_1, tfr_2, tfr_3, tfr_4, w_if_eq, w_ic, w_goto, true_and, and_true, Nat.reduceAdd, Nat.reduceSub, eq_self, tshm_14, tshm_31, tshm_32, tykm_31, tykm_32, tci_15, tci_960, tykm_14, tci_14, tshm_667, tshm_668, tshm_669, tshm_670, tykm_33, tci_700, tsn_671, tyn_17, tcn_10, tzs_672, tzs_673, tzs_680, tzs_681, tzs_682, tzs_683, tzs_684, tzs_685, tzs_686, tzs_687, tzs_688, tzs_689, tzy_15, tzy_35, tzy_36, tzy_37, tzy_38, tzy_39, tzy_40, tzc_60, tzc_320, tzc_5, tzc_4, tzc_8]
  refine ⟨by omega, fun q => ?_, fun q => n65 4 (by omega) (fun q => absurd q (by decide))⟩
  refine tb_X12_zeros_64 (c := false) ?_
  simp only [kb_X12_zeros_64, w_ic, w_nil, true_and, and_true, Nat.reduceAdd, Nat.reduceSub, eq_self]
  exact n65 0 (by omega) (fun _ => by omega)
end MODEL
