/-! THE MODEL: what a formula comes to, told into a shelf. -/

/-- as yE, and the boxes that x and y are change -/
def vE (T : Int → Prop) (M M' : tM) : Prop := (∀ (k : Nat) (i : Int), k ≠ 665 → k ≠ 666 → ¬ (k = 664 ∧ (i = 4 ∨ i = 5 ∨ i = 11 ∨ i = 12 ∨ i = 13 ∨ i = 14 ∨ i = 37 ∨ i = 38)) → ¬ (isB k ∧ T i) → M' k i = M k i) ∧ (KI M → KI M') ∧ (BI M → BI M')
theorem vE_refl {T : Int → Prop} {M : tM} : vE T M M := ⟨fun _ _ _ _ _ _ => rfl, id, id⟩
theorem vE_tr {T : Int → Prop} {M M1 M2 : tM} (h1 : vE T M M1) (h2 : vE T M1 M2) : vE T M M2 :=
  ⟨fun k i a b c q => (h2.1 k i a b c q).trans (h1.1 k i a b c q), fun q => h2.2.1 (h1.2.1 q), fun q => h2.2.2 (h1.2.2 q)⟩
theorem vE_mono {T T' : Int → Prop} {M M' : tM} (h : vE T M M') (hs : ∀ r, T r → T' r) : vE T' M M' :=
  ⟨fun k i a b c q => h.1 k i a b c (fun z => q ⟨z.1, hs _ z.2⟩), h.2⟩
theorem vE_y {T : Int → Prop} {M M' : tM} (h : yE T M M') : vE T M M' := ⟨fun k i a b c q => h.1 k i a b (by omega) q, h.2⟩
def zE (T : Int → Prop) (M M' : tM) : Prop := vE T M M' ∧ M' 664 11 = M 664 11
theorem zE_refl {T : Int → Prop} {M : tM} : zE T M M := ⟨vE_refl, rfl⟩
theorem zE_tr {T : Int → Prop} {M M1 M2 : tM} (h1 : zE T M M1) (h2 : zE T M1 M2) : zE T M M2 := ⟨vE_tr h1.1 h2.1, h2.2.trans h1.2⟩
theorem zE_mono {T T' : Int → Prop} {M M' : tM} (h : zE T M M') (hs : ∀ r, T r → T' r) : zE T' M M' := ⟨vE_mono h.1 hs, h.2⟩
theorem zE_x {T : Int → Prop} {M M' : tM} (h : xE T M M') : zE T M M' := ⟨vE_y h.1, h.2⟩
theorem vE_k {T : Int → Prop} {M M' : tM} (h : vE T M M') (k : Nat) (i : Int) (hk : (k = 664 ∧ (i = 2 ∨ i = 3 ∨ 15 ≤ i ∧ i ≤ 36 ∨ 39 ≤ i)) ∨ 671 ≤ k ∨ k < 664) : M' k i = M k i :=
  h.1 k i (by omega) (by omega) (by omega) (fun q => by have := q.1; unfold isB at this; omega)
theorem vE_b {T : Int → Prop} {M M' : tM} {b : Int} (h : vE T M M') (hb : ¬ T b) (k : Nat) (hk : isB k) : M' k b = M k b :=
  h.1 k b (by unfold isB at hk; omega) (by unfold isB at hk; omega) (by unfold isB at hk; omega) (fun q => hb q.2)
theorem OB_v {T : Int → Prop} {M M' : tM} {b : Int} (ho : OB M b) (h : vE T M M') (hb : ¬ T b) : OB M' b := OB_same (fun k g => vE_b h hb k g) ho
theorem OB_z {to f y : Int} {M M1 : tM} (ho : OB M y) (h : zE (toF to f) M M1) (h1 : y ≠ to) (h2 : y < f) : OB M1 y := OB_v ho h.1 (fun q => by rcases q with q | q <;> omega)
theorem MB_v {T : Int → Prop} {M M1 : tM} {D : Nat} {f g : Int} (h : MB M D f) (hx : vE T M M1) (h1 : M1 664 11 = g) (hg : 0 ≤ g ∧ g < 700) : MB M1 D g := by
  obtain ⟨a1, a2, a3, a4, a5, a6⟩ := h
  exact ⟨(vE_k hx 664 2 (by omega)).trans a1, a2, h1, hg, hx.2.2 a5, hx.2.1 a6⟩
theorem MB_z {T : Int → Prop} {M M1 : tM} {D : Nat} {f : Int} (h : MB M D f) (hx : zE T M M1) : MB M1 D f := MB_v h hx.1 (hx.2.trans h.2.2.1) h.2.2.2.1
theorem FI_v {T : Int → Prop} {M M1 : tM} (h : FI M) (hx : vE T M M1) : FI M1 := FI_same (fun k i g => vE_k hx k i (by omega)) h
theorem MF_v {T : Int → Prop} {M M1 : tM} {D : Nat} (h : MF M D) (hx : vE T M M1) (h1 : M1 664 11 = 60) (hO : ∀ b : Int, 0 ≤ b → b < 60 → OB M1 b) : MF M1 D ∧ MC M M1 := by
  obtain ⟨⟨a1, a2, a3⟩, a4, a5, a6⟩ := h
  refine ⟨⟨⟨MB_v a1 hx h1 (by omega), ⟨by rw [vE_k hx 664 25 (by omega)]; exact a2.1, fun j j1 j2 => ?_, fun i i1 i2 => by rw [vE_k hx 671 i (by omega)]; exact a2.2.2 i i1 i2⟩, hO⟩, TX_same (fun k i g => vE_k hx k i (by omega)) a4, FI_v a5 hx, PJ_same (fun k i g => vE_k hx k i (by omega)) a6⟩, fun k i g => vE_k hx k i (by omega)⟩
  have := a2.2.1 j j1 j2
  unfold KS at this ⊢
  rw [vE_k hx 674 j (by omega), vE_k hx 675 j (by omega), vE_k hx 676 j (by omega), vE_k hx 677 j (by omega), vE_k hx 678 j (by omega), vE_k hx 679 j (by omega)]
  exact this
/-- only boxes from 60 on -/
theorem MF_w {T : Int → Prop} {M M1 : tM} {D : Nat} (h : MF M D) (hx : vE T M M1) (h1 : M1 664 11 = 60) (hT : ∀ r, T r → 60 ≤ r) : MF M1 D ∧ MC M M1 :=
  MF_v h hx h1 (fun b b1 b2 => OB_v (h.1.2.2 b b1 b2) hx (fun q => by have := hT b q; omega))
theorem vE_free {T : Int → Prop} {M : tM} {v : Int} : vE T M (tU M 664 11 v) := vE_y yE_free
theorem vE_xy {T : Int → Prop} {M : tM} {x y : Int} : vE T M (tU (tU M 664 37 x) 664 38 y) := by
  have hk : ∀ (k : Nat) (i : Int), ¬ (k = 664 ∧ (i = 37 ∨ i = 38)) → tU (tU M 664 37 x) 664 38 y k i = M k i := fun k i g => by
    unfold tU
    rw [if_neg (by omega), if_neg (by omega)]
  exact ⟨fun k i _ _ c _ => hk k i (by omega), fun q => KI_k q (fun k i g => hk k i (by omega)), fun q => BI_same (fun k i g => hk k i (by unfold isB at g; omega)) q⟩
section MODEL
variable {e : tE} {d n D : Nat} {M : tM}
theorem o_told {to f fo x y sl : Int} (h : MB M D f) (hF : FI M) (hf : 0 ≤ fo ∧ fo ≤ 3) (hu : M 687 fo ≠ 0) (hx : 0 ≤ x ∧ x < f) (ox : OB M x) (hy : 0 ≤ y ∧ y < f) (oy : OB M y) (ht : 0 ≤ to ∧ to < f) (hf2 : f ≤ 500) (hs : sl = 0 ∨ sl = 1) (hd : 71 ≤ d) : tC e d 3724 [.inr (.inr (.inl 664)), .inl to, .inl fo, .inl x, .inl y, .inl sl] M n (tQi n (fun z M' => OK3 z M' to ∧ zE (toF to f) M M')) := by
  refine tst_X12_told ?_
  have n41 : ∀ (M1 : tM) (z : Int), OK3 z M1 to → zE (toF to f) M M1 → tT e d 3724 41 [some (.inr (.inr (.inl 664))), some (.inl (to)), some (.inl (fo)), some (.inl (x)), some (.inl (y)), some (.inl (sl))] [.inl z] M1 n (tQi n (fun z M' => OK3 z M' to ∧ zE (toF to f) M M')) := by
    intro M1 z a1 a2
    refine tb_X12_told_41 (c := false) ?_
    simp only [kb_X12_told_41, w_ire, trg, true_and, and_true, Nat.reduceAdd, Nat.reduceSub, eq_self]
    exact ⟨z, rfl, rfl, a1, a2⟩
  have g := hF fo (by omega) (by omega)
  have g2 := g.2.2 hu
  have v0 : vE (toF to f) M (tU (tU M 664 37 x) 664 38 y) := vE_xy
  have f0 : tU (tU M 664 37 x) 664 38 y 664 11 = f := by simp (disch := decide) only [tU_ni]; exact h.2.2.1
  have x0 : tU (tU M 664 37 x) 664 38 y 664 37 = x := by simp (disch := decide) only [tU_ni, tU_eq]
  have y0 : tU (tU M 664 37 x) 664 38 y 664 38 = y := tU_eq ..
  have w0 : vE (fun _ => False) M (tU (tU M 664 37 x) 664 38 y) := vE_xy
  refine tb_X12_told_0 (c := false) ?_
  simp only [kb_X12_told_0, w_ald_0, w_ild_3, w_pf_14_37, w_ild4, w_pf_14_38, w_ild5, w_if_eq, w_ild_1, w_gf_14_31, tw_f, w_ild_2, w_ia, w_iax, w_iv2, tfr_0, tfr_1, tfr_2, tfr_3, tfr_4, w_goto, true_and, and_true, Nat.reduceAdd, Nat.reduceSub, eq_self, tshm_14, tshm_31, tshm_32, tykm_31, tykm_32, tci_15, tci_960, tykm_14, tci_14, tshm_667, tshm_668, tshm_669, tshm_670, tykm_33, tci_700, tsn_671, tyn_17, tcn_10, tzs_672, tzs_673, tzs_680, tzs_681, tzs_682, tzs_683, tzs_684, tzs_685, tzs_686, tzs_687, tzs_688, tzs_689, tzy_15, tzy_35, tzy_36, tzy_37, tzy_38, tzy_39, tzy_40, tzc_60, tzc_320, tzc_5, tzc_4, tzc_8]
  generalize tU (tU M 664 37 x) 664 38 y = M0 at v0 f0 x0 y0 w0 ⊢
  have e85 : M0 685 fo = M 685 fo := vE_k v0 685 fo (by omega)
  have hV : VI M0 D f (64 * fo) (M 686 fo) := by
    refine ⟨MB_v h v0 f0 h.2.2.2.1, ?_, ⟨by omega, fun k k1 k2 => FN_same (fun c hc => vE_k v0 c k (by omega)) (g2.2 k k1 k2)⟩⟩
    unfold VX
    rw [x0, y0]
    exact ⟨⟨hx, OB_v ox w0 id⟩, hy, OB_v oy w0 id⟩
  refine ⟨by omega, fun q => ?_, fun q => ⟨by omega, ?_⟩⟩
  · refine tb_X12_told_30 (c := false) ?_
    simp only [kb_X12_told_30, w_ald_0, w_ild_1, w_gf_14_31, tw_f, w_ild_2, w_ia, w_iax, w_iv2, tfr_0, tfr_1, tfr_2, tfr_3, tfr_4, w_nil, true_and, and_true, Nat.reduceAdd, Nat.reduceSub, eq_self, tshm_14, tshm_31, tshm_32, tykm_31, tykm_32, tci_15, tci_960, tykm_14, tci_14, tshm_667, tshm_668, tshm_669, tshm_670, tykm_33, tci_700, tsn_671, tyn_17, tcn_10, tzs_672, tzs_673, tzs_680, tzs_681, tzs_682, tzs_683, tzs_684, tzs_685, tzs_686, tzs_687, tzs_688, tzs_689, tzy_15, tzy_35, tzy_36, tzy_37, tzy_38, tzy_39, tzy_40, tzc_60, tzc_320, tzc_5, tzc_4, tzc_8, e85]
    refine ⟨by omega, ?_⟩
    refine tc_i (D := 8 + 61) (fun d' hd' => o_values 61 hV (by omega) (by omega) (by omega) hd') (by omega) ?_
    rintro z M1 ⟨p1, p2⟩
    try simp only [kb_X12_told_30, w_ald_0, w_ild_1, w_gf_14_31, tw_f, w_ild_2, w_ia, w_iax, w_iv2, tfr_0, tfr_1, tfr_2, tfr_3, tfr_4, w_nil, true_and, and_true, Nat.reduceAdd, Nat.reduceSub, eq_self, tshm_14, tshm_31, tshm_32, tykm_31, tykm_32, tci_15, tci_960, tykm_14, tci_14, tshm_667, tshm_668, tshm_669, tshm_670, tykm_33, tci_700, tsn_671, tyn_17, tcn_10, tzs_672, tzs_673, tzs_680, tzs_681, tzs_682, tzs_683, tzs_684, tzs_685, tzs_686, tzs_687, tzs_688, tzs_689, tzy_15, tzy_35, tzy_36, tzy_37, tzy_38, tzy_39, tzy_40, tzc_60, tzc_320, tzc_5, tzc_4, tzc_8]
    exact n41 M1 z p1 ⟨vE_tr v0 (vE_y p2.1), by rw [p2.2, f0]; exact h.2.2.1.symm⟩
  · rw [e85]
    refine tc_i (D := 9 + 61) (fun d' hd' => o_slopes 61 hV (by omega) (by omega) (by omega) hd') (by omega) ?_
    rintro z M1 ⟨p1, p2⟩
    try simp only [kb_X12_told_0, w_ald_0, w_ild_3, w_pf_14_37, w_ild4, w_pf_14_38, w_ild5, w_if_eq, w_ild_1, w_gf_14_31, tw_f, w_ild_2, w_ia, w_iax, w_iv2, tfr_0, tfr_1, tfr_2, tfr_3, tfr_4, w_goto, true_and, and_true, Nat.reduceAdd, Nat.reduceSub, eq_self, tshm_14, tshm_31, tshm_32, tykm_31, tykm_32, tci_15, tci_960, tykm_14, tci_14, tshm_667, tshm_668, tshm_669, tshm_670, tykm_33, tci_700, tsn_671, tyn_17, tcn_10, tzs_672, tzs_673, tzs_680, tzs_681, tzs_682, tzs_683, tzs_684, tzs_685, tzs_686, tzs_687, tzs_688, tzs_689, tzy_15, tzy_35, tzy_36, tzy_37, tzy_38, tzy_39, tzy_40, tzc_60, tzc_320, tzc_5, tzc_4, tzc_8]
    exact n41 M1 z p1 ⟨vE_tr v0 (vE_y p2.1), by rw [p2.2, f0]; exact h.2.2.1.symm⟩
theorem o_makes_ {x1 x2 x3 x4 sl : Int} (hP : MF M D) (h1 : (-2147483648 ≤ x1 ∧ x1 < 2147483648)) (h2 : (-2147483648 ≤ x2 ∧ x2 < 2147483648)) (h3 : (-2147483648 ≤ x3 ∧ x3 < 2147483648)) (h4 : (-2147483648 ≤ x4 ∧ x4 < 2147483648)) (hs : sl = 0 ∨ sl = 1) (hd : 72 ≤ d) : tC e d 3653 [.inr (.inr (.inl 664)), .inl x1, .inl x2, .inl x3, .inl x4, .inl sl] M n (tQi n (fun z M' => (z = 0 ∨ z = 1) ∧ MF M' D ∧ MC M M')) := by
  refine tst_X12_makes_ ?_
  have n87 : ∀ (A B : Option tV) (M1 : tM), MF M1 D → MC M M1 → (0 ≤ x1 ∧ x1 ≤ 9) → (0 ≤ x2 ∧ x2 ≤ 3) → (0 ≤ x3 ∧ x3 ≤ 9) → (0 ≤ x4 ∧ x4 ≤ 9) → M1 687 x2 ≠ 0 → tT e d 3653 87 [some (.inr (.inr (.inl 664))), some (.inl (x1)), some (.inl (x2)), some (.inl (x3)), some (.inl (x4)), some (.inl (sl)), A, B] [] M1 n (tQi n (fun z M' => (z = 0 ∨ z = 1) ∧ MF M' D ∧ MC M M')) := by
    intro A B M1 q1 q2 g1 g2 g3 g4 hu
    have hin := MP_in q1.1
    have v0 : vE (fun r => 60 ≤ r) M1 (tU M1 664 11 61) := vE_free
    refine tb_X12_makes__87 (c := false) ?_
    simp only [kb_X12_makes__87, w_ald_0, w_bi, w_pf_14_11, w_ild_2, w_ild_3, w_ild4, w_ild5, w_iv5, tfr_0, tfr_1, tfr_2, tfr_3, tfr_4, w_ist7, tkl_n, tkl_i, tkl_l, tkl_r, w_ild_1, w_ild7, w_ic, w_iv4, w_ire, trg, true_and, and_true, Nat.reduceAdd, Nat.reduceSub, eq_self, tshm_14, tshm_31, tshm_32, tykm_31, tykm_32, tci_15, tci_960, tykm_14, tci_14, tshm_667, tshm_668, tshm_669, tshm_670, tykm_33, tci_700, tsn_671, tyn_17, tcn_10, tzs_672, tzs_673, tzs_680, tzs_681, tzs_682, tzs_683, tzs_684, tzs_685, tzs_686, tzs_687, tzs_688, tzs_689, tzy_15, tzy_35, tzy_36, tzy_37, tzy_38, tzy_39, tzy_40, tzc_60, tzc_320, tzc_5, tzc_4, tzc_8]
    have hu0 : tU M1 664 11 61 687 x2 ≠ 0 := by rw [tU_nk (by decide)]; exact hu
    generalize tU M1 664 11 61 = M2 at hin v0 hu0 ⊢
    refine tc_i (D := 71) (fun d' hd' => o_told hin.1 (FI_v q1.2.2.1 v0) g2 hu0 (by omega) (hin.2.2 x3 (by omega) (by omega)) (by omega) (hin.2.2 x4 (by omega) (by omega)) (by omega) (by omega) hs hd') (by omega) ?_
    rintro z M3 ⟨p1, p2⟩
    try simp only [kb_X12_makes__87, w_ald_0, w_bi, w_pf_14_11, w_ild_2, w_ild_3, w_ild4, w_ild5, w_iv5, tfr_0, tfr_1, tfr_2, tfr_3, tfr_4, w_ist7, tkl_n, tkl_i, tkl_l, tkl_r, w_ild_1, w_ild7, w_ic, w_iv4, w_ire, trg, true_and, and_true, Nat.reduceAdd, Nat.reduceSub, eq_self, tshm_14, tshm_31, tshm_32, tykm_31, tykm_32, tci_15, tci_960, tykm_14, tci_14, tshm_667, tshm_668, tshm_669, tshm_670, tykm_33, tci_700, tsn_671, tyn_17, tcn_10, tzs_672, tzs_673, tzs_680, tzs_681, tzs_682, tzs_683, tzs_684, tzs_685, tzs_686, tzs_687, tzs_688, tzs_689, tzy_15, tzy_35, tzy_36, tzy_37, tzy_38, tzy_39, tzy_40, tzc_60, tzc_320, tzc_5, tzc_4, tzc_8]
    have v3 : vE (fun r => 60 ≤ r) M1 (tU M3 664 11 60) := vE_tr v0 (vE_tr (vE_mono p2.1 (fun r q => by rcases q with q | q <;> omega)) vE_free)
    have h5 := MF_w q1 v3 (tU_eq ..) (fun _ q => q)
    refine tc_i (D := 3) (fun d' hd' => o_makes_f h5.1 g1 p1.1 (fun q => OB_v (p1.2 q) (vE_free (T := fun _ => False)) id) (by omega) (by omega) hd') (by omega) ?_
    rintro z2 M4 ⟨r1, r2, r3⟩
    try simp only [kb_X12_makes__87, w_ald_0, w_bi, w_pf_14_11, w_ild_2, w_ild_3, w_ild4, w_ild5, w_iv5, tfr_0, tfr_1, tfr_2, tfr_3, tfr_4, w_ist7, tkl_n, tkl_i, tkl_l, tkl_r, w_ild_1, w_ild7, w_ic, w_iv4, w_ire, trg, true_and, and_true, Nat.reduceAdd, Nat.reduceSub, eq_self, tshm_14, tshm_31, tshm_32, tykm_31, tykm_32, tci_15, tci_960, tykm_14, tci_14, tshm_667, tshm_668, tshm_669, tshm_670, tykm_33, tci_700, tsn_671, tyn_17, tcn_10, tzs_672, tzs_673, tzs_680, tzs_681, tzs_682, tzs_683, tzs_684, tzs_685, tzs_686, tzs_687, tzs_688, tzs_689, tzy_15, tzy_35, tzy_36, tzy_37, tzy_38, tzy_39, tzy_40, tzc_60, tzc_320, tzc_5, tzc_4, tzc_8]
    exact ⟨by omega, z2, rfl, rfl, r1, r2, MC_tr q2 (MC_tr h5.2 r3)⟩
  have n79 : ∀ (A B : Option tV) (v : Int), (0 ≤ v ∧ v ≤ 2) → (v = 0 → (0 ≤ x1 ∧ x1 ≤ 9) ∧ (0 ≤ x2 ∧ x2 ≤ 3) ∧ (0 ≤ x3 ∧ x3 ≤ 9) ∧ (0 ≤ x4 ∧ x4 ≤ 9) ∧ M 687 x2 ≠ 0) → tT e d 3653 79 [some (.inr (.inr (.inl 664))), some (.inl (x1)), some (.inl (x2)), some (.inl (x3)), some (.inl (x4)), some (.inl (sl)), A, B] [.inl v, .inr (.inr (.inl 664))] M n (tQi n (fun z M' => (z = 0 ∨ z = 1) ∧ MF M' D ∧ MC M M')) := by
    intro A B v hv hv0
    refine tb_X12_makes__79 (c := false) ?_
    simp only [kb_X12_makes__79, w_iv1, tfr_0, tfr_1, tfr_2, tfr_3, tfr_4, w_if_eq, w_ic, w_ire, trg, true_and, and_true, Nat.reduceAdd, Nat.reduceSub, eq_self, tshm_14, tshm_31, tshm_32, tykm_31, tykm_32, tci_15, tci_960, tykm_14, tci_14, tshm_667, tshm_668, tshm_669, tshm_670, tykm_33, tci_700, tsn_671, tyn_17, tcn_10, tzs_672, tzs_673, tzs_680, tzs_681, tzs_682, tzs_683, tzs_684, tzs_685, tzs_686, tzs_687, tzs_688, tzs_689, tzy_15, tzy_35, tzy_36, tzy_37, tzy_38, tzy_39, tzy_40, tzc_60, tzc_320, tzc_5, tzc_4, tzc_8]
    refine tc_i (D := 0) (fun d' hd' => o_fails (by omega)) (by omega) ?_
    rintro z M2 ⟨q2, rfl⟩
    try simp only [kb_X12_makes__79, w_iv1, tfr_0, tfr_1, tfr_2, tfr_3, tfr_4, w_if_eq, w_ic, w_ire, trg, true_and, and_true, Nat.reduceAdd, Nat.reduceSub, eq_self, tshm_14, tshm_31, tshm_32, tykm_31, tykm_32, tci_15, tci_960, tykm_14, tci_14, tshm_667, tshm_668, tshm_669, tshm_670, tykm_33, tci_700, tsn_671, tyn_17, tcn_10, tzs_672, tzs_673, tzs_680, tzs_681, tzs_682, tzs_683, tzs_684, tzs_685, tzs_686, tzs_687, tzs_688, tzs_689, tzy_15, tzy_35, tzy_36, tzy_37, tzy_38, tzy_39, tzy_40, tzc_60, tzc_320, tzc_5, tzc_4, tzc_8]
    have h5 := MF_3 (v := v) hP
    refine ⟨by omega, fun h => ?_, fun h => ⟨by omega, 0, rfl, rfl, Or.inl rfl, h5⟩⟩
    obtain ⟨g1, g2, g3, g4, g5⟩ := hv0 (by omega)
    exact n87 _ _ _ h5.1 h5.2 g1 g2 g3 g4 (by rw [tU_nk (by decide)]; exact g5)
  have n74 : ∀ A B : Option tV, tT e d 3653 74 [some (.inr (.inr (.inl 664))), some (.inl (x1)), some (.inl (x2)), some (.inl (x3)), some (.inl (x4)), some (.inl (sl)), A, B] [.inr (.inr (.inl 664))] M n (tQi n (fun z M' => (z = 0 ∨ z = 1) ∧ MF M' D ∧ MC M M')) := by
    intro A B
    refine tb_X12_makes__74 (c := false) ?_
    simp only [kb_X12_makes__74, w_ic, w_goto, true_and, and_true, Nat.reduceAdd, Nat.reduceSub, eq_self]
    exact n79 _ _ 2 (by omega) (fun q => absurd q (by decide))
  have n34 : ∀ v : Int, (v = 1 ∧ (0 ≤ x1 ∧ x1 ≤ 9) ∧ (0 ≤ x2 ∧ x2 ≤ 3) ∧ (0 ≤ x3 ∧ x3 ≤ 9) ∧ (0 ≤ x4 ∧ x4 ≤ 9) ∨ v = 0) → tT e d 3653 34 [some (.inr (.inr (.inl 664))), some (.inl (x1)), some (.inl (x2)), some (.inl (x3)), some (.inl (x4)), some (.inl (sl)), none, none] [.inl v] M n (tQi n (fun z M' => (z = 0 ∨ z = 1) ∧ MF M' D ∧ MC M M')) := by
    intro v hv
    refine tb_X12_makes__34 (c := false) ?_
    simp only [kb_X12_makes__34, w_ist6, tkl_n, tkl_i, tkl_l, tkl_r, w_ald_0, w_ild6, w_if_ne, w_ic, w_goto, true_and, and_true, Nat.reduceAdd, Nat.reduceSub, eq_self]
    refine ⟨by omega, fun h => ?_, fun h => n79 _ _ 1 (by omega) (fun q => absurd q (by decide))⟩
    have g := hP.2.2.1 x2 (by omega) (by omega)
    have a3 := hP.1.2.1.2.2 x3 (by omega) (by omega)
    have a4 := hP.1.2.1.2.2 x4 (by omega) (by omega)
    refine tb_X12_makes__46 (c := false) ?_
    simp only [kb_X12_makes__46, w_ald_0, w_gf_14_33, tw_f, w_ild_2, w_ba, w_if_eq, w_gf_14_10, w_ild_3, w_ild4, w_if_ne, w_nil, true_and, and_true, Nat.reduceAdd, Nat.reduceSub, eq_self, tshm_14, tshm_31, tshm_32, tykm_31, tykm_32, tci_15, tci_960, tykm_14, tci_14, tshm_667, tshm_668, tshm_669, tshm_670, tykm_33, tci_700, tsn_671, tyn_17, tcn_10, tzs_672, tzs_673, tzs_680, tzs_681, tzs_682, tzs_683, tzs_684, tzs_685, tzs_686, tzs_687, tzs_688, tzs_689, tzy_15, tzy_35, tzy_36, tzy_37, tzy_38, tzy_39, tzy_40, tzc_60, tzc_320, tzc_5, tzc_4, tzc_8]
    refine ⟨by omega, by omega, fun h => n74 _ _, fun h => ⟨by omega, by omega, fun h => n74 _ _, fun h => ⟨by omega, by omega, fun h => ?_, fun h => n74 _ _⟩⟩⟩
    refine tb_X12_makes__78 (c := false) ?_
    simp only [kb_X12_makes__78, w_ic, w_nil, true_and, and_true, Nat.reduceAdd, Nat.reduceSub, eq_self]
    exact n79 _ _ 0 (by omega) (fun _ => by omega)
  have n33 : tT e d 3653 33 [some (.inr (.inr (.inl 664))), some (.inl (x1)), some (.inl (x2)), some (.inl (x3)), some (.inl (x4)), some (.inl (sl)), none, none] [] M n (tQi n (fun z M' => (z = 0 ∨ z = 1) ∧ MF M' D ∧ MC M M')) := by
    refine tb_X12_makes__33 (c := false) ?_
    simp only [kb_X12_makes__33, w_ic, w_nil, true_and, and_true, Nat.reduceAdd, Nat.reduceSub, eq_self]
    exact n34 0 (by omega)
  refine tb_X12_makes__0 (c := false) ?_
  simp only [kb_X12_makes__0, w_ild_1, w_is1, tfr_0, tfr_1, tfr_2, tfr_3, tfr_4, w_if_eq, w_ild_3, w_ild4, w_ild_2, w_ic, w_goto, true_and, and_true, Nat.reduceAdd, Nat.reduceSub, eq_self]
  refine tc_i (D := 1) (fun d' hd' => o_isShelf h1 hd') (by omega) ?_
  rintro z1 M1 ⟨q1, rfl⟩
  try simp only [kb_X12_makes__0, w_ild_1, w_is1, tfr_0, tfr_1, tfr_2, tfr_3, tfr_4, w_if_eq, w_ild_3, w_ild4, w_ild_2, w_ic, w_goto, true_and, and_true, Nat.reduceAdd, Nat.reduceSub, eq_self]
  refine ⟨by omega, fun h => n33, fun h => ?_⟩
  refine tc_i (D := 1) (fun d' hd' => o_isShelf h3 hd') (by omega) ?_
  rintro z1 M1 ⟨q3, rfl⟩
  try simp only [kb_X12_makes__0, w_ild_1, w_is1, tfr_0, tfr_1, tfr_2, tfr_3, tfr_4, w_if_eq, w_ild_3, w_ild4, w_ild_2, w_ic, w_goto, true_and, and_true, Nat.reduceAdd, Nat.reduceSub, eq_self]
  refine ⟨by omega, fun h => n33, fun h => ?_⟩
  refine tc_i (D := 1) (fun d' hd' => o_isShelf h4 hd') (by omega) ?_
  rintro z1 M1 ⟨q4, rfl⟩
  try simp only [kb_X12_makes__0, w_ild_1, w_is1, tfr_0, tfr_1, tfr_2, tfr_3, tfr_4, w_if_eq, w_ild_3, w_ild4, w_ild_2, w_ic, w_goto, true_and, and_true, Nat.reduceAdd, Nat.reduceSub, eq_self]
  refine ⟨by omega, fun h => n33, fun h => ?_⟩
  refine tc_i (D := 1) (fun d' hd' => o_isFormula h2 hd') (by omega) ?_
  rintro z1 M1 ⟨q5, rfl⟩
  try simp only [kb_X12_makes__0, w_ild_1, w_is1, tfr_0, tfr_1, tfr_2, tfr_3, tfr_4, w_if_eq, w_ild_3, w_ild4, w_ild_2, w_ic, w_goto, true_and, and_true, Nat.reduceAdd, Nat.reduceSub, eq_self]
  refine ⟨by omega, fun h => n33, fun h => n34 1 (by omega)⟩
theorem o_value {x1 x2 x3 x4 : Int} (hP : MF M D) (h1 : (-2147483648 ≤ x1 ∧ x1 < 2147483648)) (h2 : (-2147483648 ≤ x2 ∧ x2 < 2147483648)) (h3 : (-2147483648 ≤ x3 ∧ x3 < 2147483648)) (h4 : (-2147483648 ≤ x4 ∧ x4 < 2147483648)) (hd : 73 ≤ d) : tC e d 3732 [.inr (.inr (.inl 664)), .inl x1, .inl x2, .inl x3, .inl x4] M n (tQi n (fun _ M' => MF M' D ∧ MC M M')) := by
  refine tst_X12_value ?_
  refine tb_X12_value_0 (c := false) ?_
  simp only [kb_X12_value_0, w_ald_0, w_ild_1, w_ild_2, w_ild_3, w_ild4, w_ic, w_iv5, tfr_0, tfr_1, tfr_2, tfr_3, tfr_4, w_ire, trg, true_and, and_true, Nat.reduceAdd, Nat.reduceSub, eq_self, tshm_14, tshm_31, tshm_32, tykm_31, tykm_32, tci_15, tci_960, tykm_14, tci_14, tshm_667, tshm_668, tshm_669, tshm_670, tykm_33, tci_700, tsn_671, tyn_17, tcn_10, tzs_672, tzs_673, tzs_680, tzs_681, tzs_682, tzs_683, tzs_684, tzs_685, tzs_686, tzs_687, tzs_688, tzs_689, tzy_15, tzy_35, tzy_36, tzy_37, tzy_38, tzy_39, tzy_40, tzc_60, tzc_320, tzc_5, tzc_4, tzc_8]
  refine tc_i (D := 72) (fun d' hd' => o_makes_ hP h1 h2 h3 h4 (Or.inl rfl) hd') (by omega) ?_
  rintro z M1 ⟨hz, q⟩
  try simp only [kb_X12_value_0, w_ald_0, w_ild_1, w_ild_2, w_ild_3, w_ild4, w_ic, w_iv5, tfr_0, tfr_1, tfr_2, tfr_3, tfr_4, w_ire, trg, true_and, and_true, Nat.reduceAdd, Nat.reduceSub, eq_self, tshm_14, tshm_31, tshm_32, tykm_31, tykm_32, tci_15, tci_960, tykm_14, tci_14, tshm_667, tshm_668, tshm_669, tshm_670, tykm_33, tci_700, tsn_671, tyn_17, tcn_10, tzs_672, tzs_673, tzs_680, tzs_681, tzs_682, tzs_683, tzs_684, tzs_685, tzs_686, tzs_687, tzs_688, tzs_689, tzy_15, tzy_35, tzy_36, tzy_37, tzy_38, tzy_39, tzy_40, tzc_60, tzc_320, tzc_5, tzc_4, tzc_8]
  exact ⟨by omega, z, rfl, rfl, q⟩
theorem o_slope {x1 x2 x3 x4 : Int} (hP : MF M D) (h1 : (-2147483648 ≤ x1 ∧ x1 < 2147483648)) (h2 : (-2147483648 ≤ x2 ∧ x2 < 2147483648)) (h3 : (-2147483648 ≤ x3 ∧ x3 < 2147483648)) (h4 : (-2147483648 ≤ x4 ∧ x4 < 2147483648)) (hd : 73 ≤ d) : tC e d 3709 [.inr (.inr (.inl 664)), .inl x1, .inl x2, .inl x3, .inl x4] M n (tQi n (fun _ M' => MF M' D ∧ MC M M')) := by
  refine tst_X12_slope ?_
  refine tb_X12_slope_0 (c := false) ?_
  simp only [kb_X12_slope_0, w_ald_0, w_ild_1, w_ild_2, w_ild_3, w_ild4, w_ic, w_iv5, tfr_0, tfr_1, tfr_2, tfr_3, tfr_4, w_ire, trg, true_and, and_true, Nat.reduceAdd, Nat.reduceSub, eq_self, tshm_14, tshm_31, tshm_32, tykm_31, tykm_32, tci_15, tci_960, tykm_14, tci_14, tshm_667, tshm_668, tshm_669, tshm_670, tykm_33, tci_700, tsn_671, tyn_17, tcn_10, tzs_672, tzs_673, tzs_680, tzs_681, tzs_682, tzs_683, tzs_684, tzs_685, tzs_686, tzs_687, tzs_688, tzs_689, tzy_15, tzy_35, tzy_36, tzy_37, tzy_38, tzy_39, tzy_40, tzc_60, tzc_320, tzc_5, tzc_4, tzc_8]
  refine tc_i (D := 72) (fun d' hd' => o_makes_ hP h1 h2 h3 h4 (Or.inr rfl) hd') (by omega) ?_
  rintro z M1 ⟨hz, q⟩
  try simp only [kb_X12_slope_0, w_ald_0, w_ild_1, w_ild_2, w_ild_3, w_ild4, w_ic, w_iv5, tfr_0, tfr_1, tfr_2, tfr_3, tfr_4, w_ire, trg, true_and, and_true, Nat.reduceAdd, Nat.reduceSub, eq_self, tshm_14, tshm_31, tshm_32, tykm_31, tykm_32, tci_15, tci_960, tykm_14, tci_14, tshm_667, tshm_668, tshm_669, tshm_670, tykm_33, tci_700, tsn_671, tyn_17, tcn_10, tzs_672, tzs_673, tzs_680, tzs_681, tzs_682, tzs_683, tzs_684, tzs_685, tzs_686, tzs_687, tzs_688, tzs_689, tzy_15, tzy_35, tzy_36, tzy_37, tzy_38, tzy_39, tzy_40, tzc_60, tzc_320, tzc_5, tzc_4, tzc_8]
  exact ⟨by omega, z, rfl, rfl, q⟩
end MODEL
