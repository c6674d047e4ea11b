/-! THE MODEL: values, with what they come to. -/

def XV (M : tM) (xl xh yl yh : Int) : Prop := (zlo M (M 664 37) = xl ∧ zhi M (M 664 37) = xh) ∧ (zlo M (M 664 38) = yl ∧ zhi M (M 664 38) = yh)
def BM (N M : tM) : Prop := ∀ (k : Nat) (i : Int), 680 ≤ k ∧ k ≤ 684 → M k i = N k i
theorem BM_y {T : Int → Prop} {N M M1 : tM} (h : BM N M) (hx : yE T M M1) : BM N M1 := fun k i g => (hx.1 k i (by omega) (by omega) (by omega) (fun q => by have := q.1; unfold isB at this; omega)).trans (h k i g)
theorem XV_y {T : Int → Prop} {M M1 : tM} {f xl xh yl yh : Int} (h : XV M xl xh yl yh) (hv : VX M f) (hx : yE T M M1) (hT : ∀ r, T r → f ≤ r) : XV M1 xl xh yl yh := by
  have e1 : M1 664 37 = M 664 37 := hx.1 664 37 (by decide) (by decide) (by decide) (fun q => by have := q.1; unfold isB at this; omega)
  have e2 : M1 664 38 = M 664 38 := hx.1 664 38 (by decide) (by decide) (by decide) (fun q => by have := q.1; unfold isB at this; omega)
  obtain ⟨⟨a1, a2⟩, a3, a4⟩ := hv
  unfold XV at h ⊢
  rw [e1, e2, yE_lo hx (fun q => by have := hT _ q; omega), yE_hi hx (fun q => by have := hT _ q; omega), yE_lo hx (fun q => by have := hT _ q; omega), yE_hi hx (fun q => by have := hT _ q; omega)]
  exact h
/-- hidden from arithmetic -/
def Hid (p : Prop) : Prop := p
theorem FN_kids {M : tM} {b p : Int} (h : FN M b p) (c1 : M 680 p ≠ 49) (c2 : M 680 p ≠ 112) (c3 : M 680 p ≠ 120) (c4 : M 680 p ≠ 121) : (b ≤ M 681 p ∧ M 681 p < p) ∧ (M 680 p = 43 ∨ M 680 p = 45 ∨ M 680 p = 42 ∨ M 680 p = 47 → b ≤ M 682 p ∧ M 682 p < p) ∧ (M 680 p = 94 → 0 ≤ M 682 p ∧ M 682 p ≤ 9) ∧ (M 680 p = 110 ∨ M 680 p = 114 ∨ M 680 p = 101 ∨ M 680 p = 108 ∨ M 680 p = 97 ∨ M 680 p = 94 ∨ M 680 p = 43 ∨ M 680 p = 45 ∨ M 680 p = 42 ∨ M 680 p = 47) := by
  unfold FN at h
  rcases h with h | h | ⟨h1, h2, h3⟩ | ⟨h1, h2⟩ | ⟨h1, h2, h3⟩
  · exact absurd h.1 c1
  · omega
  · exact ⟨h2, fun q => by omega, fun _ => h3, by omega⟩
  · exact ⟨h2, fun q => by omega, fun q => by omega, by omega⟩
  · exact ⟨h2, fun _ => h3, fun q => by omega, by omega⟩
section MODEL
variable {e : tE}
section OPS
variable {d n D : Nat} {M : tM} {to a b f : Int}
theorem e_lifted {k : Nat} (h : MB M D f) (ht : 0 ≤ to ∧ to < 700) (ha : 0 ≤ a ∧ a < f) (la : OB M a) (hk : k ≤ 9) (hd : 5 ≤ d) : tC e d 3645 [.inr (.inr (.inl 664)), .inl to, .inl a, .inl (k : Int)] M n (tQi n (fun z M' => OK3 z M' to ∧ (z = 0 → zlo M' to = lfL D k (zlo M a) (zhi M a) ∧ zhi M' to = lfH D k (zlo M a) (zhi M a)) ∧ xE (toF to f) M M')) := by
  obtain ⟨h1, h2, h3, h4, h5, h6⟩ := h
  refine tC_mono (c_lifted h1 h2 ht (by omega) (h5 a (by omega) (by omega)) hk hd) ?_
  rintro v M' n' ⟨z, q1, q2, q3, q4⟩
  exact ⟨z, q1, q2, ok3_of q3 (fun _ => lf_le la.1), q3.2.1, xE_to q4⟩
theorem e_negative (h : MB M D f) (ht : 0 ≤ to ∧ to < 700) (ha : 0 ≤ a ∧ a < f) (la : OB M a) (hd : 3 ≤ d) : tC e d 3664 [.inr (.inr (.inl 664)), .inl to, .inl a] M n (tQi n (fun z M' => OK3 z M' to ∧ (z = 0 → zlo M' to = flo (uu D) (-zhi M a) ∧ zhi M' to = cei (uu D) (-zlo M a)) ∧ xE (toF to f) M M')) := by
  obtain ⟨h1, h2, h3, h4, h5, h6⟩ := h
  refine tC_mono (c_negative h1 h2 ht (by omega) h5 hd) ?_
  rintro v M' n' ⟨z, q1, q2, q3, q4⟩
  unfold OB at la
  exact ⟨z, q1, q2, ok3_of q3 (fun _ => fc_le (uu_pos D) (by omega)), q3.2.1, xE_to q4⟩
theorem e_rooted {k : Nat} (h : MB M D f) (ht : 0 ≤ to ∧ to < 700) (ha : 0 ≤ a ∧ a < f) (la : OB M a) (hk : 2 ≤ k ∧ k ≤ 9) (hd : 5 ≤ d) : tC e d 3695 [.inr (.inr (.inl 664)), .inl to, .inl a, .inl (k : Int)] M n (tQi n (fun z M' => OK3 z M' to ∧ (z = 0 → zlo M' to = rtb 0 D k (zlo M a).toNat ∧ zhi M' to = rtb 1 D k (zhi M a).toNat) ∧ xE (toF to f) M M')) := by
  obtain ⟨h1, h2, h3, h4, h5, h6⟩ := h
  refine tC_mono (c_rooted h1 h2 ht (by omega) (h5 a (by omega) (by omega)) la.1 hk hd) ?_
  rintro v M' n' ⟨z, q1, q2, q3, q4, q5⟩
  unfold OB at la
  refine ⟨z, q1, q2, ok3_of q3 (fun _ => rtb_le (by omega) ?_), q3.2.1, xE_to q5⟩
  omega
theorem e_rising {c : Int} (h : MB M D f) (ht : 0 ≤ to ∧ to < 700) (ha : 0 ≤ a ∧ a < f) (la : OB M a) (hc : 0 ≤ c ∧ c < 65536) (hd : 7 ≤ d) : tC e d 3693 [.inr (.inr (.inl 664)), .inl to, .inl a, .inl c] M n (tQi n (fun z M' => OK3 z M' to ∧ (z = 0 → (c = 108 → 0 < zlo M a) ∧ zlo M' to = fnb c 0 D (zlo M a) ∧ zhi M' to = fnb c 1 D (zhi M a)) ∧ xE (toF to f) M M')) := by
  obtain ⟨h1, h2, h3, h4, h5, h6⟩ := h
  have hb := h5 a (by omega) (by omega)
  refine tC_mono (c_rising h6 h1 h2 ht (by omega) hb la.1 hc hd) ?_
  rintro v M' n' ⟨z, q1, q2, q3, q4, q5⟩
  exact ⟨z, q1, q2, ok3_of q3 (fun g => fnb_le h2 la.1 hb.2.1.1 hb.2.2.2 (q4 g)), fun g => ⟨q4 g, q3.2.1 g⟩, xE_to q5⟩
theorem e_known (h : MB M D f) (ht : 0 ≤ to ∧ to < 700) (hd : 5 ≤ d) : tC e d 3641 [.inr (.inr (.inl 664)), .inl to, .inl 1] M n (tQn n (fun M' => OB M' to ∧ (zlo M' to = deepb 0 D (kno 1) 0 ∧ zhi M' to = deepb 1 D (kno 1) 0) ∧ xE (toF to f) M M')) := by
  have ho := o_known (e := e) (n := n) (d := d) h ht (Or.inr rfl) hd
  obtain ⟨h1, h2, h3, h4, h5, h6⟩ := h
  refine tC_mono (c_known h6 h1 h2 ht (Or.inr rfl) hd) ?_
  rintro v M' n' ⟨q1, q2, q3, q4, q5⟩
  refine ⟨q1, q2, ?_, ⟨q3, q4⟩, xE_to q5⟩
  unfold OB
  rw [q3, q4]
  refine ⟨deepb_le, ?_, ?_⟩
  · unfold deepb
    rw [if_neg (by decide)]
    omega
  · have := deep_small (v := kno 1) (up := 1) h2 (kno_le 1)
    unfold deepb
    rw [if_neg (by decide)]
    omega
theorem e_number {row : Int} {s x : Nat} (h : MB M D f) (ht : 0 ≤ to ∧ to < 700) (hr : 0 < row ∧ row < 15) (hr8 : row ≠ 8) (hV : Vr M row x) (hx : x < tn 60) (hs : s ≤ 60) (hd : 5 ≤ d) : tC e d 3669 [.inr (.inr (.inl 664)), .inl to, .inl row, .inl (s : Int), .inl 0] M n (tQi n (fun z M' => OK3 z M' to ∧ (z = 0 → zlo M' to = nbv 0 D s x 0 ∧ zhi M' to = nbv 1 D s x 0) ∧ xE (toF to f) M M')) := by
  obtain ⟨h1, h2, h3, h4, h5, h6⟩ := h
  refine tC_mono (c_number h1 h2 ht hr hr8 hV hx hs (Or.inl rfl) hd) ?_
  rintro v M' n' ⟨z, q1, q2, q3, q4⟩
  exact ⟨z, q1, q2, ok3_of q3 (fun _ => nbv_le D s x (Or.inl rfl)), q3.2.1, xE_to q4⟩
theorem e_acts {c : Int} (h : MB M D f) (ht : 0 ≤ to ∧ to < 700) (ha : 0 ≤ a ∧ a < f) (hb : 0 ≤ b ∧ b < f) (la : OB M a) (lb : OB M b) (hc : c = 43 ∨ c = 45 ∨ c = 42 ∨ c = 47) (hd : 7 ≤ d) : tC e d 3585 [.inr (.inr (.inl 664)), .inl to, .inl c, .inl a, .inl b] M n (tQi n (fun z M' => OK3 z M' to ∧ (z = 0 → AC D c (zlo M a) (zhi M a) (zlo M b) (zhi M b) (zlo M' to) (zhi M' to)) ∧ xE (toF to f) M M')) := by
  have hcr : 0 ≤ c ∧ c ≤ 65535 := by omega
  obtain ⟨h1, h2, h3, h4, h5, h6⟩ := h
  have oa := la
  have ob := lb
  unfold OB at oa ob
  refine tst_X12_acts ?_
  have n59 : ∀ (M1 : tM) (z : Int), OK3 z M1 to → (z = 0 → AC D c (zlo M a) (zhi M a) (zlo M b) (zhi M b) (zlo M1 to) (zhi M1 to)) → xE (toF to f) M M1 → tT e d 3585 59 [some (.inr (.inr (.inl 664))), some (.inl (to)), some (.inl (c)), some (.inl (a)), some (.inl (b))] [.inl z] M1 n (tQi n (fun z M' => OK3 z M' to ∧ (z = 0 → AC D c (zlo M a) (zhi M a) (zlo M b) (zhi M b) (zlo M' to) (zhi M' to)) ∧ xE (toF to f) M M')) := by
    intro M1 z q1 q2 q3
    refine tb_X12_acts_59 (c := false) ?_
    simp only [kb_X12_acts_59, w_ire, trg, true_and, and_true, Nat.reduceAdd, Nat.reduceSub, eq_self]
    exact ⟨z, rfl, rfl, q1, q2, q3⟩
  refine tb_X12_acts_0 (c := false) ?_
  simp only [kb_X12_acts_0, w_ild_2, w_bi, w_ic_ne, w_ald_0, w_ild_1, w_ild_3, w_ild4, w_iv3, tfr_0, tfr_1, tfr_2, tfr_3, tfr_4, w_goto, true_and, and_true, Nat.reduceAdd, Nat.reduceSub, eq_self, tshm_14, tshm_31, tshm_32, tykm_31, tykm_32, tci_15, tci_960, tykm_14, tci_14, tshm_667, tshm_668, tshm_669, tshm_670, tykm_33, tci_700, tsn_671, tyn_17, tcn_10, tzs_672, tzs_673, tzs_680, tzs_681, tzs_682, tzs_683, tzs_684, tzs_685, tzs_686, tzs_687, tzs_688, tzs_689, tzy_15, tzy_35, tzy_36, tzy_37, tzy_38, tzy_39, tzy_40, tzc_60, tzc_320, tzc_5, tzc_4, tzc_8]
  refine ⟨by omega, fun g1 => ?_, fun g1 => ?_⟩
  · refine tb_X12_acts_17 (c := false) ?_
    simp only [kb_X12_acts_17, w_ild_2, w_bi, w_ic_ne, w_ald_0, w_ild_1, w_ild_3, w_ild4, w_iv3, tfr_0, tfr_1, tfr_2, tfr_3, tfr_4, w_goto, true_and, and_true, Nat.reduceAdd, Nat.reduceSub, eq_self, tshm_14, tshm_31, tshm_32, tykm_31, tykm_32, tci_15, tci_960, tykm_14, tci_14, tshm_667, tshm_668, tshm_669, tshm_670, tykm_33, tci_700, tsn_671, tyn_17, tcn_10, tzs_672, tzs_673, tzs_680, tzs_681, tzs_682, tzs_683, tzs_684, tzs_685, tzs_686, tzs_687, tzs_688, tzs_689, tzy_15, tzy_35, tzy_36, tzy_37, tzy_38, tzy_39, tzy_40, tzc_60, tzc_320, tzc_5, tzc_4, tzc_8]
    refine ⟨by omega, fun g2 => ?_, fun g2 => ?_⟩
    · refine tb_X12_acts_34 (c := false) ?_
      simp only [kb_X12_acts_34, w_ild_2, w_bi, w_ic_ne, w_ald_0, w_ild_1, w_ild_3, w_ild4, w_iv3, tfr_0, tfr_1, tfr_2, tfr_3, tfr_4, w_goto, true_and, and_true, Nat.reduceAdd, Nat.reduceSub, eq_self, tshm_14, tshm_31, tshm_32, tykm_31, tykm_32, tci_15, tci_960, tykm_14, tci_14, tshm_667, tshm_668, tshm_669, tshm_670, tykm_33, tci_700, tsn_671, tyn_17, tcn_10, tzs_672, tzs_673, tzs_680, tzs_681, tzs_682, tzs_683, tzs_684, tzs_685, tzs_686, tzs_687, tzs_688, tzs_689, tzy_15, tzy_35, tzy_36, tzy_37, tzy_38, tzy_39, tzy_40, tzc_60, tzc_320, tzc_5, tzc_4, tzc_8]
      refine ⟨by omega, fun g3 => ?_, fun g3 => ?_⟩
      · refine tb_X12_acts_51 (c := false) ?_
        simp only [kb_X12_acts_51, w_ald_0, w_ild_1, w_ild_3, w_ild4, w_iv3, tfr_0, tfr_1, tfr_2, tfr_3, tfr_4, w_nil, true_and, and_true, Nat.reduceAdd, Nat.reduceSub, eq_self, tshm_14, tshm_31, tshm_32, tykm_31, tykm_32, tci_15, tci_960, tykm_14, tci_14, tshm_667, tshm_668, tshm_669, tshm_670, tykm_33, tci_700, tsn_671, tyn_17, tcn_10, tzs_672, tzs_673, tzs_680, tzs_681, tzs_682, tzs_683, tzs_684, tzs_685, tzs_686, tzs_687, tzs_688, tzs_689, tzy_15, tzy_35, tzy_36, tzy_37, tzy_38, tzy_39, tzy_40, tzc_60, tzc_320, tzc_5, tzc_4, tzc_8]
        refine tc_i (D := 6) (fun d' hd' => c_quotient h1 h2 h3 h4 ht ha hb h5 lb.1 hd') (by omega) ?_
        rintro z M1 ⟨q3, q4, q5⟩
        try simp only [kb_X12_acts_51, w_ald_0, w_ild_1, w_ild_3, w_ild4, w_iv3, tfr_0, tfr_1, tfr_2, tfr_3, tfr_4, w_nil, true_and, and_true, Nat.reduceAdd, Nat.reduceSub, eq_self, tshm_14, tshm_31, tshm_32, tykm_31, tykm_32, tci_15, tci_960, tykm_14, tci_14, tshm_667, tshm_668, tshm_669, tshm_670, tykm_33, tci_700, tsn_671, tyn_17, tcn_10, tzs_672, tzs_673, tzs_680, tzs_681, tzs_682, tzs_683, tzs_684, tzs_685, tzs_686, tzs_687, tzs_688, tzs_689, tzy_15, tzy_35, tzy_36, tzy_37, tzy_38, tzy_39, tzy_40, tzc_60, tzc_320, tzc_5, tzc_4, tzc_8]
        refine n59 M1 z (ok3_of q3 (fun _ => mn4_le)) (fun g => ?_) q5
        have c0 : c = 47 := by omega
        exact Or.inr (Or.inr (Or.inr ⟨c0, q4 g, q3.2.1 g⟩))
      · refine tc_i (D := 6) (fun d' hd' => c_product h1 h2 h3 h4 ht ha hb h5 hd') (by omega) ?_
        rintro z M1 ⟨q3, q4⟩
        try simp only [kb_X12_acts_34, w_ild_2, w_bi, w_ic_ne, w_ald_0, w_ild_1, w_ild_3, w_ild4, w_iv3, tfr_0, tfr_1, tfr_2, tfr_3, tfr_4, w_goto, true_and, and_true, Nat.reduceAdd, Nat.reduceSub, eq_self, tshm_14, tshm_31, tshm_32, tykm_31, tykm_32, tci_15, tci_960, tykm_14, tci_14, tshm_667, tshm_668, tshm_669, tshm_670, tykm_33, tci_700, tsn_671, tyn_17, tcn_10, tzs_672, tzs_673, tzs_680, tzs_681, tzs_682, tzs_683, tzs_684, tzs_685, tzs_686, tzs_687, tzs_688, tzs_689, tzy_15, tzy_35, tzy_36, tzy_37, tzy_38, tzy_39, tzy_40, tzc_60, tzc_320, tzc_5, tzc_4, tzc_8]
        refine n59 M1 z (ok3_of q3 (fun _ => mn4_le)) (fun g => ?_) q4
        have c0 : c = 42 := by omega
        exact Or.inr (Or.inr (Or.inl ⟨c0, q3.2.1 g⟩))
    · refine tc_i (D := 6) (fun d' hd' => c_difference h1 h2 h3 h4 ht ha (by omega) h5 (by omega)) (by omega) ?_
      rintro z M1 ⟨q3, q4⟩
      try simp only [kb_X12_acts_17, w_ild_2, w_bi, w_ic_ne, w_ald_0, w_ild_1, w_ild_3, w_ild4, w_iv3, tfr_0, tfr_1, tfr_2, tfr_3, tfr_4, w_goto, true_and, and_true, Nat.reduceAdd, Nat.reduceSub, eq_self, tshm_14, tshm_31, tshm_32, tykm_31, tykm_32, tci_15, tci_960, tykm_14, tci_14, tshm_667, tshm_668, tshm_669, tshm_670, tykm_33, tci_700, tsn_671, tyn_17, tcn_10, tzs_672, tzs_673, tzs_680, tzs_681, tzs_682, tzs_683, tzs_684, tzs_685, tzs_686, tzs_687, tzs_688, tzs_689, tzy_15, tzy_35, tzy_36, tzy_37, tzy_38, tzy_39, tzy_40, tzc_60, tzc_320, tzc_5, tzc_4, tzc_8]
      refine n59 M1 z (ok3_of q3 (fun _ => fc_le (uu_pos D) (by omega))) (fun g => ?_) q4
      have c0 : c = 45 := by omega
      exact Or.inr (Or.inl ⟨c0, q3.2.1 g⟩)
  · refine tc_i (D := 6) (fun d' hd' => c_sum h1 h2 ht (by omega) (by omega) (h5 a (by omega) (by omega)) (h5 b (by omega) (by omega)) (by omega)) (by omega) ?_
    rintro z M1 ⟨q3, q4⟩
    try simp only [kb_X12_acts_0, w_ild_2, w_bi, w_ic_ne, w_ald_0, w_ild_1, w_ild_3, w_ild4, w_iv3, tfr_0, tfr_1, tfr_2, tfr_3, tfr_4, w_goto, true_and, and_true, Nat.reduceAdd, Nat.reduceSub, eq_self, tshm_14, tshm_31, tshm_32, tykm_31, tykm_32, tci_15, tci_960, tykm_14, tci_14, tshm_667, tshm_668, tshm_669, tshm_670, tykm_33, tci_700, tsn_671, tyn_17, tcn_10, tzs_672, tzs_673, tzs_680, tzs_681, tzs_682, tzs_683, tzs_684, tzs_685, tzs_686, tzs_687, tzs_688, tzs_689, tzy_15, tzy_35, tzy_36, tzy_37, tzy_38, tzy_39, tzy_40, tzc_60, tzc_320, tzc_5, tzc_4, tzc_8]
    refine n59 M1 z (ok3_of q3 (fun _ => fc_le (uu_pos D) (by omega))) (fun g => ?_) (xE_to q4)
    have c0 : c = 43 := by omega
    exact Or.inl ⟨c0, q3.2.1 g⟩
end OPS
theorem e_values {D : Nat} {b s xl xh yl yh : Int} {N : tM} : ∀ (q : Nat) {M : tM} {d n : Nat} {to f p : Int}, VI M D f b s → XV M xl xh yl yh → BM N M → (b ≤ p ∧ p < b + s ∧ p < b + (q : Int)) → (0 ≤ to ∧ to < f) → f + 2 * (q : Int) ≤ 690 → 8 + q ≤ d → tC e d 3733 [.inr (.inr (.inl 664)), .inl to, .inl p] M n (tQi n (fun z M' => OK3 z M' to ∧ xE (toF to f) M M' ∧ (z = 0 → EV N D xl xh yl yh q p (zlo M' to) (zhi M' to)))) := by
  intro q
  induction q with
  | zero => intro M d n to f p h1 _ _ h2; exfalso; omega
  | succ q ih =>
    intro M d n to f p hV hXV hBM hp ht hq hd
    have hFN := hV.2.2.2 p hp.1 hp.2.1
    have hb0 := hV.2.2.1
    have hf3 := hV.1.2.2.1
    have hf4 := hV.1.2.2.2.1
    have hBI := hV.1.2.2.2.2.1
    obtain ⟨⟨hx1, hx2⟩, hy1, hy2⟩ := hV.2.1
    have m80 : N 680 p = M 680 p := (hBM 680 p (by omega)).symm
    have m81 : N 681 p = M 681 p := (hBM 681 p (by omega)).symm
    have m82 : N 682 p = M 682 p := (hBM 682 p (by omega)).symm
    have m83 : N 683 p = M 683 p := (hBM 683 p (by omega)).symm
    have m84 : N 684 p = M 684 p := (hBM 684 p (by omega)).symm
    refine tst_X12_values ?_
    have n311 : ∀ (A B C : Option tV) (M1 : tM) (z : Int), OK3 z M1 to → yE (toF to f) M M1 → M1 664 11 = f + 2 → (z = 0 → EV N D xl xh yl yh (q + 1) p (zlo M1 to) (zhi M1 to)) → tT e d 3733 311 [some (.inr (.inr (.inl 664))), some (.inl (to)), some (.inl (p)), A, B, C, some (.inl (z))] [] M1 n (tQi n (fun z M' => OK3 z M' to ∧ xE (toF to f) M M' ∧ (z = 0 → EV N D xl xh yl yh (q + 1) p (zlo M' to) (zhi M' to)))) := by
      intro A B C M1 z a1 a2 a3 a4
      refine tb_X12_values_311 (c := false) ?_
      simp only [kb_X12_values_311, w_ald_0, w_dupi, w_dupr, w_gf_14_11, tw_f, w_ic, w_isub, w_pf_14_11, w_ild6, w_ire, trg, true_and, and_true, Nat.reduceAdd, Nat.reduceSub, eq_self, tshm_14, tshm_31, tshm_32, tykm_31, tykm_32, tci_15, tci_960, tykm_14, tci_14, tshm_667, tshm_668, tshm_669, tshm_670, tykm_33, tci_700, tsn_671, tyn_17, tcn_10, tzs_672, tzs_673, tzs_680, tzs_681, tzs_682, tzs_683, tzs_684, tzs_685, tzs_686, tzs_687, tzs_688, tzs_689, tzy_15, tzy_35, tzy_36, tzy_37, tzy_38, tzy_39, tzy_40, tzc_60, tzc_320, tzc_5, tzc_4, tzc_8]
      rw [a3]
      refine ⟨z, rfl, rfl, OK3_free a1, ⟨yE_tr a2 yE_free, by rw [tU_eq]; omega⟩, fun g => ?_⟩
      rw [yE_lo (yE_free (T := fun _ => False)) id, yE_hi (yE_free (T := fun _ => False)) id]
      exact a4 g
    have n52 : M 680 p = 49 → (0 ≤ M 684 p ∧ M 684 p < 1000000000000) → (0 ≤ M 683 p ∧ M 683 p ≤ 12) → ∀ A B C E : Option tV, tT e d 3733 52 [some (.inr (.inr (.inl 664))), some (.inl (to)), some (.inl (p)), A, B, C, E] [] M n (tQi n (fun z M' => OK3 z M' to ∧ xE (toF to f) M M' ∧ (z = 0 → EV N D xl xh yl yh (q + 1) p (zlo M' to) (zhi M' to)))) := by
      intro h0 h1 h2 A B C E
      obtain ⟨x, hx⟩ : ∃ x : Nat, M 684 p = (x : Int) := ⟨(M 684 p).toNat, by omega⟩
      obtain ⟨k, hk⟩ : ∃ k : Nat, M 683 p = (k : Int) := ⟨(M 683 p).toNat, by omega⟩
      refine tb_X12_values_52 (c := false) ?_
      simp only [kb_X12_values_52, w_ald_0, w_bi, w_gf_14_30, tw_f, w_ild_2, w_la, w_lax, w_ld2, w_ldiv, w_lrem, w_iv3, tfr_0, tfr_1, tfr_2, tfr_3, tfr_4, w_ild_1, w_gf_14_29, w_ia, w_iax, w_ic, w_iv4, w_ire, trg, true_and, and_true, Nat.reduceAdd, Nat.reduceSub, eq_self, tshm_14, tshm_31, tshm_32, tykm_31, tykm_32, tci_15, tci_960, tykm_14, tci_14, tshm_667, tshm_668, tshm_669, tshm_670, tykm_33, tci_700, tsn_671, tyn_17, tcn_10, tzs_672, tzs_673, tzs_680, tzs_681, tzs_682, tzs_683, tzs_684, tzs_685, tzs_686, tzs_687, tzs_688, tzs_689, tzy_15, tzy_35, tzy_36, tzy_37, tzy_38, tzy_39, tzy_40, tzc_60, tzc_320, tzc_5, tzc_4, tzc_8, hx]
      rw [tdiv_N, tmod_N]
      refine ⟨by omega, by omega, by omega, by omega, ?_⟩
      refine tc_n (D := 1) (fun d' hd' => c_sets (by omega) (by omega) (by omega) hd') (by omega) ?_
      rintro M1 ⟨p1, p2⟩
      rw [show x / 1000000000 * 1000000000 + x % 1000000000 = x by omega] at p1
      have hx2 : xE (toF to f) M M1 := xE_U (rU_r p2) (by omega) (by omega) (by omega)
      have e83 : M1 683 p = (k : Int) := (p2.1 683 p (by decide) (by decide)).trans hk
      try simp only [kb_X12_values_52, w_ald_0, w_bi, w_gf_14_30, tw_f, w_ild_2, w_la, w_lax, w_ld2, w_ldiv, w_lrem, w_iv3, tfr_0, tfr_1, tfr_2, tfr_3, tfr_4, w_ild_1, w_gf_14_29, w_ia, w_iax, w_ic, w_iv4, w_ire, trg, true_and, and_true, Nat.reduceAdd, Nat.reduceSub, eq_self, tshm_14, tshm_31, tshm_32, tykm_31, tykm_32, tci_15, tci_960, tykm_14, tci_14, tshm_667, tshm_668, tshm_669, tshm_670, tykm_33, tci_700, tsn_671, tyn_17, tcn_10, tzs_672, tzs_673, tzs_680, tzs_681, tzs_682, tzs_683, tzs_684, tzs_685, tzs_686, tzs_687, tzs_688, tzs_689, tzy_15, tzy_35, tzy_36, tzy_37, tzy_38, tzy_39, tzy_40, tzc_60, tzc_320, tzc_5, tzc_4, tzc_8, e83]
      refine ⟨by omega, ?_⟩
      refine tc_i (D := 5) (fun d' hd' => e_number (MB_x hV.1 hx2) (by omega) (by omega) (by omega) p1 (Nat.lt_of_lt_of_le (show x < tn 20 by rw [tz_t20]; omega) (tn_mono (by omega))) (by omega) hd') (by omega) ?_
      rintro z M2 ⟨q1, q2, q3⟩
      try simp only [kb_X12_values_52, w_ald_0, w_bi, w_gf_14_30, tw_f, w_ild_2, w_la, w_lax, w_ld2, w_ldiv, w_lrem, w_iv3, tfr_0, tfr_1, tfr_2, tfr_3, tfr_4, w_ild_1, w_gf_14_29, w_ia, w_iax, w_ic, w_iv4, w_ire, trg, true_and, and_true, Nat.reduceAdd, Nat.reduceSub, eq_self, tshm_14, tshm_31, tshm_32, tykm_31, tykm_32, tci_15, tci_960, tykm_14, tci_14, tshm_667, tshm_668, tshm_669, tshm_670, tykm_33, tci_700, tsn_671, tyn_17, tcn_10, tzs_672, tzs_673, tzs_680, tzs_681, tzs_682, tzs_683, tzs_684, tzs_685, tzs_686, tzs_687, tzs_688, tzs_689, tzy_15, tzy_35, tzy_36, tzy_37, tzy_38, tzy_39, tzy_40, tzc_60, tzc_320, tzc_5, tzc_4, tzc_8]
      refine ⟨z, rfl, rfl, q1, xE_tr hx2 q3, fun g => ?_⟩
      unfold EV
      rw [m80, m83, m84]
      exact Or.inl ⟨h0, x, k, hx, hk, q2 g⟩
    have n93 : M 680 p = 112 → ∀ A B C E : Option tV, tT e d 3733 93 [some (.inr (.inr (.inl 664))), some (.inl (to)), some (.inl (p)), A, B, C, E] [] M n (tQi n (fun z M' => OK3 z M' to ∧ xE (toF to f) M M' ∧ (z = 0 → EV N D xl xh yl yh (q + 1) p (zlo M' to) (zhi M' to)))) := by
      intro h0 A B C E
      refine tb_X12_values_93 (c := false) ?_
      simp only [kb_X12_values_93, w_ald_0, w_ild_1, w_ic, w_iv2, tfr_0, tfr_1, tfr_2, tfr_3, tfr_4, w_ire, trg, true_and, and_true, Nat.reduceAdd, Nat.reduceSub, eq_self, tshm_14, tshm_31, tshm_32, tykm_31, tykm_32, tci_15, tci_960, tykm_14, tci_14, tshm_667, tshm_668, tshm_669, tshm_670, tykm_33, tci_700, tsn_671, tyn_17, tcn_10, tzs_672, tzs_673, tzs_680, tzs_681, tzs_682, tzs_683, tzs_684, tzs_685, tzs_686, tzs_687, tzs_688, tzs_689, tzy_15, tzy_35, tzy_36, tzy_37, tzy_38, tzy_39, tzy_40, tzc_60, tzc_320, tzc_5, tzc_4, tzc_8]
      refine tc_n (D := 5) (fun d' hd' => e_known hV.1 (by omega) hd') (by omega) ?_
      rintro M1 ⟨p1, p2, p3⟩
      try simp only [kb_X12_values_93, w_ald_0, w_ild_1, w_ic, w_iv2, tfr_0, tfr_1, tfr_2, tfr_3, tfr_4, w_ire, trg, true_and, and_true, Nat.reduceAdd, Nat.reduceSub, eq_self, tshm_14, tshm_31, tshm_32, tykm_31, tykm_32, tci_15, tci_960, tykm_14, tci_14, tshm_667, tshm_668, tshm_669, tshm_670, tykm_33, tci_700, tsn_671, tyn_17, tcn_10, tzs_672, tzs_673, tzs_680, tzs_681, tzs_682, tzs_683, tzs_684, tzs_685, tzs_686, tzs_687, tzs_688, tzs_689, tzy_15, tzy_35, tzy_36, tzy_37, tzy_38, tzy_39, tzy_40, tzc_60, tzc_320, tzc_5, tzc_4, tzc_8]
      refine ⟨0, rfl, rfl, ⟨Or.inl rfl, fun _ => p1⟩, p3, fun g => ?_⟩
      unfold EV
      rw [m80]
      exact Or.inr (Or.inl ⟨h0, p2⟩)
    have n101 : M 680 p = 120 → ∀ A B C E : Option tV, tT e d 3733 101 [some (.inr (.inr (.inl 664))), some (.inl (to)), some (.inl (p)), A, B, C, E] [] M n (tQi n (fun z M' => OK3 z M' to ∧ xE (toF to f) M M' ∧ (z = 0 → EV N D xl xh yl yh (q + 1) p (zlo M' to) (zhi M' to)))) := by
      intro h0 A B C E
      refine tb_X12_values_101 (c := false) ?_
      simp only [kb_X12_values_101, w_ald_0, w_gf_14_37, tw_f, w_ild_1, w_iv2, tfr_0, tfr_1, tfr_2, tfr_3, tfr_4, w_ic, w_ire, trg, true_and, and_true, Nat.reduceAdd, Nat.reduceSub, eq_self, tshm_14, tshm_31, tshm_32, tykm_31, tykm_32, tci_15, tci_960, tykm_14, tci_14, tshm_667, tshm_668, tshm_669, tshm_670, tykm_33, tci_700, tsn_671, tyn_17, tcn_10, tzs_672, tzs_673, tzs_680, tzs_681, tzs_682, tzs_683, tzs_684, tzs_685, tzs_686, tzs_687, tzs_688, tzs_689, tzy_15, tzy_35, tzy_36, tzy_37, tzy_38, tzy_39, tzy_40, tzc_60, tzc_320, tzc_5, tzc_4, tzc_8]
      refine tc_n (D := 0) (fun d' hd' => c_takes (by omega) (by omega)) (by omega) ?_
      rintro M1 rfl
      try simp only [kb_X12_values_101, w_ald_0, w_gf_14_37, tw_f, w_ild_1, w_iv2, tfr_0, tfr_1, tfr_2, tfr_3, tfr_4, w_ic, w_ire, trg, true_and, and_true, Nat.reduceAdd, Nat.reduceSub, eq_self, tshm_14, tshm_31, tshm_32, tykm_31, tykm_32, tci_15, tci_960, tykm_14, tci_14, tshm_667, tshm_668, tshm_669, tshm_670, tykm_33, tci_700, tsn_671, tyn_17, tcn_10, tzs_672, tzs_673, tzs_680, tzs_681, tzs_682, tzs_683, tzs_684, tzs_685, tzs_686, tzs_687, tzs_688, tzs_689, tzy_15, tzy_35, tzy_36, tzy_37, tzy_38, tzy_39, tzy_40, tzc_60, tzc_320, tzc_5, tzc_4, tzc_8]
      refine ⟨0, rfl, rfl, ⟨Or.inl rfl, fun _ => by unfold OB; rw [sTk_lo, sTk_hi]; exact hx2⟩, sTk_xE (Or.inl rfl) (hBI _ (by omega) (by omega)), fun g => ?_⟩
      unfold EV
      rw [m80, sTk_lo, sTk_hi]
      exact Or.inr (Or.inr (Or.inl ⟨h0, hXV.1⟩))
    have n112 : M 680 p = 121 → ∀ A B C E : Option tV, tT e d 3733 112 [some (.inr (.inr (.inl 664))), some (.inl (to)), some (.inl (p)), A, B, C, E] [] M n (tQi n (fun z M' => OK3 z M' to ∧ xE (toF to f) M M' ∧ (z = 0 → EV N D xl xh yl yh (q + 1) p (zlo M' to) (zhi M' to)))) := by
      intro h0 A B C E
      refine tb_X12_values_112 (c := false) ?_
      simp only [kb_X12_values_112, w_ald_0, w_gf_14_38, tw_f, w_ild_1, w_iv2, tfr_0, tfr_1, tfr_2, tfr_3, tfr_4, w_ic, w_ire, trg, true_and, and_true, Nat.reduceAdd, Nat.reduceSub, eq_self, tshm_14, tshm_31, tshm_32, tykm_31, tykm_32, tci_15, tci_960, tykm_14, tci_14, tshm_667, tshm_668, tshm_669, tshm_670, tykm_33, tci_700, tsn_671, tyn_17, tcn_10, tzs_672, tzs_673, tzs_680, tzs_681, tzs_682, tzs_683, tzs_684, tzs_685, tzs_686, tzs_687, tzs_688, tzs_689, tzy_15, tzy_35, tzy_36, tzy_37, tzy_38, tzy_39, tzy_40, tzc_60, tzc_320, tzc_5, tzc_4, tzc_8]
      refine tc_n (D := 0) (fun d' hd' => c_takes (by omega) (by omega)) (by omega) ?_
      rintro M1 rfl
      try simp only [kb_X12_values_112, w_ald_0, w_gf_14_38, tw_f, w_ild_1, w_iv2, tfr_0, tfr_1, tfr_2, tfr_3, tfr_4, w_ic, w_ire, trg, true_and, and_true, Nat.reduceAdd, Nat.reduceSub, eq_self, tshm_14, tshm_31, tshm_32, tykm_31, tykm_32, tci_15, tci_960, tykm_14, tci_14, tshm_667, tshm_668, tshm_669, tshm_670, tykm_33, tci_700, tsn_671, tyn_17, tcn_10, tzs_672, tzs_673, tzs_680, tzs_681, tzs_682, tzs_683, tzs_684, tzs_685, tzs_686, tzs_687, tzs_688, tzs_689, tzy_15, tzy_35, tzy_36, tzy_37, tzy_38, tzy_39, tzy_40, tzc_60, tzc_320, tzc_5, tzc_4, tzc_8]
      refine ⟨0, rfl, rfl, ⟨Or.inl rfl, fun _ => by unfold OB; rw [sTk_lo, sTk_hi]; exact hy2⟩, sTk_xE (Or.inl rfl) (hBI _ (by omega) (by omega)), fun g => ?_⟩
      unfold EV
      rw [m80, sTk_lo, sTk_hi]
      exact Or.inr (Or.inr (Or.inr (Or.inl ⟨h0, hXV.2⟩)))
    have n123 : M 680 p ≠ 49 → M 680 p ≠ 112 → M 680 p ≠ 120 → M 680 p ≠ 121 → tT e d 3733 123 [some (.inr (.inr (.inl 664))), some (.inl (to)), some (.inl (p)), some (.inl ((M 680 p))), none, none, none] [] M n (tQi n (fun z M' => OK3 z M' to ∧ xE (toF to f) M M' ∧ (z = 0 → EV N D xl xh yl yh (q + 1) p (zlo M' to) (zhi M' to)))) := by
      intro c1 c2 c3 c4
      obtain ⟨hu, hr, hk, hc⟩ := FN_kids hFN c1 c2 c3 c4
      clear hFN c1 c2 c3 c4
      generalize M 680 p = c at hr hk hc m80 ⊢
      have hcr : 0 ≤ c ∧ c ≤ 65535 := by omega
      have hr : Hid (c = 43 ∨ c = 45 ∨ c = 42 ∨ c = 47 → b ≤ M 682 p ∧ M 682 p < p) := hr
      have hk : Hid (c = 94 → 0 ≤ M 682 p ∧ M 682 p ≤ 9) := hk
      have hc : Hid (c = 110 ∨ c = 114 ∨ c = 101 ∨ c = 108 ∨ c = 97 ∨ c = 94 ∨ c = 43 ∨ c = 45 ∨ c = 42 ∨ c = 47) := hc
      refine tb_X12_values_123 (c := false) ?_
      simp (disch := decide) only [kb_X12_values_123, w_ald_0, w_gf_14_11, tw_f, w_ist4, tkl_n, tkl_i, tkl_l, tkl_r, w_ic, w_iadd, w_ist5, w_dupi, w_dupr, w_pf_14_11, w_ild4, w_gf_14_27, w_ild_2, w_ia, w_iax, w_iv2, tfr_0, tfr_1, tfr_2, tfr_3, tfr_4, w_ist6, w_ild6, w_if_ne, w_ild_3, w_sw, tsw, true_and, and_true, Nat.reduceAdd, Nat.reduceSub, eq_self, tshm_14, tshm_31, tshm_32, tykm_31, tykm_32, tci_15, tci_960, tykm_14, tci_14, tshm_667, tshm_668, tshm_669, tshm_670, tykm_33, tci_700, tsn_671, tyn_17, tcn_10, tzs_672, tzs_673, tzs_680, tzs_681, tzs_682, tzs_683, tzs_684, tzs_685, tzs_686, tzs_687, tzs_688, tzs_689, tzy_15, tzy_35, tzy_36, tzy_37, tzy_38, tzy_39, tzy_40, tzc_60, tzc_320, tzc_5, tzc_4, tzc_8, hf3, tU_nk, tU_ni, tU_eq]
      refine ⟨by omega, ?_⟩
      have hy0 : yE (fun r => f ≤ r) M (tU M 664 11 (f + 2)) := yE_free
      have hV0 : VI (tU M 664 11 (f + 2)) D (f + 2) b s := VI_y hV hy0 (fun _ q => q) (tU_eq ..) (by omega)
      generalize tU M 664 11 (f + 2) = M0 at hy0 hV0 ⊢
      refine tc_i (D := 8 + q) (fun d' hd' => ih hV0 (XV_y hXV hV.2.1 hy0 (fun _ q => q)) (BM_y hBM hy0) (by omega) (by omega) (by omega) hd') (by omega) ?_
      rintro z M1 ⟨q1, q2, qE⟩
      rw [← m81] at qE
      have hy1 : yE (fun r => f ≤ r) M M1 := yE_tr hy0 (yE_in q2 (by omega) (by omega))
      have hV1 : VI M1 D (f + 2) b s := VI_y hV hy1 (fun _ q => q) (q2.2.trans hV0.1.2.2.1) (by omega)
      have e82 : M1 682 p = M 682 p := hy1.1 682 p (by decide) (by decide) (by omega) (fun q => by have := q.1; unfold isB at this; omega)
      have f1 := hV1.1.2.2.1
      have hyt : yE (toF to f) M M1 := yE_mono hy1 (fun _ q => Or.inr q)
      have out : ∀ (M2 : tM), xE (toF to (f + 2)) M1 M2 → yE (toF to f) M M2 ∧ M2 664 11 = f + 2 := fun M2 g => ⟨yE_tr hyt (yE_mono g.1 (fun r q => by rcases q with q | q; exact Or.inl q; exact Or.inr (by omega))), g.2.trans f1⟩
      try simp only [kb_X12_values_123, w_ald_0, w_gf_14_11, tw_f, w_ist4, tkl_n, tkl_i, tkl_l, tkl_r, w_ic, w_iadd, w_ist5, w_dupi, w_dupr, w_pf_14_11, w_ild4, w_gf_14_27, w_ild_2, w_ia, w_iax, w_iv2, tfr_0, tfr_1, tfr_2, tfr_3, tfr_4, w_ist6, w_ild6, w_if_ne, w_ild_3, w_sw, tsw, true_and, and_true, Nat.reduceAdd, Nat.reduceSub, eq_self, tshm_14, tshm_31, tshm_32, tykm_31, tykm_32, tci_15, tci_960, tykm_14, tci_14, tshm_667, tshm_668, tshm_669, tshm_670, tykm_33, tci_700, tsn_671, tyn_17, tcn_10, tzs_672, tzs_673, tzs_680, tzs_681, tzs_682, tzs_683, tzs_684, tzs_685, tzs_686, tzs_687, tzs_688, tzs_689, tzy_15, tzy_35, tzy_36, tzy_37, tzy_38, tzy_39, tzy_40, tzc_60, tzc_320, tzc_5, tzc_4, tzc_8]
      have hzr := z3_r q1.1
      refine ⟨by omega, fun h => n311 _ _ _ M1 z ⟨q1.1, fun q => absurd q h⟩ hyt f1 (fun q => absurd q h), fun h => ?_⟩
      have ho : OB M1 f := q1.2 (by omega)
      have qE := qE (by omega)
      have n267 : (c = 97 ∨ c = 101 ∨ c = 108) → tT e d 3733 267 [some (.inr (.inr (.inl 664))), some (.inl (to)), some (.inl (p)), some (.inl (c)), some (.inl (f)), some (.inl (f + 1)), some (.inl (z))] [] M1 n (tQi n (fun z M' => OK3 z M' to ∧ xE (toF to f) M M' ∧ (z = 0 → EV N D xl xh yl yh (q + 1) p (zlo M' to) (zhi M' to)))) := by
        intro hcc
        refine tb_X12_values_267 (c := false) ?_
        simp only [kb_X12_values_267, w_ald_0, w_ild_1, w_ild4, w_ild_3, w_iv3, tfr_0, tfr_1, tfr_2, tfr_3, tfr_4, w_ist6, tkl_n, tkl_i, tkl_l, tkl_r, w_goto, true_and, and_true, Nat.reduceAdd, Nat.reduceSub, eq_self, tshm_14, tshm_31, tshm_32, tykm_31, tykm_32, tci_15, tci_960, tykm_14, tci_14, tshm_667, tshm_668, tshm_669, tshm_670, tykm_33, tci_700, tsn_671, tyn_17, tcn_10, tzs_672, tzs_673, tzs_680, tzs_681, tzs_682, tzs_683, tzs_684, tzs_685, tzs_686, tzs_687, tzs_688, tzs_689, tzy_15, tzy_35, tzy_36, tzy_37, tzy_38, tzy_39, tzy_40, tzc_60, tzc_320, tzc_5, tzc_4, tzc_8]
        refine tc_i (D := 7) (fun d' hd' => e_rising hV1.1 (by omega) (by omega) ho (by omega) hd') (by omega) ?_
        rintro z2 M2 ⟨p1, pE, p2⟩
        try simp only [kb_X12_values_267, w_ald_0, w_ild_1, w_ild4, w_ild_3, w_iv3, tfr_0, tfr_1, tfr_2, tfr_3, tfr_4, w_ist6, tkl_n, tkl_i, tkl_l, tkl_r, w_goto, true_and, and_true, Nat.reduceAdd, Nat.reduceSub, eq_self, tshm_14, tshm_31, tshm_32, tykm_31, tykm_32, tci_15, tci_960, tykm_14, tci_14, tshm_667, tshm_668, tshm_669, tshm_670, tykm_33, tci_700, tsn_671, tyn_17, tcn_10, tzs_672, tzs_673, tzs_680, tzs_681, tzs_682, tzs_683, tzs_684, tzs_685, tzs_686, tzs_687, tzs_688, tzs_689, tzy_15, tzy_35, tzy_36, tzy_37, tzy_38, tzy_39, tzy_40, tzc_60, tzc_320, tzc_5, tzc_4, tzc_8]
        refine n311 _ _ _ M2 z2 p1 (out M2 p2).1 (out M2 p2).2 (fun g => ?_)
        have pE := pE g
        unfold EV
        rw [m80]
        unfold OB at ho
        exact Or.inr (Or.inr (Or.inr (Or.inr (Or.inr (Or.inr (Or.inr (Or.inl ⟨by omega, _, _, qE, pE.1, ⟨by omega, by omega⟩, pE.2⟩)))))))
      refine ⟨by omega, fun g => ?_, fun g1 => ⟨fun g => n267 (by omega), fun g2 => ⟨fun g => n267 (by omega), fun g3 => ⟨fun g => n267 (by omega), fun g4 => ⟨fun g => ?_, fun g5 => ⟨fun g => ?_, fun g6 => ?_⟩⟩⟩⟩⟩⟩
      · show tT e d 3733 224 _ _ _ _ _
        have hk : 0 ≤ M 682 p ∧ M 682 p ≤ 9 := hk g
        obtain ⟨k, hkk⟩ : ∃ k : Nat, M 682 p = (k : Int) := ⟨(M 682 p).toNat, by omega⟩
        rw [hkk] at e82
        refine tb_X12_values_224 (c := false) ?_
        simp only [kb_X12_values_224, w_ald_0, w_ild_1, w_ild4, w_gf_14_28, tw_f, w_ild_2, w_ia, w_iax, w_iv3, tfr_0, tfr_1, tfr_2, tfr_3, tfr_4, w_ist6, tkl_n, tkl_i, tkl_l, tkl_r, w_goto, true_and, and_true, Nat.reduceAdd, Nat.reduceSub, eq_self, tshm_14, tshm_31, tshm_32, tykm_31, tykm_32, tci_15, tci_960, tykm_14, tci_14, tshm_667, tshm_668, tshm_669, tshm_670, tykm_33, tci_700, tsn_671, tyn_17, tcn_10, tzs_672, tzs_673, tzs_680, tzs_681, tzs_682, tzs_683, tzs_684, tzs_685, tzs_686, tzs_687, tzs_688, tzs_689, tzy_15, tzy_35, tzy_36, tzy_37, tzy_38, tzy_39, tzy_40, tzc_60, tzc_320, tzc_5, tzc_4, tzc_8, e82]
        refine ⟨by omega, ?_⟩
        refine tc_i (D := 5) (fun d' hd' => e_lifted hV1.1 (by omega) (by omega) ho (by omega) hd') (by omega) ?_
        rintro z2 M2 ⟨p1, pE, p2⟩
        try simp only [kb_X12_values_224, w_ald_0, w_ild_1, w_ild4, w_gf_14_28, tw_f, w_ild_2, w_ia, w_iax, w_iv3, tfr_0, tfr_1, tfr_2, tfr_3, tfr_4, w_ist6, tkl_n, tkl_i, tkl_l, tkl_r, w_goto, true_and, and_true, Nat.reduceAdd, Nat.reduceSub, eq_self, tshm_14, tshm_31, tshm_32, tykm_31, tykm_32, tci_15, tci_960, tykm_14, tci_14, tshm_667, tshm_668, tshm_669, tshm_670, tykm_33, tci_700, tsn_671, tyn_17, tcn_10, tzs_672, tzs_673, tzs_680, tzs_681, tzs_682, tzs_683, tzs_684, tzs_685, tzs_686, tzs_687, tzs_688, tzs_689, tzy_15, tzy_35, tzy_36, tzy_37, tzy_38, tzy_39, tzy_40, tzc_60, tzc_320, tzc_5, tzc_4, tzc_8]
        refine n311 _ _ _ M2 z2 p1 (out M2 p2).1 (out M2 p2).2 (fun g' => ?_)
        unfold EV
        rw [m80, m82]
        exact Or.inr (Or.inr (Or.inr (Or.inr (Or.inl ⟨g, _, _, k, qE, ho.1, hkk, pE g'⟩))))
      · show tT e d 3733 242 _ _ _ _ _
        refine tb_X12_values_242 (c := false) ?_
        simp only [kb_X12_values_242, w_ald_0, w_ild_1, w_ild4, w_iv2, tfr_0, tfr_1, tfr_2, tfr_3, tfr_4, w_ist6, tkl_n, tkl_i, tkl_l, tkl_r, w_goto, true_and, and_true, Nat.reduceAdd, Nat.reduceSub, eq_self, tshm_14, tshm_31, tshm_32, tykm_31, tykm_32, tci_15, tci_960, tykm_14, tci_14, tshm_667, tshm_668, tshm_669, tshm_670, tykm_33, tci_700, tsn_671, tyn_17, tcn_10, tzs_672, tzs_673, tzs_680, tzs_681, tzs_682, tzs_683, tzs_684, tzs_685, tzs_686, tzs_687, tzs_688, tzs_689, tzy_15, tzy_35, tzy_36, tzy_37, tzy_38, tzy_39, tzy_40, tzc_60, tzc_320, tzc_5, tzc_4, tzc_8]
        refine tc_i (D := 3) (fun d' hd' => e_negative hV1.1 (by omega) (by omega) ho hd') (by omega) ?_
        rintro z2 M2 ⟨p1, pE, p2⟩
        try simp only [kb_X12_values_242, w_ald_0, w_ild_1, w_ild4, w_iv2, tfr_0, tfr_1, tfr_2, tfr_3, tfr_4, w_ist6, tkl_n, tkl_i, tkl_l, tkl_r, w_goto, true_and, and_true, Nat.reduceAdd, Nat.reduceSub, eq_self, tshm_14, tshm_31, tshm_32, tykm_31, tykm_32, tci_15, tci_960, tykm_14, tci_14, tshm_667, tshm_668, tshm_669, tshm_670, tykm_33, tci_700, tsn_671, tyn_17, tcn_10, tzs_672, tzs_673, tzs_680, tzs_681, tzs_682, tzs_683, tzs_684, tzs_685, tzs_686, tzs_687, tzs_688, tzs_689, tzy_15, tzy_35, tzy_36, tzy_37, tzy_38, tzy_39, tzy_40, tzc_60, tzc_320, tzc_5, tzc_4, tzc_8]
        refine n311 _ _ _ M2 z2 p1 (out M2 p2).1 (out M2 p2).2 (fun g' => ?_)
        unfold EV
        rw [m80]
        exact Or.inr (Or.inr (Or.inr (Or.inr (Or.inr (Or.inl ⟨g, _, _, qE, pE g'⟩)))))
      · show tT e d 3733 254 _ _ _ _ _
        refine tb_X12_values_254 (c := false) ?_
        simp only [kb_X12_values_254, w_ald_0, w_ild_1, w_ild4, w_ic, w_iv3, tfr_0, tfr_1, tfr_2, tfr_3, tfr_4, w_ist6, tkl_n, tkl_i, tkl_l, tkl_r, w_goto, true_and, and_true, Nat.reduceAdd, Nat.reduceSub, eq_self, tshm_14, tshm_31, tshm_32, tykm_31, tykm_32, tci_15, tci_960, tykm_14, tci_14, tshm_667, tshm_668, tshm_669, tshm_670, tykm_33, tci_700, tsn_671, tyn_17, tcn_10, tzs_672, tzs_673, tzs_680, tzs_681, tzs_682, tzs_683, tzs_684, tzs_685, tzs_686, tzs_687, tzs_688, tzs_689, tzy_15, tzy_35, tzy_36, tzy_37, tzy_38, tzy_39, tzy_40, tzc_60, tzc_320, tzc_5, tzc_4, tzc_8]
        refine tc_i (D := 5) (fun d' hd' => e_rooted (k := 2) hV1.1 (by omega) (by omega) ho (by omega) hd') (by omega) ?_
        rintro z2 M2 ⟨p1, pE, p2⟩
        try simp only [kb_X12_values_254, w_ald_0, w_ild_1, w_ild4, w_ic, w_iv3, tfr_0, tfr_1, tfr_2, tfr_3, tfr_4, w_ist6, tkl_n, tkl_i, tkl_l, tkl_r, w_goto, true_and, and_true, Nat.reduceAdd, Nat.reduceSub, eq_self, tshm_14, tshm_31, tshm_32, tykm_31, tykm_32, tci_15, tci_960, tykm_14, tci_14, tshm_667, tshm_668, tshm_669, tshm_670, tykm_33, tci_700, tsn_671, tyn_17, tcn_10, tzs_672, tzs_673, tzs_680, tzs_681, tzs_682, tzs_683, tzs_684, tzs_685, tzs_686, tzs_687, tzs_688, tzs_689, tzy_15, tzy_35, tzy_36, tzy_37, tzy_38, tzy_39, tzy_40, tzc_60, tzc_320, tzc_5, tzc_4, tzc_8]
        refine n311 _ _ _ M2 z2 p1 (out M2 p2).1 (out M2 p2).2 (fun g' => ?_)
        unfold EV
        rw [m80]
        exact Or.inr (Or.inr (Or.inr (Or.inr (Or.inr (Or.inr (Or.inl ⟨g, _, _, qE, pE g'⟩))))))
      · show tT e d 3733 280 _ _ _ _ _
        have hc4 : c = 43 ∨ c = 45 ∨ c = 42 ∨ c = 47 := by unfold Hid at hc; omega
        have hr : b ≤ M 682 p ∧ M 682 p < p := hr hc4
        clear g1 g2 g3 g4 g5 g6
        have hc4' : Hid (c = 43 ∨ c = 45 ∨ c = 42 ∨ c = 47) := hc4
        clear hc4
        refine tb_X12_values_280 (c := false) ?_
        simp only [kb_X12_values_280, w_ald_0, w_ild5, w_gf_14_28, tw_f, w_ild_2, w_ia, w_iax, w_iv2, tfr_0, tfr_1, tfr_2, tfr_3, tfr_4, w_ist6, tkl_n, tkl_i, tkl_l, tkl_r, w_ild6, w_if_ne, w_ild_1, w_ild_3, w_ild4, w_iv4, w_nil, true_and, and_true, Nat.reduceAdd, Nat.reduceSub, eq_self, tshm_14, tshm_31, tshm_32, tykm_31, tykm_32, tci_15, tci_960, tykm_14, tci_14, tshm_667, tshm_668, tshm_669, tshm_670, tykm_33, tci_700, tsn_671, tyn_17, tcn_10, tzs_672, tzs_673, tzs_680, tzs_681, tzs_682, tzs_683, tzs_684, tzs_685, tzs_686, tzs_687, tzs_688, tzs_689, tzy_15, tzy_35, tzy_36, tzy_37, tzy_38, tzy_39, tzy_40, tzc_60, tzc_320, tzc_5, tzc_4, tzc_8, e82]
        refine ⟨by omega, ?_⟩
        refine tc_i (D := 8 + q) (fun d' hd' => ih hV1 (XV_y hXV hV.2.1 hy1 (fun _ q => q)) (BM_y hBM hy1) (by omega) (by omega) (by omega) hd') (by omega) ?_
        rintro z2 M2 ⟨p1, p2, pE⟩
        rw [← m82] at pE
        have hy2 : yE (fun r => f ≤ r) M M2 := yE_tr hy1 (yE_in p2 (by omega) (by omega))
        have hV2 : VI M2 D (f + 2) b s := VI_y hV hy2 (fun _ q => q) (p2.2.trans f1) (by omega)
        have f2 := hV2.1.2.2.1
        have hyt2 : yE (toF to f) M M2 := yE_mono hy2 (fun _ q => Or.inr q)
        try simp only [kb_X12_values_280, w_ald_0, w_ild5, w_gf_14_28, tw_f, w_ild_2, w_ia, w_iax, w_iv2, tfr_0, tfr_1, tfr_2, tfr_3, tfr_4, w_ist6, tkl_n, tkl_i, tkl_l, tkl_r, w_ild6, w_if_ne, w_ild_1, w_ild_3, w_ild4, w_iv4, w_nil, true_and, and_true, Nat.reduceAdd, Nat.reduceSub, eq_self, tshm_14, tshm_31, tshm_32, tykm_31, tykm_32, tci_15, tci_960, tykm_14, tci_14, tshm_667, tshm_668, tshm_669, tshm_670, tykm_33, tci_700, tsn_671, tyn_17, tcn_10, tzs_672, tzs_673, tzs_680, tzs_681, tzs_682, tzs_683, tzs_684, tzs_685, tzs_686, tzs_687, tzs_688, tzs_689, tzy_15, tzy_35, tzy_36, tzy_37, tzy_38, tzy_39, tzy_40, tzc_60, tzc_320, tzc_5, tzc_4, tzc_8]
        have hzr2 := z3_r p1.1
        refine ⟨by omega, fun h => n311 _ _ _ M2 z2 ⟨p1.1, fun q => absurd q h⟩ hyt2 f2 (fun q => absurd q h), fun h => ?_⟩
        have pE := pE (by omega)
        have ho2 : OB M2 f := OB_x p2 ho (by omega) (by omega)
        have ho3 : OB M2 (f + 1) := p1.2 (by omega)
        rw [← xE_lo p2 (show ¬ toF (f + 1) (f + 2) f by unfold toF; omega), ← xE_hi p2 (show ¬ toF (f + 1) (f + 2) f by unfold toF; omega)] at qE
        refine tc_i (D := 7) (fun d' hd' => e_acts hV2.1 (by omega) (by omega) (by omega) ho2 ho3 hc4' hd') (by omega) ?_
        rintro z3 M3 ⟨r1, rE, r2⟩
        try simp only [kb_X12_values_280, w_ald_0, w_ild5, w_gf_14_28, tw_f, w_ild_2, w_ia, w_iax, w_iv2, tfr_0, tfr_1, tfr_2, tfr_3, tfr_4, w_ist6, tkl_n, tkl_i, tkl_l, tkl_r, w_ild6, w_if_ne, w_ild_1, w_ild_3, w_ild4, w_iv4, w_nil, true_and, and_true, Nat.reduceAdd, Nat.reduceSub, eq_self, tshm_14, tshm_31, tshm_32, tykm_31, tykm_32, tci_15, tci_960, tykm_14, tci_14, tshm_667, tshm_668, tshm_669, tshm_670, tykm_33, tci_700, tsn_671, tyn_17, tcn_10, tzs_672, tzs_673, tzs_680, tzs_681, tzs_682, tzs_683, tzs_684, tzs_685, tzs_686, tzs_687, tzs_688, tzs_689, tzy_15, tzy_35, tzy_36, tzy_37, tzy_38, tzy_39, tzy_40, tzc_60, tzc_320, tzc_5, tzc_4, tzc_8]
        refine n311 _ _ _ M3 z3 r1 (yE_tr hyt2 (yE_mono r2.1 (fun r q => by rcases q with q | q; exact Or.inl q; exact Or.inr (by omega)))) (r2.2.trans f2) (fun g' => ?_)
        unfold EV
        rw [m80]
        exact Or.inr (Or.inr (Or.inr (Or.inr (Or.inr (Or.inr (Or.inr (Or.inr ⟨hc4', _, _, _, _, qE, pE, ho2.1, ho3.1, rE g'⟩)))))))
    refine tb_X12_values_0 (c := false) ?_
    simp only [kb_X12_values_0, w_ald_0, w_gf_14_26, tw_f, w_ild_2, w_ca, w_ist_3, tkl_n, tkl_i, tkl_l, tkl_r, w_ild_3, w_sw, tsw, true_and, and_true, Nat.reduceAdd, Nat.reduceSub, eq_self, tshm_14, tshm_31, tshm_32, tykm_31, tykm_32, tci_15, tci_960, tykm_14, tci_14, tshm_667, tshm_668, tshm_669, tshm_670, tykm_33, tci_700, tsn_671, tyn_17, tcn_10, tzs_672, tzs_673, tzs_680, tzs_681, tzs_682, tzs_683, tzs_684, tzs_685, tzs_686, tzs_687, tzs_688, tzs_689, tzy_15, tzy_35, tzy_36, tzy_37, tzy_38, tzy_39, tzy_40, tzc_60, tzc_320, tzc_5, tzc_4, tzc_8]
    refine ⟨by omega, by unfold FN at hFN; omega, fun g => n52 g (by unfold FN at hFN; omega) (by unfold FN at hFN; omega) _ _ _ _, fun g1 => ⟨fun g => n93 g _ _ _ _, fun g2 => ⟨fun g => n101 g _ _ _ _, fun g3 => ⟨fun g => n112 g _ _ _ _, fun g4 => n123 g1 g2 g3 g4⟩⟩⟩⟩
theorem e_toldv {d n D : Nat} {M N : tM} {to f fo x : Int} (h : MB M D f) (hN : BM N M) (hF : FI M) (hf : 0 ≤ fo ∧ fo ≤ 3) (hu : M 687 fo ≠ 0) (hx : 0 ≤ x ∧ x < f) (ox : OB M x) (ht : 0 ≤ to ∧ to < f) (hf2 : f ≤ 500) (hd : 71 ≤ d) : tC e d 3724 [.inr (.inr (.inl 664)), .inl to, .inl fo, .inl x, .inl x, .inl 0] M n (tQi n (fun z M' => OK3 z M' to ∧ zE (toF to f) M M' ∧ (z = 0 → EV N D (zlo M x) (zhi M x) (zlo M x) (zhi M x) 61 (M 685 fo) (zlo M' to) (zhi M' to)))) := by
  refine tst_X12_told ?_
  have g := hF fo (by omega) (by omega)
  have g2 := g.2.2 hu
  have v0 : vE (toF to f) M (tU (tU M 664 37 x) 664 38 x) := vE_xy
  have f0 : tU (tU M 664 37 x) 664 38 x 664 11 = f := by simp (disch := decide) only [tU_ni]; exact h.2.2.1
  have x0 : tU (tU M 664 37 x) 664 38 x 664 37 = x := by simp (disch := decide) only [tU_ni, tU_eq]
  have y0 : tU (tU M 664 37 x) 664 38 x 664 38 = x := tU_eq ..
  have w0 : vE (fun _ => False) M (tU (tU M 664 37 x) 664 38 x) := vE_xy
  refine tb_X12_told_0 (c := false) ?_
  simp only [kb_X12_told_0, w_ald_0, w_ild_3, w_pf_14_37, w_ild4, w_pf_14_38, w_ild5, w_if_eq, w_ild_1, w_gf_14_31, tw_f, w_ild_2, w_ia, w_iax, w_iv2, tfr_0, tfr_1, tfr_2, tfr_3, tfr_4, w_goto, true_and, and_true, Nat.reduceAdd, Nat.reduceSub, eq_self, tshm_14, tshm_31, tshm_32, tykm_31, tykm_32, tci_15, tci_960, tykm_14, tci_14, tshm_667, tshm_668, tshm_669, tshm_670, tykm_33, tci_700, tsn_671, tyn_17, tcn_10, tzs_672, tzs_673, tzs_680, tzs_681, tzs_682, tzs_683, tzs_684, tzs_685, tzs_686, tzs_687, tzs_688, tzs_689, tzy_15, tzy_35, tzy_36, tzy_37, tzy_38, tzy_39, tzy_40, tzc_60, tzc_320, tzc_5, tzc_4, tzc_8]
  generalize tU (tU M 664 37 x) 664 38 x = M0 at v0 f0 x0 y0 w0 ⊢
  have e85 : M0 685 fo = M 685 fo := vE_k v0 685 fo (by omega)
  have el : zlo M0 x = zlo M x := by unfold zlo; rw [vE_b w0 id 667 (Or.inl rfl), vE_b w0 id 668 (Or.inr (Or.inl rfl))]
  have eh : zhi M0 x = zhi M x := by unfold zhi; rw [vE_b w0 id 669 (Or.inr (Or.inr (Or.inl rfl))), vE_b w0 id 670 (Or.inr (Or.inr (Or.inr rfl)))]
  have hV : VI M0 D f (64 * fo) (M 686 fo) := by
    refine ⟨MB_v h v0 f0 h.2.2.2.1, ?_, ⟨by omega, fun k k1 k2 => FN_same (fun c hc => vE_k v0 c k (by omega)) (g2.2 k k1 k2)⟩⟩
    unfold VX
    rw [x0, y0]
    exact ⟨⟨hx, OB_v ox w0 id⟩, hx, OB_v ox w0 id⟩
  have hXV : XV M0 (zlo M x) (zhi M x) (zlo M x) (zhi M x) := by
    unfold XV
    rw [x0, y0]
    exact ⟨⟨el, eh⟩, el, eh⟩
  have hBM : BM N M0 := fun k i g => (vE_k v0 k i (by omega)).trans (hN k i g)
  refine ⟨by omega, fun _ => ?_, fun q => absurd trivial q⟩
  refine tb_X12_told_30 (c := false) ?_
  simp only [kb_X12_told_30, w_ald_0, w_ild_1, w_gf_14_31, tw_f, w_ild_2, w_ia, w_iax, w_iv2, tfr_0, tfr_1, tfr_2, tfr_3, tfr_4, w_nil, true_and, and_true, Nat.reduceAdd, Nat.reduceSub, eq_self, tshm_14, tshm_31, tshm_32, tykm_31, tykm_32, tci_15, tci_960, tykm_14, tci_14, tshm_667, tshm_668, tshm_669, tshm_670, tykm_33, tci_700, tsn_671, tyn_17, tcn_10, tzs_672, tzs_673, tzs_680, tzs_681, tzs_682, tzs_683, tzs_684, tzs_685, tzs_686, tzs_687, tzs_688, tzs_689, tzy_15, tzy_35, tzy_36, tzy_37, tzy_38, tzy_39, tzy_40, tzc_60, tzc_320, tzc_5, tzc_4, tzc_8, e85]
  refine ⟨by omega, ?_⟩
  refine tc_i (D := 8 + 61) (fun d' hd' => e_values 61 hV hXV hBM (by omega) (by omega) (by omega) hd') (by omega) ?_
  rintro z M1 ⟨p1, p2, p3⟩
  try simp only [kb_X12_told_30, w_ald_0, w_ild_1, w_gf_14_31, tw_f, w_ild_2, w_ia, w_iax, w_iv2, tfr_0, tfr_1, tfr_2, tfr_3, tfr_4, w_nil, true_and, and_true, Nat.reduceAdd, Nat.reduceSub, eq_self, tshm_14, tshm_31, tshm_32, tykm_31, tykm_32, tci_15, tci_960, tykm_14, tci_14, tshm_667, tshm_668, tshm_669, tshm_670, tykm_33, tci_700, tsn_671, tyn_17, tcn_10, tzs_672, tzs_673, tzs_680, tzs_681, tzs_682, tzs_683, tzs_684, tzs_685, tzs_686, tzs_687, tzs_688, tzs_689, tzy_15, tzy_35, tzy_36, tzy_37, tzy_38, tzy_39, tzy_40, tzc_60, tzc_320, tzc_5, tzc_4, tzc_8]
  refine tb_X12_told_41 (c := false) ?_
  simp only [kb_X12_told_41, w_ire, trg, true_and, and_true, Nat.reduceAdd, Nat.reduceSub, eq_self]
  exact ⟨z, rfl, rfl, p1, ⟨vE_tr v0 (vE_y p2.1), by rw [p2.2, f0]; exact h.2.2.1.symm⟩, p3⟩
end MODEL
