/-! THE CLASS BY VALUES: bounds. -/
/-- the bound in a cell, in parts of 10^10 -/
def BB (M : tM) (r : Nat) (v : Int) : Prop := M r 0 = v / 10000000000 ∧ M r 1 = v % 10000000000
/-- far from where a long ends -/
def RV (v : Int) : Prop := -30000000000000000000000000000 ≤ v ∧ v ≤ 30000000000000000000000000000
theorem BB_u {M M' : tM} {r : Nat} {v : Int} (h : BB M r v) (e : ∀ i, M' r i = M r i) : BB M' r v := ⟨(e 0).trans h.1, (e 1).trans h.2⟩
theorem BB_r {M : tM} {r : Nat} {v : Int} (h : BB M r v) (hv : RV v) : ((-9223372036854775808 ≤ M r 0 ∧ M r 0 < 9223372036854775808)) ∧ (0 ≤ M r 1 ∧ M r 1 < 10000000000) := by
  obtain ⟨h1, h2⟩ := h
  unfold RV at hv
  omega
theorem BB_e {M : tM} {r : Nat} {v w : Int} (h : BB M r v) (h2 : BB M r w) : v = w := by
  obtain ⟨a1, a2⟩ := h
  obtain ⟨b1, b2⟩ := h2
  omega
section HAND
variable {e : tE} {b d n : Nat} {M : tM}
theorem y_copy {r x1 : Nat} {v : Int} (h0 : cl r 3) (h1 : cl x1 3) (hv : BB M x1 v) (hb : HB b r) (hC : CI M) : tC e d 771 [.inr (.inr (.inl r)), .inr (.inr (.inl x1))] M n (tQn n (fun M' => BB M' r v ∧ BD b M M' r)) := by
  refine tC_mono (x_copy (b := b) h0 h1 hb hC) ?_
  rintro w M' n' ⟨q1, q2, ⟨q3, q4⟩, q5⟩
  exact ⟨q1, q2, ⟨q3.trans hv.1, q4.trans hv.2⟩, q5⟩
theorem y_assign {r : Nat} {w p : Int} (h0 : cl r 3) (hp : 0 ≤ p ∧ p < 10000000000) (hb : HB b r) (hC : CI M) : tC e d 770 [.inr (.inr (.inl r)), .inr (.inl w), .inr (.inl p)] M n (tQn n (fun M' => BB M' r (w * 10000000000 + p) ∧ BD b M M' r)) := by
  have hr := h0.1
  refine tst_X1_assign ?_
  refine tb_X1_assign_0 (c := false) ?_
  simp only [kb_X1_assign_0, w_ald_0, w_lld_1, w_pf_3_0, w_lld_3, w_pf_3_1, w_re, true_and, and_true, Nat.reduceAdd, Nat.reduceSub, eq_self, tyk_3, hr]
  have h := BD_0 (v := w) hC h0 hb
  refine ⟨rfl, rfl, ⟨?_, ?_⟩, BD_tr h (BD_1 h.1 h0 hb)⟩
  · rw [tU_ni (by decide), tU_eq]
    omega
  · rw [tU_eq]
    omega
theorem y_isBelow {r x1 : Nat} {v w : Int} (h0 : cl r 3) (h1 : cl x1 3) (hv : BB M r v) (hw : BB M x1 w) (rv : RV v) (rw_ : RV w) : tC e d 773 [.inr (.inr (.inl r)), .inr (.inr (.inl x1))] M n (tQi n (fun z M' => ((z = 1 ∧ v < w) ∨ (z = 0 ∧ ¬ v < w)) ∧ M' = M)) := by
  have hr := h0.1
  have hx := h1.1
  have a := BB_r hv rv
  have b := BB_r hw rw_
  obtain ⟨v1, v2⟩ := hv
  obtain ⟨w1, w2⟩ := hw
  refine tst_X1_isBelow ?_
  have n41 : ∀ z : Int, ((z = 1 ∧ v < w) ∨ (z = 0 ∧ ¬ v < w)) → tT e d 773 41 [some (.inr (.inr (.inl (r)))), some (.inr (.inr (.inl (x1))))] [.inl z] M n (tQi n (fun z M' => ((z = 1 ∧ v < w) ∨ (z = 0 ∧ ¬ v < w)) ∧ M' = M)) := by
    intro z hz
    refine tb_X1_isBelow_41 (c := false) ?_
    simp only [kb_X1_isBelow_41, w_ire, trg, true_and, and_true, Nat.reduceAdd, Nat.reduceSub, eq_self]
    exact ⟨by omega, _, rfl, rfl, hz, rfl⟩
  have n36 : v < w → tT e d 773 36 [some (.inr (.inr (.inl (r)))), some (.inr (.inr (.inl (x1))))] [] M n (tQi n (fun z M' => ((z = 1 ∧ v < w) ∨ (z = 0 ∧ ¬ v < w)) ∧ M' = M)) := by
    intro h
    refine tb_X1_isBelow_36 (c := false) ?_
    simp only [kb_X1_isBelow_36, w_ic, w_goto, true_and, and_true, Nat.reduceAdd, Nat.reduceSub, eq_self]
    exact n41 1 (Or.inl ⟨rfl, h⟩)
  have n40 : ¬ v < w → tT e d 773 40 [some (.inr (.inr (.inl (r)))), some (.inr (.inr (.inl (x1))))] [] M n (tQi n (fun z M' => ((z = 1 ∧ v < w) ∨ (z = 0 ∧ ¬ v < w)) ∧ M' = M)) := by
    intro h
    refine tb_X1_isBelow_40 (c := false) ?_
    simp only [kb_X1_isBelow_40, w_ic, w_nil, true_and, and_true, Nat.reduceAdd, Nat.reduceSub, eq_self]
    exact n41 0 (Or.inr ⟨rfl, h⟩)
  refine tb_X1_isBelow_0 (c := false) ?_
  simp only [kb_X1_isBelow_0, w_ald_0, w_gf_3_0, tw_f, w_ald_1, w_lcmp, ne_eq, tlc_r, tlc_eq, tlc_lt, tlc_ge, tlc_gt, tlc_le, w_if_lt, w_if_ne, w_gf_3_1, w_if_ge, w_nil, true_and, and_true, Nat.reduceAdd, Nat.reduceSub, eq_self, tyk_3, hr, hx]
  refine ⟨by omega, fun h => n36 (by omega), fun h => ?_⟩
  refine ⟨by omega, fun h2 => n40 (by omega), fun h2 => ?_⟩
  refine ⟨by omega, fun h3 => n40 (by omega), fun h3 => n36 (by omega)⟩
theorem y_isNegative {r : Nat} {v : Int} (h0 : cl r 3) (hv : BB M r v) (rv : RV v) : tC e d 774 [.inr (.inr (.inl r))] M n (tQi n (fun z M' => ((z = 1 ∧ v < 0) ∨ (z = 0 ∧ ¬ v < 0)) ∧ M' = M)) := by
  have hr := h0.1
  have a := BB_r hv rv
  obtain ⟨v1, v2⟩ := hv
  refine tst_X1_isNegative ?_
  have n14 : ∀ z : Int, ((z = 1 ∧ v < 0) ∨ (z = 0 ∧ ¬ v < 0)) → tT e d 774 14 [some (.inr (.inr (.inl (r))))] [.inl z] M n (tQi n (fun z M' => ((z = 1 ∧ v < 0) ∨ (z = 0 ∧ ¬ v < 0)) ∧ M' = M)) := by
    intro z hz
    refine tb_X1_isNegative_14 (c := false) ?_
    simp only [kb_X1_isNegative_14, w_ire, trg, true_and, and_true, Nat.reduceAdd, Nat.reduceSub, eq_self]
    exact ⟨by omega, _, rfl, rfl, hz, rfl⟩
  refine tb_X1_isNegative_0 (c := false) ?_
  simp only [kb_X1_isNegative_0, w_ald_0, w_gf_3_0, tw_f, w_lc0, w_lcmp, ne_eq, tlc_r, tlc_eq, tlc_lt, tlc_ge, tlc_gt, tlc_le, w_if_ge, w_ic, w_goto, true_and, and_true, Nat.reduceAdd, Nat.reduceSub, eq_self, tyk_3, hr]
  refine ⟨by omega, fun h => ?_, fun h => n14 1 (by omega)⟩
  refine tb_X1_isNegative_13 (c := false) ?_
  simp only [kb_X1_isNegative_13, w_ic, w_nil, true_and, and_true, Nat.reduceAdd, Nat.reduceSub, eq_self]
  exact n14 0 (by omega)
theorem y_isZero {r : Nat} {v : Int} (h0 : cl r 3) (hv : BB M r v) (rv : RV v) : tC e d 777 [.inr (.inr (.inl r))] M n (tQi n (fun z M' => ((z = 1 ∧ v = 0) ∨ (z = 0 ∧ ¬ v = 0)) ∧ M' = M)) := by
  have hr := h0.1
  have a := BB_r hv rv
  obtain ⟨v1, v2⟩ := hv
  refine tst_X1_isZero ?_
  have n23 : ∀ z : Int, ((z = 1 ∧ v = 0) ∨ (z = 0 ∧ ¬ v = 0)) → tT e d 777 23 [some (.inr (.inr (.inl (r))))] [.inl z] M n (tQi n (fun z M' => ((z = 1 ∧ v = 0) ∨ (z = 0 ∧ ¬ v = 0)) ∧ M' = M)) := by
    intro z hz
    refine tb_X1_isZero_23 (c := false) ?_
    simp only [kb_X1_isZero_23, w_ire, trg, true_and, and_true, Nat.reduceAdd, Nat.reduceSub, eq_self]
    exact ⟨by omega, _, rfl, rfl, hz, rfl⟩
  have n22 : ¬ v = 0 → tT e d 777 22 [some (.inr (.inr (.inl (r))))] [] M n (tQi n (fun z M' => ((z = 1 ∧ v = 0) ∨ (z = 0 ∧ ¬ v = 0)) ∧ M' = M)) := by
    intro h
    refine tb_X1_isZero_22 (c := false) ?_
    simp only [kb_X1_isZero_22, w_ic, w_nil, true_and, and_true, Nat.reduceAdd, Nat.reduceSub, eq_self]
    exact n23 0 (Or.inr ⟨rfl, h⟩)
  refine tb_X1_isZero_0 (c := false) ?_
  simp only [kb_X1_isZero_0, w_ald_0, w_gf_3_0, tw_f, w_lc0, w_lcmp, ne_eq, tlc_r, tlc_eq, tlc_lt, tlc_ge, tlc_gt, tlc_le, w_if_ne, w_gf_3_1, w_ic, w_goto, true_and, and_true, Nat.reduceAdd, Nat.reduceSub, eq_self, tyk_3, hr]
  refine ⟨by omega, fun h => n22 (by omega), fun h => ?_⟩
  exact ⟨by omega, fun h2 => n22 (by omega), fun h2 => n23 1 (by omega)⟩
theorem y_isPositive {r : Nat} {v : Int} (h0 : cl r 3) (hv : BB M r v) (rv : RV v) : tC e d 775 [.inr (.inr (.inl r))] M n (tQi n (fun z M' => ((z = 1 ∧ 0 < v) ∨ (z = 0 ∧ ¬ 0 < v)) ∧ M' = M)) := by
  have hr := h0.1
  have a := BB_r hv rv
  obtain ⟨v1, v2⟩ := hv
  refine tst_X1_isPositive ?_
  have n32 : ∀ z : Int, ((z = 1 ∧ 0 < v) ∨ (z = 0 ∧ ¬ 0 < v)) → tT e d 775 32 [some (.inr (.inr (.inl (r))))] [.inl z] M n (tQi n (fun z M' => ((z = 1 ∧ 0 < v) ∨ (z = 0 ∧ ¬ 0 < v)) ∧ M' = M)) := by
    intro z hz
    refine tb_X1_isPositive_32 (c := false) ?_
    simp only [kb_X1_isPositive_32, w_ire, trg, true_and, and_true, Nat.reduceAdd, Nat.reduceSub, eq_self]
    exact ⟨by omega, _, rfl, rfl, hz, rfl⟩
  have n27 : 0 < v → tT e d 775 27 [some (.inr (.inr (.inl (r))))] [] M n (tQi n (fun z M' => ((z = 1 ∧ 0 < v) ∨ (z = 0 ∧ ¬ 0 < v)) ∧ M' = M)) := by
    intro h
    refine tb_X1_isPositive_27 (c := false) ?_
    simp only [kb_X1_isPositive_27, w_ic, w_goto, true_and, and_true, Nat.reduceAdd, Nat.reduceSub, eq_self]
    exact n32 1 (Or.inl ⟨rfl, h⟩)
  have n31 : ¬ 0 < v → tT e d 775 31 [some (.inr (.inr (.inl (r))))] [] M n (tQi n (fun z M' => ((z = 1 ∧ 0 < v) ∨ (z = 0 ∧ ¬ 0 < v)) ∧ M' = M)) := by
    intro h
    refine tb_X1_isPositive_31 (c := false) ?_
    simp only [kb_X1_isPositive_31, w_ic, w_nil, true_and, and_true, Nat.reduceAdd, Nat.reduceSub, eq_self]
    exact n32 0 (Or.inr ⟨rfl, h⟩)
  refine tb_X1_isPositive_0 (c := false) ?_
  simp only [kb_X1_isPositive_0, w_ald_0, w_gf_3_0, tw_f, w_lc0, w_lcmp, ne_eq, tlc_r, tlc_eq, tlc_lt, tlc_ge, tlc_gt, tlc_le, w_if_gt, w_if_ne, w_gf_3_1, w_if_le, w_nil, true_and, and_true, Nat.reduceAdd, Nat.reduceSub, eq_self, tyk_3, hr]
  refine ⟨by omega, fun h => n27 (by omega), fun h => ?_⟩
  refine ⟨by omega, fun h2 => n31 (by omega), fun h2 => ?_⟩
  exact ⟨by omega, fun h3 => n31 (by omega), fun h3 => n27 (by omega)⟩
theorem y_tooGreat {r : Nat} {v : Int} (h0 : cl r 3) (hv : BB M r v) (rv : RV v) : tC e d 776 [.inr (.inr (.inl r))] M n (tQi n (fun z M' => ((z = 1 ∧ FZ v) ∨ (z = 0 ∧ ¬ FZ v)) ∧ M' = M)) := by
  have a := BB_r hv rv
  have k := tgb_FZ a.2
  obtain ⟨v1, v2⟩ := hv
  rw [show M r 0 * 10000000000 + M r 1 = v by omega] at k
  refine tC_mono (x_tooGreat h0 a.1 a.2) ?_
  rintro w M' n' ⟨z, q1, q2, q3, q4⟩
  rw [k] at q3
  exact ⟨z, q1, q2, q3, q4⟩
theorem y_turn {r : Nat} {v : Int} (h0 : cl r 3) (hv : BB M r v) (rv : RV v) (hb : HB b r) (hC : CI M) : tC e d 784 [.inr (.inr (.inl r))] M n (tQn n (fun M' => BB M' r (-v) ∧ BD b M M' r)) := by
  have hr := h0.1
  have a := BB_r hv rv
  obtain ⟨v1, v2⟩ := hv
  refine tst_X1_turn ?_
  refine tb_X1_turn_0 (c := false) ?_
  simp only [kb_X1_turn_0, w_ald_0, w_gf_3_1, tw_f, w_lc0, w_lcmp, ne_eq, tlc_r, tlc_eq, tlc_lt, tlc_ge, tlc_gt, tlc_le, w_if_ne, w_gf_3_0, w_lneg, w_pf_3_0, w_goto, true_and, and_true, Nat.reduceAdd, Nat.reduceSub, eq_self, tyk_3, hr]
  refine ⟨by omega, fun h => ?_, fun h => ?_⟩
  · refine tb_X1_turn_21 (c := false) ?_
    simp only [kb_X1_turn_21, w_ald_0, w_gf_3_0, tw_f, w_lneg, w_lc1, w_lsub, w_pf_3_0, w_ld2, w_gf_3_1, w_pf_3_1, w_nil, true_and, and_true, Nat.reduceAdd, Nat.reduceSub, eq_self, tyk_3, hr]
    refine tb_X1_turn_44 (c := false) ?_
    simp only [kb_X1_turn_44, w_re, true_and, and_true, Nat.reduceAdd, Nat.reduceSub, eq_self]
    have g := BD_0 (v := -M r 0 - 1) hC h0 hb
    have e1 : tU M r 0 (-M r 0 - 1) r 1 = M r 1 := tU_ni (by decide)
    rw [e1]
    have g2 := BD_tr g (BD_1 (v := 10000000000 - M r 1) g.1 h0 hb)
    refine ⟨rfl, rfl, ⟨?_, ?_⟩, g2⟩
    · rw [tU_ni (by decide), tU_eq]
      omega
    · rw [tU_eq]
      omega
  · refine tb_X1_turn_44 (c := false) ?_
    simp only [kb_X1_turn_44, w_re, true_and, and_true, Nat.reduceAdd, Nat.reduceSub, eq_self]
    refine ⟨rfl, rfl, ⟨?_, ?_⟩, BD_0 hC h0 hb⟩
    · rw [tU_eq]
      omega
    · rw [tU_ni (by decide)]
      omega
theorem y_toSum {r x1 x2 : Nat} {v w : Int} (h0 : cl r 3) (h1 : cl x1 3) (h2 : cl x2 3) (hv : BB M x1 v) (hw : BB M x2 w) (rv : RV v) (rw_ : RV w) (hb : HB b r) (hC : CI M) : tC e d 783 [.inr (.inr (.inl r)), .inr (.inr (.inl x1)), .inr (.inr (.inl x2))] M n (tQn n (fun M' => BB M' r (v + w) ∧ BD b M M' r)) := by
  have hr := h0.1
  have g1 := h1.1
  have g2 := h2.1
  have a := BB_r hv rv
  have a2 := BB_r hw rw_
  obtain ⟨v1, v2⟩ := hv
  obtain ⟨w1, w2⟩ := hw
  refine tst_X1_toSum ?_
  refine tb_X1_toSum_0 (c := false) ?_
  simp only [kb_X1_toSum_0, w_ald_1, w_gf_3_0, tw_f, w_ald_2, w_ladd, w_lst_3, tkl_n, tkl_i, tkl_l, tkl_r, w_ald_0, w_gf_3_1, w_pf_3_1, w_lld_3, w_pf_3_0, w_ld2, w_lcmp, ne_eq, tlc_r, tlc_eq, tlc_lt, tlc_ge, tlc_gt, tlc_le, w_if_lt, w_dupi, w_dupr, w_lsub, w_lc1, w_nil, true_and, and_true, Nat.reduceAdd, Nat.reduceSub, eq_self, tyk_3, hr, g1, g2]
  have k1 := BD_1 (v := M x1 1 + M x2 1) hC h0 hb
  have k2 := BD_tr k1 (BD_0 (v := M x1 0 + M x2 0) k1.1 h0 hb)
  have e1 : tU (tU M r 1 (M x1 1 + M x2 1)) r 0 (M x1 0 + M x2 0) r 1 = M x1 1 + M x2 1 := (tU_ni (by decide)).trans (tU_eq ..)
  have e0 : tU (tU M r 1 (M x1 1 + M x2 1)) r 0 (M x1 0 + M x2 0) r 0 = M x1 0 + M x2 0 := tU_eq ..
  generalize tU (tU M r 1 (M x1 1 + M x2 1)) r 0 (M x1 0 + M x2 0) = M2 at k2 e1 e0 ⊢
  refine ⟨by omega, fun h => ?_, fun h => ?_⟩
  · refine tb_X1_toSum_61 (c := false) ?_
    simp only [kb_X1_toSum_61, w_re, true_and, and_true, Nat.reduceAdd, Nat.reduceSub, eq_self]
    exact ⟨rfl, rfl, ⟨by omega, by omega⟩, k2⟩
  refine tb_X1_toSum_61 (c := false) ?_
  simp only [kb_X1_toSum_61, w_re, true_and, and_true, Nat.reduceAdd, Nat.reduceSub, eq_self]
  have e2 : tU M2 r 1 (M2 r 1 - 10000000000) r 0 = M2 r 0 := tU_ni (by decide)
  rw [e2]
  have k3 := BD_1 (v := M2 r 1 - 10000000000) k2.1 h0 hb
  have k4 := BD_tr k2 (BD_tr k3 (BD_0 (v := M2 r 0 + 1) k3.1 h0 hb))
  refine ⟨rfl, rfl, ⟨?_, ?_⟩, k4⟩
  · rw [tU_eq]
    omega
  · rw [tU_ni (by decide), tU_eq]
    omega
theorem y_toDifference {r x1 x2 : Nat} {v w : Int} (h0 : cl r 3) (h1 : cl x1 3) (h2 : cl x2 3) (hv : BB M x1 v) (hw : BB M x2 w) (rv : RV v) (rw_ : RV w) (hb : HB b r) (hC : CI M) : tC e d 781 [.inr (.inr (.inl r)), .inr (.inr (.inl x1)), .inr (.inr (.inl x2))] M n (tQn n (fun M' => BB M' r (v - w) ∧ BD b M M' r)) := by
  have hr := h0.1
  have g1 := h1.1
  have g2 := h2.1
  have a := BB_r hv rv
  have a2 := BB_r hw rw_
  obtain ⟨v1, v2⟩ := hv
  obtain ⟨w1, w2⟩ := hw
  refine tst_X1_toDifference ?_
  refine tb_X1_toDifference_0 (c := false) ?_
  simp only [kb_X1_toDifference_0, w_ald_1, w_gf_3_0, tw_f, w_ald_2, w_lsub, w_lst_3, tkl_n, tkl_i, tkl_l, tkl_r, w_ald_0, w_gf_3_1, w_pf_3_1, w_lld_3, w_pf_3_0, w_lc0, w_lcmp, ne_eq, tlc_r, tlc_eq, tlc_lt, tlc_ge, tlc_gt, tlc_le, w_if_ge, w_dupi, w_dupr, w_ld2, w_ladd, w_lc1, w_nil, true_and, and_true, Nat.reduceAdd, Nat.reduceSub, eq_self, tyk_3, hr, g1, g2]
  have k1 := BD_1 (v := M x1 1 - M x2 1) hC h0 hb
  have k2 := BD_tr k1 (BD_0 (v := M x1 0 - M x2 0) k1.1 h0 hb)
  have e1 : tU (tU M r 1 (M x1 1 - M x2 1)) r 0 (M x1 0 - M x2 0) r 1 = M x1 1 - M x2 1 := (tU_ni (by decide)).trans (tU_eq ..)
  have e0 : tU (tU M r 1 (M x1 1 - M x2 1)) r 0 (M x1 0 - M x2 0) r 0 = M x1 0 - M x2 0 := tU_eq ..
  generalize tU (tU M r 1 (M x1 1 - M x2 1)) r 0 (M x1 0 - M x2 0) = M2 at k2 e1 e0 ⊢
  refine ⟨by omega, fun h => ?_, fun h => ?_⟩
  · refine tb_X1_toDifference_59 (c := false) ?_
    simp only [kb_X1_toDifference_59, w_re, true_and, and_true, Nat.reduceAdd, Nat.reduceSub, eq_self]
    exact ⟨rfl, rfl, ⟨by omega, by omega⟩, k2⟩
  refine tb_X1_toDifference_59 (c := false) ?_
  simp only [kb_X1_toDifference_59, w_re, true_and, and_true, Nat.reduceAdd, Nat.reduceSub, eq_self]
  have e2 : tU M2 r 1 (M2 r 1 + 10000000000) r 0 = M2 r 0 := tU_ni (by decide)
  rw [e2]
  have k3 := BD_1 (v := M2 r 1 + 10000000000) k2.1 h0 hb
  have k4 := BD_tr k2 (BD_tr k3 (BD_0 (v := M2 r 0 - 1) k3.1 h0 hb))
  refine ⟨rfl, rfl, ⟨?_, ?_⟩, k4⟩
  · rw [tU_eq]
    omega
  · rw [tU_ni (by decide), tU_eq]
    omega
theorem y_toMultiple {r x1 : Nat} {v f : Int} (h0 : cl r 3) (h1 : cl x1 3) (hv : BB M x1 v) (rv : 0 ≤ v ∧ v ≤ 100000000000000000000000) (hf : 0 ≤ f ∧ f ≤ 100) (hb : HB b r) (hC : CI M) : tC e d 782 [.inr (.inr (.inl r)), .inr (.inr (.inl x1)), .inr (.inl f)] M n (tQn n (fun M' => BB M' r (v * f) ∧ BD b M M' r)) := by
  have hr := h0.1
  have g1 := h1.1
  have a := BB_r hv (by unfold RV; omega)
  obtain ⟨v1, v2⟩ := hv
  refine tst_X1_toMultiple ?_
  have p1 : 0 ≤ M x1 1 * f := Int.mul_nonneg a.2.1 hf.1
  have p2 : M x1 1 * f ≤ 10000000000 * 100 := Int.mul_le_mul (by omega) hf.2 hf.1 (by decide)
  have p3 : 0 ≤ M x1 0 * f := Int.mul_nonneg (by omega) hf.1
  have p4 : M x1 0 * f ≤ 10000000000000 * 100 := Int.mul_le_mul (by omega) hf.2 hf.1 (by decide)
  have hvf : v * f = M x1 0 * f * 10000000000 + M x1 1 * f := by
    have h : v = M x1 0 * 10000000000 + M x1 1 := by omega
    rw [h, Int.add_mul, Int.mul_right_comm]
  refine tb_X1_toMultiple_0 (c := false) ?_
  simp only [kb_X1_toMultiple_0, w_ald_1, w_gf_3_1, tw_f, w_lld_2, w_lmul, w_lst4, tkl_n, tkl_i, tkl_l, tkl_r, w_ald_0, w_gf_3_0, w_lld4, w_ld2, w_ldiv, w_ladd, w_pf_3_0, w_lrem, w_pf_3_1, w_re, true_and, and_true, Nat.reduceAdd, Nat.reduceSub, eq_self, tyk_3, hr, g1]
  rw [Int.tdiv_eq_ediv_of_nonneg p1, Int.tmod_eq_emod_of_nonneg p1, hvf]
  generalize M x1 1 * f = A at p1 p2 ⊢
  generalize M x1 0 * f = B at p3 p4 ⊢
  have k1 := BD_0 (v := B + A / 10000000000) hC h0 hb
  refine ⟨by omega, by omega, rfl, rfl, ⟨?_, ?_⟩, BD_tr k1 (BD_1 k1.1 h0 hb)⟩
  · rw [tU_ni (by decide), tU_eq]
    omega
  · rw [tU_eq]
    omega
theorem y_halve {r : Nat} {v : Int} (h0 : cl r 3) (hv : BB M r v) (rv : RV v) (hb : HB b r) (hC : CI M) (hd : 1 ≤ d) : tC e d 772 [.inr (.inr (.inl r))] M n (tQn n (fun M' => BB M' r (v / 2) ∧ BD b M M' r)) := by
  have hr := h0.1
  have a := BB_r hv rv
  obtain ⟨v1, v2⟩ := hv
  refine tst_X1_halve ?_
  refine tb_X1_halve_0 (c := false) ?_
  simp only [kb_X1_halve_0, w_ald_0, w_gf_3_0, tw_f, w_ld2, w_is2, tfr_0, tfr_1, tfr_2, tfr_3, tfr_4, w_lst_1, tkl_n, tkl_i, tkl_l, tkl_r, w_gf_3_1, w_lld_1, w_lmul, w_lsub, w_ladd, w_ldiv, w_pf_3_1, w_pf_3_0, w_re, true_and, and_true, Nat.reduceAdd, Nat.reduceSub, eq_self, tyk_3, hr]
  refine tc_l (D := 0) (fun d' _ => t_floorDiv a.1 (by decide)) (by omega) ?_
  rintro z M1 ⟨rfl, rfl⟩
  try simp only [kb_X1_halve_0, w_ald_0, w_gf_3_0, tw_f, w_ld2, w_is2, tfr_0, tfr_1, tfr_2, tfr_3, tfr_4, w_lst_1, tkl_n, tkl_i, tkl_l, tkl_r, w_gf_3_1, w_lld_1, w_lmul, w_lsub, w_ladd, w_ldiv, w_pf_3_1, w_pf_3_0, w_re, true_and, and_true, Nat.reduceAdd, Nat.reduceSub, eq_self, tyk_3, hr]
  rw [Int.tdiv_eq_ediv_of_nonneg (by omega)]
  have k1 := BD_1 (v := (M1 r 1 + (M1 r 0 - 2 * (M1 r 0 / 2)) * 10000000000) / 2) hC h0 hb
  refine ⟨by omega, rfl, rfl, ⟨?_, ?_⟩, BD_tr k1 (BD_0 k1.1 h0 hb)⟩
  · rw [tU_eq]
    omega
  · rw [tU_ni (by decide), tU_eq]
    omega
theorem y_shift {r : Nat} {v s : Int} (h0 : cl r 3) (hv : BB M r v) (rv : RV v) (hs : -10000000000 ≤ s ∧ s ≤ 10000000000) (hb : HB b r) (hC : CI M) : tC e d 780 [.inr (.inr (.inl r)), .inr (.inl s)] M n (tQn n (fun M' => BB M' r (v + s) ∧ BD b M M' r)) := by
  have hr := h0.1
  have a := BB_r hv rv
  obtain ⟨v1, v2⟩ := hv
  refine tst_X1_shift ?_
  refine tb_X1_shift_0 (c := false) ?_
  simp only [kb_X1_shift_0, w_ald_0, w_dupi, w_dupr, w_gf_3_1, tw_f, w_lld_1, w_ladd, w_pf_3_1, w_lc0, w_lcmp, ne_eq, tlc_r, tlc_eq, tlc_lt, tlc_ge, tlc_gt, tlc_le, w_if_ge, w_ld2, w_gf_3_0, w_lc1, w_lsub, w_pf_3_0, w_goto, true_and, and_true, Nat.reduceAdd, Nat.reduceSub, eq_self, tyk_3, hr]
  have k1 := BD_1 (v := M r 1 + s) hC h0 hb
  have e1 : tU M r 1 (M r 1 + s) r 1 = M r 1 + s := tU_eq ..
  have e0 : tU M r 1 (M r 1 + s) r 0 = M r 0 := tU_ni (by decide)
  generalize tU M r 1 (M r 1 + s) = M1 at k1 e1 e0 ⊢
  refine ⟨by omega, fun h => ?_, fun h => ?_⟩
  · refine tb_X1_shift_44 (c := false) ?_
    simp only [kb_X1_shift_44, w_ald_0, w_gf_3_1, tw_f, w_ld2, w_lcmp, ne_eq, tlc_r, tlc_eq, tlc_lt, tlc_ge, tlc_gt, tlc_le, w_if_lt, w_dupi, w_dupr, w_lsub, w_pf_3_1, w_gf_3_0, w_lc1, w_ladd, w_pf_3_0, w_nil, true_and, and_true, Nat.reduceAdd, Nat.reduceSub, eq_self, tyk_3, hr]
    refine ⟨by omega, fun h2 => ?_, fun h2 => ?_⟩
    · refine tb_X1_shift_77 (c := false) ?_
      simp only [kb_X1_shift_77, w_re, true_and, and_true, Nat.reduceAdd, Nat.reduceSub, eq_self]
      exact ⟨rfl, rfl, ⟨by omega, by omega⟩, k1⟩
    refine tb_X1_shift_77 (c := false) ?_
    simp only [kb_X1_shift_77, w_re, true_and, and_true, Nat.reduceAdd, Nat.reduceSub, eq_self]
    have e2 : tU M1 r 1 (M1 r 1 - 10000000000) r 0 = M1 r 0 := tU_ni (by decide)
    rw [e2]
    have k3 := BD_1 (v := M1 r 1 - 10000000000) k1.1 h0 hb
    have k4 := BD_tr k1 (BD_tr k3 (BD_0 (v := M1 r 0 + 1) k3.1 h0 hb))
    refine ⟨rfl, rfl, ⟨?_, ?_⟩, k4⟩
    · rw [tU_eq]
      omega
    · rw [tU_ni (by decide), tU_eq]
      omega
  refine tb_X1_shift_77 (c := false) ?_
  simp only [kb_X1_shift_77, w_re, true_and, and_true, Nat.reduceAdd, Nat.reduceSub, eq_self]
  have e2 : tU M1 r 1 (M1 r 1 + 10000000000) r 0 = M1 r 0 := tU_ni (by decide)
  rw [e2]
  have k3 := BD_1 (v := M1 r 1 + 10000000000) k1.1 h0 hb
  have k4 := BD_tr k1 (BD_tr k3 (BD_0 (v := M1 r 0 - 1) k3.1 h0 hb))
  refine ⟨rfl, rfl, ⟨?_, ?_⟩, k4⟩
  · rw [tU_eq]
    omega
  · rw [tU_ni (by decide), tU_eq]
    omega
/-- rounded by a unit: down, and up -/
def dnv (u v : Int) : Int := v / u * u
def upv (u v : Int) : Int := -dnv u (-v)
/-- what a unit is -/
def UU (u : Int) : Prop := (1 ≤ u ∧ u ≤ 10000000000) ∧ u ∣ 10000000000
theorem rd_dn {v u : Int} (hu : UU u) : v / 10000000000 * 10000000000 + (v % 10000000000 - v % 10000000000 % u) = dnv u v := by
  have h := rd_eq (V := v) (p := v % 10000000000) (q := v / 10000000000) (show 0 < u by have := hu.1; omega) (by omega) hu.2
  unfold dnv
  omega
theorem y_roundDown {r : Nat} {u v : Int} (h0 : cl r 3) (hv : BB M r v) (rv : RV v) (hu : UU u) (hb : HB b r) (hC : CI M) : tC e d 778 [.inr (.inr (.inl r)), .inr (.inl u)] M n (tQn n (fun M' => BB M' r (dnv u v) ∧ BD b M M' r)) := by
  have a := BB_r hv rv
  obtain ⟨v1, v2⟩ := hv
  refine tC_mono (x_roundDown (b := b) h0 hu.1 a.2 hb hC) ?_
  rintro w M' n' ⟨q1, q2, ⟨q3, q4⟩, q5⟩
  refine ⟨q1, q2, ?_, q5⟩
  have g := rd_dn (v := v) hu
  rw [v2] at q4
  have m1 := Int.emod_nonneg (v % 10000000000) (show u ≠ 0 by have := hu.1; omega)
  have m2 := emod_le_self (p := v % 10000000000) (u := u) (by omega) (by have := hu.1; omega)
  rw [← g]
  exact ⟨by omega, by omega⟩
end HAND
