/-! THE MODEL: curves, constants, digits. -/
section MODEL
variable {e : tE} {d n D : Nat} {M : tM}
theorem o_apply {x1 x2 c : Int} (hP : MP M D) (h1 : -2147483648 ≤ x1 ∧ x1 < 2147483648) (h2 : -2147483648 ≤ x2 ∧ x2 < 2147483648) (hc : 0 ≤ c ∧ c < 65536) (hd : 9 ≤ d) : tC e d 3589 [.inr (.inr (.inl 664)), .inl x1, .inl x2, .inl c] M n (tQi n (fun z M' => (z = 0 ∨ z = 1) ∧ MP M' D ∧ ME M M')) := by
  refine tst_X12_apply ?_
  have n133 : ∀ (M0 M1 : tM) (w z : Int), MP M0 D → ME M M0 → (0 ≤ x1 ∧ x1 ≤ 9) → OK3 z M1 60 → xE (toF 60 61) (tU M0 664 11 61) M1 → tT e d 3589 133 [some (.inr (.inr (.inl 664))), some (.inl x1), some (.inl x2), some (.inl c), some (.inl w), none] [.inl z] M1 n (tQi n (fun z M' => (z = 0 ∨ z = 1) ∧ MP M' D ∧ ME M M')) := by
    intro M0 M1 w z q1 q2 g1 q3 q4
    have ho := MP_out q1 q4
    have hz : z = 0 ∨ z = 1 ∨ z = 2 := q3.1
    refine tb_X12_apply_133 (c := false) ?_
    simp only [kb_X12_apply_133, w_ist5, tkl_n, tkl_i, tkl_l, tkl_r, w_ald_0, w_bi, w_pf_14_11, w_ild_1, w_ild5, w_ic, w_iv4, tfr_0, tfr_1, tfr_2, tfr_3, tfr_4, w_ire, trg, true_and, and_true, Nat.reduceAdd, Nat.reduceSub, eq_self, tshm_14, tykm_14, tci_14, tsn_671, tyn_17, tcn_10]
    refine tc_i (D := 5) (fun d' hd' => o_makes ho.1 g1 hz (fun g => ho.2.2 (q3.2 g)) (by omega) (by omega) (by omega)) (by omega) ?_
    rintro z2 M3 ⟨r1, r2, r3⟩
    try simp only [kb_X12_apply_133, w_ist5, tkl_n, tkl_i, tkl_l, tkl_r, w_ald_0, w_bi, w_pf_14_11, w_ild_1, w_ild5, w_ic, w_iv4, tfr_0, tfr_1, tfr_2, tfr_3, tfr_4, w_ire, trg, true_and, and_true, Nat.reduceAdd, Nat.reduceSub, eq_self, tshm_14, tykm_14, tci_14, tsn_671, tyn_17, tcn_10]
    exact ⟨by omega, z2, rfl, rfl, r1, r2, ME_tr q2 (ME_tr ho.2.1 r3)⟩
  have n87 : ∀ (M0 : tM) (w : Int), MP M0 D → ME M M0 → (0 ≤ x1 ∧ x1 ≤ 9) → (0 ≤ x2 ∧ x2 ≤ 9) → tT e d 3589 87 [some (.inr (.inr (.inl 664))), some (.inl x1), some (.inl x2), some (.inl c), some (.inl w), none] [] M0 n (tQi n (fun z M' => (z = 0 ∨ z = 1) ∧ MP M' D ∧ ME M M')) := by
    intro M0 w q1 q2 g1 g2
    have hin := MP_in q1
    have hob := hin.2.2 x2 (by omega) (by omega)
    refine tb_X12_apply_87 (c := false) ?_
    simp only [kb_X12_apply_87, w_ald_0, w_bi, w_pf_14_11, w_ild_3, w_ic_ne, w_ild_2, w_iv2, tfr_0, tfr_1, tfr_2, tfr_3, tfr_4, w_goto, true_and, and_true, Nat.reduceAdd, Nat.reduceSub, eq_self, tshm_14, tykm_14, tci_14, tsn_671, tyn_17, tcn_10]
    refine ⟨by omega, fun h => ?_, fun h => ?_⟩
    · refine tb_X12_apply_109 (c := false) ?_
      simp only [kb_X12_apply_109, w_ild_3, w_bi, w_ic_ne, w_ald_0, w_ild_2, w_iv2, tfr_0, tfr_1, tfr_2, tfr_3, tfr_4, w_goto, true_and, and_true, Nat.reduceAdd, Nat.reduceSub, eq_self, tshm_14, tykm_14, tci_14, tsn_671, tyn_17, tcn_10]
      refine ⟨by omega, fun h => ?_, fun h => ?_⟩
      · refine tb_X12_apply_125 (c := false) ?_
        simp only [kb_X12_apply_125, w_ald_0, w_bi, w_ild_2, w_ild_3, w_iv3, tfr_0, tfr_1, tfr_2, tfr_3, tfr_4, w_nil, true_and, and_true, Nat.reduceAdd, Nat.reduceSub, eq_self, tshm_14, tykm_14, tci_14, tsn_671, tyn_17, tcn_10]
        refine tc_i (D := 7) (fun d' hd' => o_rising hin.1 (by omega) (by omega) hob hc hd') (by omega) ?_
        rintro z M1 ⟨p1, p2⟩
        try simp only [kb_X12_apply_125, w_ald_0, w_bi, w_ild_2, w_ild_3, w_iv3, tfr_0, tfr_1, tfr_2, tfr_3, tfr_4, w_nil, true_and, and_true, Nat.reduceAdd, Nat.reduceSub, eq_self, tshm_14, tykm_14, tci_14, tsn_671, tyn_17, tcn_10]
        exact n133 M0 M1 w z q1 q2 g1 p1 p2
      refine tc_i (D := 7) (fun d' hd' => o_unsigned hin.1 (by omega) (by omega) hob (by omega)) (by omega) ?_
      rintro z M1 ⟨p1, p2⟩
      try simp only [kb_X12_apply_109, w_ild_3, w_bi, w_ic_ne, w_ald_0, w_ild_2, w_iv2, tfr_0, tfr_1, tfr_2, tfr_3, tfr_4, w_goto, true_and, and_true, Nat.reduceAdd, Nat.reduceSub, eq_self, tshm_14, tykm_14, tci_14, tsn_671, tyn_17, tcn_10]
      exact n133 M0 M1 w z q1 q2 g1 p1 p2
    refine tc_i (D := 7) (fun d' hd' => o_negative hin.1 (by omega) (by omega) hob (by omega)) (by omega) ?_
    rintro z M1 ⟨p1, p2⟩
    try simp only [kb_X12_apply_87, w_ald_0, w_bi, w_pf_14_11, w_ild_3, w_ic_ne, w_ild_2, w_iv2, tfr_0, tfr_1, tfr_2, tfr_3, tfr_4, w_goto, true_and, and_true, Nat.reduceAdd, Nat.reduceSub, eq_self, tshm_14, tykm_14, tci_14, tsn_671, tyn_17, tcn_10]
    exact n133 M0 M1 w z q1 q2 g1 p1 p2
  have n79 : ∀ (v w : Int), (0 ≤ v ∧ v ≤ 3) → (v = 0 → (0 ≤ x1 ∧ x1 ≤ 9) ∧ (0 ≤ x2 ∧ x2 ≤ 9)) → tT e d 3589 79 [some (.inr (.inr (.inl 664))), some (.inl x1), some (.inl x2), some (.inl c), some (.inl w), none] [.inl v, .inr (.inr (.inl 664))] M n (tQi n (fun z M' => (z = 0 ∨ z = 1) ∧ MP M' D ∧ ME M M')) := by
    intro v w hv hv0
    refine tb_X12_apply_79 (c := false) ?_
    simp only [kb_X12_apply_79, w_iv1, tfr_0, tfr_1, tfr_2, tfr_3, tfr_4, w_if_eq, w_ic, w_ire, trg, true_and, and_true, Nat.reduceAdd, Nat.reduceSub, eq_self, tshm_14, tykm_14, tci_14, tsn_671, tyn_17, tcn_10]
    refine tc_i (D := 0) (fun d' hd' => o_fails (by omega)) (by omega) ?_
    rintro z M2 ⟨q2, rfl⟩
    try simp only [kb_X12_apply_79, w_iv1, tfr_0, tfr_1, tfr_2, tfr_3, tfr_4, w_if_eq, w_ic, w_ire, trg, true_and, and_true, Nat.reduceAdd, Nat.reduceSub, eq_self, tshm_14, tykm_14, tci_14, tsn_671, tyn_17, tcn_10]
    have h4 := MP_3 (v := v) hP
    refine ⟨by omega, fun h => ?_, fun h => ?_⟩
    · have := hv0 (by omega)
      exact n87 _ w h4.1 h4.2 this.1 this.2
    · exact ⟨by omega, 0, rfl, rfl, Or.inl rfl, h4.1, h4.2⟩
  have n52 : ∀ w : Int, tT e d 3589 52 [some (.inr (.inr (.inl 664))), some (.inl x1), some (.inl x2), some (.inl c), some (.inl w), none] [.inr (.inr (.inl 664))] M n (tQi n (fun z M' => (z = 0 ∨ z = 1) ∧ MP M' D ∧ ME M M')) := by
    intro w
    refine tb_X12_apply_52 (c := false) ?_
    simp only [kb_X12_apply_52, w_ic, w_goto, true_and, and_true, Nat.reduceAdd, Nat.reduceSub, eq_self]
    exact n79 1 w (by omega) (fun g => absurd g (by decide))
  have n56 : ∀ w : Int, (0 ≤ w ∧ w ≤ 1) → (0 ≤ x1 ∧ x1 ≤ 9) → (0 ≤ x2 ∧ x2 ≤ 9) → tT e d 3589 56 [some (.inr (.inr (.inl 664))), some (.inl x1), some (.inl x2), some (.inl c), some (.inl w), none] [.inr (.inr (.inl 664))] M n (tQi n (fun z M' => (z = 0 ∨ z = 1) ∧ MP M' D ∧ ME M M')) := by
    intro w hw g1 g2
    refine tb_X12_apply_56 (c := false) ?_
    simp only [kb_X12_apply_56, w_ild4, w_if_ne, w_ic, w_goto, true_and, and_true, Nat.reduceAdd, Nat.reduceSub, eq_self]
    refine ⟨by omega, fun h => ?_, fun h => n79 2 w (by omega) (fun g => absurd g (by decide))⟩
    refine tb_X12_apply_65 (c := false) ?_
    simp only [kb_X12_apply_65, w_ald_0, w_gf_14_10, tw_f, w_ild_2, w_ba, w_if_ne, w_ic, w_goto, true_and, and_true, Nat.reduceAdd, Nat.reduceSub, eq_self, tshm_14, tykm_14, tci_14, tsn_671, tyn_17, tcn_10]
    have g4 := hP.2.1.2.2 x2 (by omega) (by omega)
    refine ⟨by omega, by omega, fun h => ?_, fun h => n79 3 w (by omega) (fun g => absurd g (by decide))⟩
    refine tb_X12_apply_78 (c := false) ?_
    simp only [kb_X12_apply_78, w_ic, w_nil, true_and, and_true, Nat.reduceAdd, Nat.reduceSub, eq_self]
    exact n79 0 w (by omega) (fun _ => ⟨g1, g2⟩)
  have n35 : ∀ w : Int, (0 ≤ w ∧ w ≤ 1) → tT e d 3589 35 [some (.inr (.inr (.inl 664))), some (.inl x1), some (.inl x2), some (.inl c), none, none] [.inl w] M n (tQi n (fun z M' => (z = 0 ∨ z = 1) ∧ MP M' D ∧ ME M M')) := by
    intro w hw
    refine tb_X12_apply_35 (c := false) ?_
    simp only [kb_X12_apply_35, w_ist4, tkl_n, tkl_i, tkl_l, tkl_r, w_ald_0, w_ild_1, w_is1, tfr_0, tfr_1, tfr_2, tfr_3, tfr_4, w_if_eq, w_ild_2, w_if_ne, w_nil, true_and, and_true, Nat.reduceAdd, Nat.reduceSub, eq_self]
    refine tc_i (D := 1) (fun d' hd' => o_isShelf h1 hd') (by omega) ?_
    rintro z1 M1 ⟨q1, rfl⟩
    try simp only [kb_X12_apply_35, w_ist4, tkl_n, tkl_i, tkl_l, tkl_r, w_ald_0, w_ild_1, w_is1, tfr_0, tfr_1, tfr_2, tfr_3, tfr_4, w_if_eq, w_ild_2, w_if_ne, w_nil, true_and, and_true, Nat.reduceAdd, Nat.reduceSub, eq_self]
    refine ⟨by omega, fun h => n52 w, fun h => ?_⟩
    refine tc_i (D := 1) (fun d' hd' => o_isShelf h2 hd') (by omega) ?_
    rintro z2 M2 ⟨q2, rfl⟩
    try simp only [kb_X12_apply_35, w_ist4, tkl_n, tkl_i, tkl_l, tkl_r, w_ald_0, w_ild_1, w_is1, tfr_0, tfr_1, tfr_2, tfr_3, tfr_4, w_if_eq, w_ild_2, w_if_ne, w_nil, true_and, and_true, Nat.reduceAdd, Nat.reduceSub, eq_self]
    exact ⟨by omega, fun h => n56 w hw (by omega) (by omega), fun h => n52 w⟩
  have n30 : tT e d 3589 30 [some (.inr (.inr (.inl 664))), some (.inl x1), some (.inl x2), some (.inl c), none, none] [] M n (tQi n (fun z M' => (z = 0 ∨ z = 1) ∧ MP M' D ∧ ME M M')) := by
    refine tb_X12_apply_30 (c := false) ?_
    simp only [kb_X12_apply_30, w_ic, w_goto, true_and, and_true, Nat.reduceAdd, Nat.reduceSub, eq_self]
    exact n35 1 (by omega)
  refine tb_X12_apply_0 (c := false) ?_
  simp only [kb_X12_apply_0, w_ild_3, w_bi, w_ic_eq, w_ic_ne, w_nil, true_and, and_true, Nat.reduceAdd, Nat.reduceSub, eq_self]
  refine ⟨by omega, fun h => n30, fun h => ⟨by omega, fun h => n30, fun h => ⟨by omega, fun h => n30, fun h => ⟨by omega, fun h => n30, fun h => ⟨by omega, fun h => ?_, fun h => n30⟩⟩⟩⟩⟩
  refine tb_X12_apply_34 (c := false) ?_
  simp only [kb_X12_apply_34, w_ic, w_nil, true_and, and_true, Nat.reduceAdd, Nat.reduceSub, eq_self]
  exact n35 0 (by omega)
theorem o_setDigits {x : Int} (hP : MP M D) (hx : -2147483648 ≤ x ∧ x < 2147483648) (hd : 1 ≤ d) : tC e d 3701 [.inr (.inr (.inl 664)), .inl x] M n (tQi n (fun z M' => (((0 ≤ x ∧ x ≤ 10) ∧ z = (D : Int) ∧ M' 664 3 = 0 ∧ MP M' x.toNat) ∨ (¬ (0 ≤ x ∧ x ≤ 10) ∧ z = 0 ∧ M' 664 3 = 1 ∧ MP M' D)) ∧ ∀ (k : Nat) (i : Int), ¬ (k = 664 ∧ (i = 2 ∨ i = 3)) → M' k i = M k i)) := by
  refine tst_X12_setDigits ?_
  have n18 : ∀ v : Int, (v = 0 ∧ (0 ≤ x ∧ x ≤ 10) ∨ v = 1 ∧ ¬ (0 ≤ x ∧ x ≤ 10)) → tT e d 3701 18 [some (.inr (.inr (.inl 664))), some (.inl x), none] [.inl v, .inr (.inr (.inl 664))] M n (tQi n (fun z M' => (((0 ≤ x ∧ x ≤ 10) ∧ z = (D : Int) ∧ M' 664 3 = 0 ∧ MP M' x.toNat) ∨ (¬ (0 ≤ x ∧ x ≤ 10) ∧ z = 0 ∧ M' 664 3 = 1 ∧ MP M' D)) ∧ ∀ (k : Nat) (i : Int), ¬ (k = 664 ∧ (i = 2 ∨ i = 3)) → M' k i = M k i)) := by
    intro v hv
    refine tb_X12_setDigits_18 (c := false) ?_
    simp only [kb_X12_setDigits_18, w_iv1, tfr_0, tfr_1, tfr_2, tfr_3, tfr_4, w_if_eq, w_ic, w_ire, trg, true_and, and_true, Nat.reduceAdd, Nat.reduceSub, eq_self, tshm_14, tykm_14, tci_14, tsn_671, tyn_17, tcn_10]
    refine tc_i (D := 0) (fun d' hd' => o_fails (by omega)) (by omega) ?_
    rintro z M2 ⟨q2, rfl⟩
    try simp only [kb_X12_setDigits_18, w_iv1, tfr_0, tfr_1, tfr_2, tfr_3, tfr_4, w_if_eq, w_ic, w_ire, trg, true_and, and_true, Nat.reduceAdd, Nat.reduceSub, eq_self, tshm_14, tykm_14, tci_14, tsn_671, tyn_17, tcn_10]
    have h4 := MP_3 (v := v) hP
    have hk : ∀ (k : Nat) (i : Int), ¬ (k = 664 ∧ (i = 2 ∨ i = 3)) → tU M 664 3 v k i = M k i := fun k i g => by
      unfold tU
      rw [if_neg (by omega)]
    have e3 : tU M 664 3 v 664 3 = v := tU_eq ..
    have e2 : tU M 664 3 v 664 2 = (D : Int) := (tU_ni (by decide)).trans hP.1.1
    refine ⟨by omega, fun h => ?_, fun h => ?_⟩
    · refine tb_X12_setDigits_26 (c := false) ?_
      simp only [kb_X12_setDigits_26, w_ald_0, w_gf_14_2, tw_f, w_ist_2, tkl_n, tkl_i, tkl_l, tkl_r, w_ild_1, w_pf_14_2, w_ild_2, w_ire, trg, true_and, and_true, Nat.reduceAdd, Nat.reduceSub, eq_self, tshm_14, tykm_14, tci_14, tsn_671, tyn_17, tcn_10]
      refine ⟨_, rfl, rfl, Or.inl ⟨by omega, e2, (tU_ni (by decide)).trans (e3.trans (by omega)), ?_⟩, fun k i g => (show tU (tU M 664 3 v) 664 2 x k i = _ by unfold tU; rw [if_neg (by omega), if_neg (by omega)])⟩
      obtain ⟨⟨⟨a1, a2, a3, a4, a5, a6⟩, a7, a8⟩, a9⟩ := h4
      generalize tU M 664 3 v = M2 at a1 a2 a3 a4 a5 a6 a7 a8 ⊢
      have hj : ∀ (k : Nat) (i : Int), ¬ (k = 664 ∧ i = 2) → tU M2 664 2 x k i = M2 k i := fun k i g => by
        unfold tU
        rw [if_neg g]
      refine ⟨⟨(tU_eq ..).trans (by omega), by omega, (hj _ _ (by decide)).trans a3, a4, BI_same (fun k i g => hj k i (by unfold isB at g; omega)) a5, KI_same (fun k i g => hj k i (by omega)) a6⟩, ⟨by rw [hj 664 25 (by decide)]; exact a7.1, fun j j1 j2 => ?_, fun i i1 i2 => by rw [hj 671 i (by omega)]; exact a7.2.2 i i1 i2⟩, fun b b1 b2 => OB_same (fun k g => hj k b (by unfold isB at g; omega)) (a8 b b1 b2)⟩
      have := a7.2.1 j j1 j2
      unfold KS at this ⊢
      rw [hj 674 j (by omega), hj 675 j (by omega), hj 676 j (by omega), hj 677 j (by omega), hj 678 j (by omega), hj 679 j (by omega)]
      exact this
    · exact ⟨0, rfl, rfl, Or.inr ⟨by omega, rfl, e3.trans (by omega), h4.1⟩, hk⟩
  refine tb_X12_setDigits_0 (c := false) ?_
  simp only [kb_X12_setDigits_0, w_ald_0, w_ild_1, w_i2l, w_lc0, w_ld2, w_is3, tfr_0, tfr_1, tfr_2, tfr_3, tfr_4, w_if_eq, w_ic, w_goto, true_and, and_true, Nat.reduceAdd, Nat.reduceSub, eq_self]
  refine ⟨by omega, ?_⟩
  refine tc_i (D := 0) (fun d' hd' => c_in (by omega) (by omega) (by omega)) (by omega) ?_
  rintro z M1 ⟨q1, rfl⟩
  try simp only [kb_X12_setDigits_0, w_ald_0, w_ild_1, w_i2l, w_lc0, w_ld2, w_is3, tfr_0, tfr_1, tfr_2, tfr_3, tfr_4, w_if_eq, w_ic, w_goto, true_and, and_true, Nat.reduceAdd, Nat.reduceSub, eq_self]
  refine ⟨by omega, fun h => ?_, fun h => n18 0 (by omega)⟩
  refine tb_X12_setDigits_17 (c := false) ?_
  simp only [kb_X12_setDigits_17, w_ic, w_nil, true_and, and_true, Nat.reduceAdd, Nat.reduceSub, eq_self]
  exact n18 1 (by omega)
end MODEL
