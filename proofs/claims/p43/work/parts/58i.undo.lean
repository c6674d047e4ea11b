/-! THE MODEL: what is undone. -/
section MODEL
variable {e : tE} {d n D : Nat} {M : tM}
theorem o_undo (hP : MP M D) (hd : 1 ≤ d) : tC e d 3729 [.inr (.inr (.inl 664))] M n (tQi n (fun z M' => (0 ≤ z ∧ z ≤ 9) ∧ MP M' D ∧ ME M M')) := by
  refine tst_X12_undo ?_
  have n21 : ∀ M2 : tM, MP M2 D → ME M M2 → M2 664 25 ≠ 0 → tT e d 3729 21 [some (.inr (.inr (.inl 664))), none] [] M2 n (tQi n (fun z M' => (0 ≤ z ∧ z ≤ 9) ∧ MP M' D ∧ ME M M')) := by
    intro M2 hP2 hE h0
    obtain ⟨⟨a1, a2, a3, a4, a5, a6⟩, a7, a8⟩ := hP2
    have h25 := a7.1
    obtain ⟨c, hc⟩ : ∃ c : Int, c = M2 664 25 - 1 := ⟨_, rfl⟩
    have hks := a7.2.1 c (by omega) (by omega)
    obtain ⟨i, hi⟩ : ∃ i : Int, i = M2 674 c := ⟨_, rfl⟩
    have hi9 : 0 ≤ i ∧ i ≤ 9 := by rw [hi]; exact hks.1
    refine tb_X12_undo_21 (c := false) ?_
    simp (disch := decide) only [kb_X12_undo_21, w_ald_0, w_dupi, w_dupr, w_gf_14_25, tw_f, w_ic, w_isub, w_pf_14_25, w_gf_14_19, w_ia, w_iax, w_ist_1, tkl_n, tkl_i, tkl_l, tkl_r, w_gf_14_10, w_ild_1, w_gf_14_20, w_ba, w_bas, w_gf_14_21, w_la, w_lax, w_gf_14_22, w_iv3, tfr_0, tfr_1, tfr_2, tfr_3, tfr_4, w_gf_14_23, w_gf_14_24, w_ire, trg, true_and, and_true, Nat.reduceAdd, Nat.reduceSub, eq_self, tshm_14, tykm_14, tci_14, tsn_671, tyn_17, tcn_10, tsn_674, tsn_675, tsn_676, tsn_677, tsn_678, tsn_679, tyn_19, tyn_20, tyn_34, tcn_12, tU_nk, tU_ni, tU_eq]
    rw [← hc, ← hi]
    refine ⟨by omega, by omega, by omega, fun _ => hks.2.1, ?_⟩
    refine ⟨by omega, by omega, ?_⟩
    have m3 : ∀ (k : Nat) (j : Int), ¬ (k = 664 ∧ j = 25) → ¬ (k = 671 ∧ j = i) → tU (tU M2 664 25 c) 671 i (M2 675 c) k j = M2 k j := by
      intro k j g1 g2
      unfold tU
      rw [if_neg g2, if_neg g1]
    have e25 : tU (tU M2 664 25 c) 671 i (M2 675 c) 664 25 = c := (tU_nk (by decide)).trans (tU_eq ..)
    have e71 : tU (tU M2 664 25 c) 671 i (M2 675 c) 671 i = M2 675 c := tU_eq ..
    generalize tU (tU M2 664 25 c) 671 i (M2 675 c) = M3 at m3 e25 e71 ⊢
    refine tc_n (D := 0) (fun d' hd' => c_low (by omega)) (by omega) ?_
    intro M4 hM4
    have m4 : ∀ (k : Nat) (j : Int), ¬ (isB k ∧ j = i) → M4 k j = M3 k j := fun k j g => by rw [hM4]; exact sLo_k g
    have u7 : M4 667 i = M2 676 c := by rw [hM4]; unfold sLo; simp (disch := decide) only [tU_nk, tU_eq]
    have u8 : M4 668 i = M2 677 c := by rw [hM4]; unfold sLo; simp (disch := decide) only [tU_nk, tU_eq]
    have f25 : M4 664 25 = c := (m4 664 25 (by unfold isB; omega)).trans e25
    clear hM4
    try simp only [kb_X12_undo_21, w_ald_0, w_dupi, w_dupr, w_gf_14_25, tw_f, w_ic, w_isub, w_pf_14_25, w_gf_14_19, w_ia, w_iax, w_ist_1, tkl_n, tkl_i, tkl_l, tkl_r, w_gf_14_10, w_ild_1, w_gf_14_20, w_ba, w_bas, w_gf_14_21, w_la, w_lax, w_gf_14_22, w_iv3, tfr_0, tfr_1, tfr_2, tfr_3, tfr_4, w_gf_14_23, w_gf_14_24, w_ire, trg, true_and, and_true, Nat.reduceAdd, Nat.reduceSub, eq_self, tshm_14, tykm_14, tci_14, tsn_671, tyn_17, tcn_10, tsn_674, tsn_675, tsn_676, tsn_677, tsn_678, tsn_679, tyn_19, tyn_20, tyn_34, tcn_12, f25]
    refine ⟨by omega, by omega, ?_⟩
    refine tc_n (D := 0) (fun d' hd' => c_high (by omega)) (by omega) ?_
    intro M5 hM5
    have m5 : ∀ (k : Nat) (j : Int), ¬ (isB k ∧ j = i) → M5 k j = M4 k j := fun k j g => by rw [hM5]; exact sHi_k g
    have v7 : M5 667 i = M2 676 c := by rw [hM5]; unfold sHi; simp (disch := decide) only [tU_nk, tU_eq, u7]
    have v8 : M5 668 i = M2 677 c := by rw [hM5]; unfold sHi; simp (disch := decide) only [tU_nk, tU_eq, u8]
    have w9 : M4 678 c = M2 678 c := (m4 _ _ (by unfold isB; omega)).trans (m3 _ _ (by omega) (by omega))
    have w0 : M4 679 c = M2 679 c := (m4 _ _ (by unfold isB; omega)).trans (m3 _ _ (by omega) (by omega))
    have v9 : M5 669 i = M2 678 c := by rw [hM5, ← w9]; unfold sHi; simp (disch := decide) only [tU_nk, tU_eq]
    have v0 : M5 670 i = M2 679 c := by rw [hM5, ← w0]; unfold sHi; simp (disch := decide) only [tU_nk, tU_eq]
    clear hM5
    have t5 : ∀ (k : Nat) (j : Int), ¬ (k = 664 ∧ j = 25) → ¬ ((k = 671 ∨ isB k) ∧ j = i) → M5 k j = M2 k j := fun k j g1 g2 => ((m5 k j (fun q => g2 ⟨Or.inr q.1, q.2⟩)).trans (m4 k j (fun q => g2 ⟨Or.inr q.1, q.2⟩))).trans (m3 k j g1 (fun q => g2 ⟨Or.inl q.1, q.2⟩))
    have t25 : M5 664 25 = c := (m5 _ _ (by unfold isB; omega)).trans f25
    have t71 : M5 671 i = M2 675 c := ((m5 _ _ (by unfold isB; omega)).trans (m4 _ _ (by unfold isB; omega))).trans e71
    try simp only [kb_X12_undo_21, w_ald_0, w_dupi, w_dupr, w_gf_14_25, tw_f, w_ic, w_isub, w_pf_14_25, w_gf_14_19, w_ia, w_iax, w_ist_1, tkl_n, tkl_i, tkl_l, tkl_r, w_gf_14_10, w_ild_1, w_gf_14_20, w_ba, w_bas, w_gf_14_21, w_la, w_lax, w_gf_14_22, w_iv3, tfr_0, tfr_1, tfr_2, tfr_3, tfr_4, w_gf_14_23, w_gf_14_24, w_ire, trg, true_and, and_true, Nat.reduceAdd, Nat.reduceSub, eq_self, tshm_14, tykm_14, tci_14, tsn_671, tyn_17, tcn_10, tsn_674, tsn_675, tsn_676, tsn_677, tsn_678, tsn_679, tyn_19, tyn_20, tyn_34, tcn_12]
    unfold KS at hks
    refine ⟨i, rfl, rfl, hi9, ⟨⟨(t5 _ _ (by decide) (by unfold isB; omega)).trans a1, a2, (t5 _ _ (by decide) (by unfold isB; omega)).trans a3, a4, fun b b1 b2 => ?_, KI_same (fun k j g => t5 k j (by omega) (by unfold isB; omega)) a6⟩, ⟨by omega, fun j j1 j2 => ?_, fun j j1 j2 => ?_⟩, fun b b1 b2 => ?_⟩, ME_tr hE (fun k j g1 g2 g3 => t5 k j (by omega) (by unfold isB; omega))⟩
    · by_cases hb : b = i
      · unfold bcan
        rw [hb, v7, v8, v9, v0]
        omega
      · have := a5 b b1 b2
        unfold bcan at this ⊢
        rw [t5 667 b (by omega) (fun q => hb q.2), t5 668 b (by omega) (fun q => hb q.2), t5 669 b (by omega) (fun q => hb q.2), t5 670 b (by omega) (fun q => hb q.2)]
        exact this
    · have := a7.2.1 j j1 j2
      unfold KS at this ⊢
      rw [t5 674 j (by omega) (by unfold isB; omega), t5 675 j (by omega) (by unfold isB; omega), t5 676 j (by omega) (by unfold isB; omega), t5 677 j (by omega) (by unfold isB; omega), t5 678 j (by omega) (by unfold isB; omega), t5 679 j (by omega) (by unfold isB; omega)]
      exact this
    · by_cases hb : j = i
      · rw [hb, t71]
        exact hks.2.1
      · rw [t5 671 j (by omega) (fun q => hb q.2)]
        exact a7.2.2 j j1 j2
    · by_cases hb : b = i
      · unfold OB zlo zhi
        rw [hb, v7, v8, v9, v0]
        omega
      · exact OB_same (fun k g => t5 k b (by unfold isB at g; omega) (fun q => hb q.2)) (a8 b b1 b2)
  have n13 : ∀ v : Int, (v = 0 ∧ M 664 25 ≠ 0 ∨ v = 1) → tT e d 3729 13 [some (.inr (.inr (.inl 664))), none] [.inl v, .inr (.inr (.inl 664))] M n (tQi n (fun z M' => (0 ≤ z ∧ z ≤ 9) ∧ MP M' D ∧ ME M M')) := by
    intro v hv
    refine tb_X12_undo_13 (c := false) ?_
    simp only [kb_X12_undo_13, w_iv1, tfr_0, tfr_1, tfr_2, tfr_3, tfr_4, w_if_eq, w_ic, w_ire, trg, true_and, and_true, Nat.reduceAdd, Nat.reduceSub, eq_self, tshm_14, tykm_14, tci_14, tsn_671, tyn_17, tcn_10, tsn_674, tsn_675, tsn_676, tsn_677, tsn_678, tsn_679, tyn_19, tyn_20, tyn_34, tcn_12]
    refine tc_i (D := 0) (fun d' hd' => o_fails (by omega)) (by omega) ?_
    rintro z M2 ⟨q2, rfl⟩
    try simp only [kb_X12_undo_13, w_iv1, tfr_0, tfr_1, tfr_2, tfr_3, tfr_4, w_if_eq, w_ic, w_ire, trg, true_and, and_true, Nat.reduceAdd, Nat.reduceSub, eq_self, tshm_14, tykm_14, tci_14, tsn_671, tyn_17, tcn_10, tsn_674, tsn_675, tsn_676, tsn_677, tsn_678, tsn_679, tyn_19, tyn_20, tyn_34, tcn_12]
    have h4 := MP_3 (v := v) hP
    refine ⟨by omega, fun h => ?_, fun h => ?_⟩
    · exact n21 _ h4.1 h4.2 (by rw [tU_ni (by decide)]; omega)
    · exact ⟨0, rfl, rfl, by omega, h4.1, h4.2⟩
  refine tb_X12_undo_0 (c := false) ?_
  simp only [kb_X12_undo_0, w_ald_0, w_gf_14_25, tw_f, w_if_ne, w_ic, w_goto, true_and, and_true, Nat.reduceAdd, Nat.reduceSub, eq_self, tshm_14, tykm_14, tci_14, tsn_671, tyn_17, tcn_10, tsn_674, tsn_675, tsn_676, tsn_677, tsn_678, tsn_679, tyn_19, tyn_20, tyn_34, tcn_12]
  have := hP.2.1.1
  refine ⟨by omega, fun h => ?_, fun h => n13 1 (Or.inr rfl)⟩
  refine tb_X12_undo_12 (c := false) ?_
  simp only [kb_X12_undo_12, w_ic, w_nil, true_and, and_true, Nat.reduceAdd, Nat.reduceSub, eq_self]
  exact n13 0 (Or.inl ⟨rfl, h⟩)
end MODEL
