/-! THE MODEL, exactly: whether what a shelf becomes is single; constant. -/
section MODEL
variable {e : tE} {d n D : Nat} {M : tM}
theorem o_becomes_s {x y : Int} (hK : KB M) (hx : 0 ≤ x ∧ x ≤ 9) (hy : 0 ≤ y ∧ y < 700) (hB : BI M) (hO : OB M x) (hd : 2 ≤ d) : tC e d 3593 [.inr (.inr (.inl 664)), .inl x, .inl y] M n (tQi n (fun z M' => ((z = 1 ∧ zlo M y = zhi M y) ∨ (z = 0 ∧ ¬ zlo M y = zhi M y)) ∧ KB M' ∧ SE x M M' ∧ BI M' ∧ zlo M' x = zlo M y ∧ zhi M' x = zhi M y)) := by
  refine tst_X12_becomes ?_
  have n119 : ∀ (M1 : tM) (w : Option tV), KB M1 → M1 664 25 < 12 → SE x M M1 → (∀ (k : Nat) (i : Int), isB k → M1 k i = M k i) → tT e d 3593 119 [some (.inr (.inr (.inl 664))), some (.inl x), some (.inl y), w] [] M1 n (tQi n (fun z M' => ((z = 1 ∧ zlo M y = zhi M y) ∨ (z = 0 ∧ ¬ zlo M y = zhi M y)) ∧ KB M' ∧ SE x M M' ∧ BI M' ∧ zlo M' x = zlo M y ∧ zhi M' x = zhi M y)) := by
    intro M1 w hK1 hc hS hb
    refine tb_X12_becomes_119 (c := false) ?_
    simp (disch := decide) only [kb_X12_becomes_119, w_ald_0, w_gf_14_19, tw_f, w_gf_14_25, w_ild_1, w_ias, ne_eq, eq_self, not_true_eq_false, false_implies, w_gf_14_20, w_gf_14_10, w_ba, w_bas, w_gf_14_21, w_gf_14_6, w_la, w_lax, w_las, w_gf_14_22, w_gf_14_7, w_gf_14_23, w_gf_14_8, w_gf_14_24, w_gf_14_9, w_dupi, w_dupr, w_ic, w_iadd, w_pf_14_25, w_ild_2, w_iv2, tfr_0, tfr_1, tfr_2, tfr_3, tfr_4, w_iv1, w_ire, trg, true_and, and_true, Nat.reduceAdd, Nat.reduceSub, eq_self, tshm_14, tykm_14, tci_14, tshm_667, tshm_668, tshm_669, tshm_670, tykm_33, tci_700, tsn_671, tsn_674, tsn_675, tsn_676, tsn_677, tsn_678, tsn_679, tyn_17, tyn_19, tyn_20, tyn_34, tcn_10, tcn_12, tU_nk, tU_ni, tU_eq]
    have h25 := hK1.1
    refine ⟨by omega, by omega, ⟨h25.1, hc⟩, fun _ => hK1.2.2 x (by omega) (by omega), by omega, ⟨h25.1, hc⟩, by omega, ⟨h25.1, hc⟩, by omega, ⟨h25.1, hc⟩, by omega, ⟨h25.1, hc⟩, by omega, fun _ => by decide, ?_⟩
    refine tc_n (D := 0) (fun d' hd' => c_takes hy (by omega)) (by omega) ?_
    rintro M3 rfl
    try simp only [kb_X12_becomes_119, w_ald_0, w_gf_14_19, tw_f, w_gf_14_25, w_ild_1, w_ias, ne_eq, eq_self, not_true_eq_false, false_implies, w_gf_14_20, w_gf_14_10, w_ba, w_bas, w_gf_14_21, w_gf_14_6, w_la, w_lax, w_las, w_gf_14_22, w_gf_14_7, w_gf_14_23, w_gf_14_8, w_gf_14_24, w_gf_14_9, w_dupi, w_dupr, w_ic, w_iadd, w_pf_14_25, w_ild_2, w_iv2, tfr_0, tfr_1, tfr_2, tfr_3, tfr_4, w_iv1, w_ire, trg, true_and, and_true, Nat.reduceAdd, Nat.reduceSub, eq_self, tshm_14, tykm_14, tci_14, tshm_667, tshm_668, tshm_669, tshm_670, tykm_33, tci_700, tsn_671, tsn_674, tsn_675, tsn_676, tsn_677, tsn_678, tsn_679, tyn_17, tyn_19, tyn_20, tyn_34, tcn_10, tcn_12]
    have mk : ∀ (k : Nat) (i : Int), ¬ (k = 664 ∧ i = 25) → ¬ (674 ≤ k ∧ k ≤ 679) → ¬ (k = 671 ∧ i = x) → tU (tU (tU (tU (tU (tU (tU (tU M1 674 (M1 664 25) x) 675 (M1 664 25) (M1 671 x)) 676 (M1 664 25) (M1 667 x)) 677 (M1 664 25) (M1 668 x)) 678 (M1 664 25) (M1 669 x)) 679 (M1 664 25) (M1 670 x)) 664 25 (M1 664 25 + 1)) 671 x 1 k i = M1 k i := by
      intro k i g1 g2 g3
      unfold tU
      iterate 8 rw [if_neg (by omega)]
    have mo : ∀ (k : Nat) (i : Int), (674 ≤ k ∧ k ≤ 679) → i ≠ M1 664 25 → tU (tU (tU (tU (tU (tU (tU (tU M1 674 (M1 664 25) x) 675 (M1 664 25) (M1 671 x)) 676 (M1 664 25) (M1 667 x)) 677 (M1 664 25) (M1 668 x)) 678 (M1 664 25) (M1 669 x)) 679 (M1 664 25) (M1 670 x)) 664 25 (M1 664 25 + 1)) 671 x 1 k i = M1 k i := by
      intro k i g1 g2
      unfold tU
      iterate 8 rw [if_neg (by omega)]
    have me : KS (tU (tU (tU (tU (tU (tU (tU (tU M1 674 (M1 664 25) x) 675 (M1 664 25) (M1 671 x)) 676 (M1 664 25) (M1 667 x)) 677 (M1 664 25) (M1 668 x)) 678 (M1 664 25) (M1 669 x)) 679 (M1 664 25) (M1 670 x)) 664 25 (M1 664 25 + 1)) 671 x 1) (M1 664 25) := by
      unfold KS
      simp (disch := decide) only [tU_nk, tU_eq]
      have c1 := hB x (by omega) (by omega)
      unfold bcan at c1
      unfold OB zlo zhi at hO
      rw [hb 667 x (Or.inl rfl), hb 668 x (Or.inr (Or.inl rfl)), hb 669 x (Or.inr (Or.inr (Or.inl rfl))), hb 670 x (Or.inr (Or.inr (Or.inr rfl)))]
      have c2 := hK1.2.2 x (by omega) (by omega)
      omega
    have m25 : tU (tU (tU (tU (tU (tU (tU (tU M1 674 (M1 664 25) x) 675 (M1 664 25) (M1 671 x)) 676 (M1 664 25) (M1 667 x)) 677 (M1 664 25) (M1 668 x)) 678 (M1 664 25) (M1 669 x)) 679 (M1 664 25) (M1 670 x)) 664 25 (M1 664 25 + 1)) 671 x 1 664 25 = M1 664 25 + 1 := by
      simp (disch := decide) only [tU_nk, tU_eq]
    have m71 : tU (tU (tU (tU (tU (tU (tU (tU M1 674 (M1 664 25) x) 675 (M1 664 25) (M1 671 x)) 676 (M1 664 25) (M1 667 x)) 677 (M1 664 25) (M1 668 x)) 678 (M1 664 25) (M1 669 x)) 679 (M1 664 25) (M1 670 x)) 664 25 (M1 664 25 + 1)) 671 x 1 671 x = 1 := tU_eq ..
    generalize tU (tU (tU (tU (tU (tU (tU (tU M1 674 (M1 664 25) x) 675 (M1 664 25) (M1 671 x)) 676 (M1 664 25) (M1 667 x)) 677 (M1 664 25) (M1 668 x)) 678 (M1 664 25) (M1 669 x)) 679 (M1 664 25) (M1 670 x)) 664 25 (M1 664 25 + 1)) 671 x 1 = M2 at mk mo me m25 m71 ⊢
    have kb2 : KB M2 := by
      refine ⟨by omega, fun j j1 j2 => ?_, fun i i1 i2 => ?_⟩
      · by_cases hj : j = M1 664 25
        · rw [hj]; exact me
        · have := hK1.2.1 j j1 j2
          unfold KS at this ⊢
          rw [mo 674 j (by decide) hj, mo 675 j (by decide) hj, mo 676 j (by decide) hj, mo 677 j (by decide) hj, mo 678 j (by decide) hj, mo 679 j (by decide) hj]
          exact this
      · by_cases hj : i = x
        · rw [hj, m71]; decide
        · rw [mk 671 i (by omega) (by omega) (by omega)]; exact hK1.2.2 i i1 i2
    have nb : ∀ (k : Nat) (i : Int), ¬ isB k → sTk M2 y x k i = M2 k i := fun k i h => sTk_k (fun q => h q.1)
    have kb3 : KB (sTk M2 y x) := by
      have q1 : ∀ k : Nat, k = 664 ∨ k = 671 ∨ (674 ≤ k ∧ k ≤ 679) → ¬ isB k := by
        intro k g; unfold isB; omega
      refine ⟨by rw [nb 664 25 (q1 _ (by decide))]; exact kb2.1, fun j j1 j2 => ?_, fun i i1 i2 => by rw [nb 671 i (q1 _ (by decide))]; exact kb2.2.2 i i1 i2⟩
      have := kb2.2.1 j j1 j2
      unfold KS at this ⊢
      rw [nb 674 j (q1 _ (by decide)), nb 675 j (q1 _ (by decide)), nb 676 j (q1 _ (by decide)), nb 677 j (q1 _ (by decide)), nb 678 j (q1 _ (by decide)), nb 679 j (q1 _ (by decide))]
      exact this
    have b2 : ∀ (k : Nat) (i : Int), isB k → M2 k i = M k i := by
      intro k i g
      rw [mk k i (by unfold isB at g; omega) (by unfold isB at g; omega) (by unfold isB at g; omega), hb k i g]
    have v7 : sTk M2 y x 667 x = M 667 y := by rw [← b2 667 y (Or.inl rfl)]; unfold sTk; simp (disch := decide) only [tU_nk, tU_eq]
    have v8 : sTk M2 y x 668 x = M 668 y := by rw [← b2 668 y (Or.inr (Or.inl rfl))]; unfold sTk; simp (disch := decide) only [tU_nk, tU_eq]
    have v9 : sTk M2 y x 669 x = M 669 y := by rw [← b2 669 y (Or.inr (Or.inr (Or.inl rfl)))]; unfold sTk; simp (disch := decide) only [tU_nk, tU_eq]
    have v0 : sTk M2 y x 670 x = M 670 y := by rw [← b2 670 y (Or.inr (Or.inr (Or.inr rfl)))]; unfold sTk; simp (disch := decide) only [tU_nk, tU_eq]
    have bx : bcan (sTk M2 y x) x := by
      have := hB y (by omega) (by omega)
      unfold bcan at this ⊢
      rw [v7, v8, v9, v0]
      exact this
    have se : SE x M (sTk M2 y x) := by
      intro k i g1 g2 g3
      rw [sTk_k (fun q => g3 ⟨Or.inr q.1, q.2⟩), mk k i g1 g2 (fun q => g3 ⟨Or.inl q.1, q.2⟩)]
      exact hS k i g1 g2 g3
    refine tc_i (D := 0) (fun d' hd' => c_isSingle (by omega) bx) (by omega) ?_
    rintro z M4 ⟨q1, rfl⟩
    try simp only [kb_X12_becomes_119, w_ald_0, w_gf_14_19, tw_f, w_gf_14_25, w_ild_1, w_ias, ne_eq, eq_self, not_true_eq_false, false_implies, w_gf_14_20, w_gf_14_10, w_ba, w_bas, w_gf_14_21, w_gf_14_6, w_la, w_lax, w_las, w_gf_14_22, w_gf_14_7, w_gf_14_23, w_gf_14_8, w_gf_14_24, w_gf_14_9, w_dupi, w_dupr, w_ic, w_iadd, w_pf_14_25, w_ild_2, w_iv2, tfr_0, tfr_1, tfr_2, tfr_3, tfr_4, w_iv1, w_ire, trg, true_and, and_true, Nat.reduceAdd, Nat.reduceSub, eq_self, tshm_14, tykm_14, tci_14, tshm_667, tshm_668, tshm_669, tshm_670, tykm_33, tci_700, tsn_671, tsn_674, tsn_675, tsn_676, tsn_677, tsn_678, tsn_679, tyn_17, tyn_19, tyn_20, tyn_34, tcn_10, tcn_12]
    have ez : zlo (sTk M2 y x) x = zlo M y := by unfold zlo; rw [v7, v8]
    have eh : zhi (sTk M2 y x) x = zhi M y := by unfold zhi; rw [v9, v0]
    rw [ez, eh] at q1
    refine ⟨by omega, z, rfl, rfl, q1, kb3, se, fun b b1 b2 => ?_, ez, eh⟩
    by_cases hbx : b = x
    · rw [hbx]; exact bx
    · have := hB b b1 b2
      unfold bcan at this ⊢
      rw [se 667 b (by omega) (by decide) (fun q => hbx q.2), se 668 b (by omega) (by decide) (fun q => hbx q.2), se 669 b (by omega) (by decide) (fun q => hbx q.2), se 670 b (by omega) (by decide) (fun q => hbx q.2)]
      exact this
  have n21 : ∀ (fu : Nat) (M1 : tM) (j : Int), 11 - j < (fu : Int) → 0 ≤ j → j ≤ 11 → KB M1 → M1 664 25 = 11 → SE x M M1 → (∀ (k : Nat) (i : Int), isB k → M1 k i = M k i) → tT e d 3593 21 [some (.inr (.inr (.inl 664))), some (.inl x), some (.inl y), some (.inl j)] [] M1 n (tQi n (fun z M' => ((z = 1 ∧ zlo M y = zhi M y) ∨ (z = 0 ∧ ¬ zlo M y = zhi M y)) ∧ KB M' ∧ SE x M M' ∧ BI M' ∧ zlo M' x = zlo M y ∧ zhi M' x = zhi M y)) := by
    intro fu
    induction fu with
    | zero => intro M1 j h1 h2 h3; exfalso; omega
    | succ fu ih =>
      intro M1 j h1 h2 h3 hK1 hc hS hb
      refine tb_X12_becomes_21 (c := false) ?_
      simp (disch := decide) only [kb_X12_becomes_21, w_ild_3, w_ald_0, w_gf_14_25, tw_f, w_ic_ge, w_gf_14_19, w_ic, w_iadd, w_ia, w_iax, w_ias, ne_eq, eq_self, not_true_eq_false, false_implies, w_gf_14_20, w_ba, w_bas, w_gf_14_21, w_la, w_lax, w_las, w_gf_14_22, w_gf_14_23, w_gf_14_24, w_inc3, tkl_n, tkl_i, tkl_l, tkl_r, w_goto, true_and, and_true, Nat.reduceAdd, Nat.reduceSub, eq_self, tshm_14, tykm_14, tci_14, tshm_667, tshm_668, tshm_669, tshm_670, tykm_33, tci_700, tsn_671, tsn_674, tsn_675, tsn_676, tsn_677, tsn_678, tsn_679, tyn_17, tyn_19, tyn_20, tyn_34, tcn_10, tcn_12, hc, tU_nk, tU_ni, tU_eq]
      refine ⟨by omega, fun h => n119 M1 _ hK1 (by omega) hS hb, fun h => ⟨by omega, by omega, by omega, by omega, fun _ => (hK1.2.1 (j + 1) (by omega) (by omega)).2.1, by omega, by omega, by omega, by omega, by omega, by omega, by omega, by omega, ?_⟩⟩
      have mk : ∀ (k : Nat) (i : Int), ¬ (674 ≤ k ∧ k ≤ 679) → tU (tU (tU (tU (tU (tU M1 674 j (M1 674 (j + 1))) 675 j (M1 675 (j + 1))) 676 j (M1 676 (j + 1))) 677 j (M1 677 (j + 1))) 678 j (M1 678 (j + 1))) 679 j (M1 679 (j + 1)) k i = M1 k i := by
        intro k i g
        unfold tU
        iterate 6 rw [if_neg (by omega)]
      have mo : ∀ (k : Nat) (i : Int), i ≠ j → tU (tU (tU (tU (tU (tU M1 674 j (M1 674 (j + 1))) 675 j (M1 675 (j + 1))) 676 j (M1 676 (j + 1))) 677 j (M1 677 (j + 1))) 678 j (M1 678 (j + 1))) 679 j (M1 679 (j + 1)) k i = M1 k i := by
        intro k i g
        unfold tU
        iterate 6 rw [if_neg (by omega)]
      have me : KS (tU (tU (tU (tU (tU (tU M1 674 j (M1 674 (j + 1))) 675 j (M1 675 (j + 1))) 676 j (M1 676 (j + 1))) 677 j (M1 677 (j + 1))) 678 j (M1 678 (j + 1))) 679 j (M1 679 (j + 1))) j := by
        have := hK1.2.1 (j + 1) (by omega) (by omega)
        unfold KS at this ⊢
        simp (disch := decide) only [tU_nk, tU_eq]
        exact this
      generalize tU (tU (tU (tU (tU (tU M1 674 j (M1 674 (j + 1))) 675 j (M1 675 (j + 1))) 676 j (M1 676 (j + 1))) 677 j (M1 677 (j + 1))) 678 j (M1 678 (j + 1))) 679 j (M1 679 (j + 1)) = M2 at mk mo me ⊢
      refine ih M2 (j + 1) (by omega) (by omega) (by omega) ⟨by rw [mk 664 25 (by decide)]; exact hK1.1, fun j' j1 j2 => ?_, fun i i1 i2 => by rw [mk 671 i (by decide)]; exact hK1.2.2 i i1 i2⟩ (by rw [mk 664 25 (by decide)]; exact hc) (fun k i g1 g2 g3 => (mk k i g2).trans (hS k i g1 g2 g3)) (fun k i g => (mk k i (by unfold isB at g; omega)).trans (hb k i g))
      by_cases hj : j' = j
      · rw [hj]; exact me
      · have := hK1.2.1 j' j1 j2
        unfold KS at this ⊢
        rw [mo 674 j' hj, mo 675 j' hj, mo 676 j' hj, mo 677 j' hj, mo 678 j' hj, mo 679 j' hj]
        exact this
  refine tb_X12_becomes_0 (c := false) ?_
  simp (disch := decide) only [kb_X12_becomes_0, w_ald_0, w_gf_14_25, tw_f, w_bi, w_ic_ne, w_dupi, w_dupr, w_ic, w_isub, w_pf_14_25, w_ist_3, tkl_n, tkl_i, tkl_l, tkl_r, w_nil, true_and, and_true, Nat.reduceAdd, Nat.reduceSub, eq_self, tshm_14, tykm_14, tci_14, tshm_667, tshm_668, tshm_669, tshm_670, tykm_33, tci_700, tsn_671, tsn_674, tsn_675, tsn_676, tsn_677, tsn_678, tsn_679, tyn_17, tyn_19, tyn_20, tyn_34, tcn_10, tcn_12, tU_nk, tU_ni, tU_eq]
  have h25 := hK.1
  refine ⟨by omega, fun h => n119 M _ hK (by omega) (fun _ _ _ _ _ => rfl) (fun _ _ _ => rfl), fun h => ?_⟩
  have e25 : M 664 25 = 12 := by omega
  refine n21 12 _ 0 (by omega) (by omega) (by omega) ⟨?_, fun j j1 j2 => ?_, fun i i1 i2 => ?_⟩ ?_ ?_ ?_
  · rw [tU_eq]; omega
  · have := hK.2.1 j j1 j2
    unfold KS at this ⊢
    simp (disch := decide) only [tU_nk]
    exact this
  · rw [tU_nk (by decide)]; exact hK.2.2 i i1 i2
  · rw [tU_eq]; omega
  · intro k i g1 _ _
    unfold tU
    rw [if_neg (by omega)]
  · intro k i g
    unfold isB at g
    exact tU_nk (by omega)
theorem o_becomes_t {x y : Int} (hP : MP M D) (hx : 0 ≤ x ∧ x ≤ 9) (hy : 0 ≤ y ∧ y < 700) (hO : OB M y) (hd : 2 ≤ d) : tC e d 3593 [.inr (.inr (.inl 664)), .inl x, .inl y] M n (tQi n (fun z M' => ((z = 1 ∧ zlo M y = zhi M y) ∨ (z = 0 ∧ ¬ zlo M y = zhi M y)) ∧ MP M' D ∧ ME M M' ∧ M' 664 3 = M 664 3)) := by
  obtain ⟨⟨a1, a2, a3, a4, a5, a6⟩, a7, a8⟩ := hP
  refine tC_mono (o_becomes_s a7 hx hy a5 (a8 x (by omega) (by omega)) hd) ?_
  rintro v M2 n' ⟨z, r1, r2, p1, p2, p3, p4, p5, p6⟩
  refine ⟨z, r1, r2, p1, ⟨⟨(p3 _ _ (by decide) (by decide) (by unfold isB; omega)).trans a1, a2, (p3 _ _ (by decide) (by decide) (by unfold isB; omega)).trans a3, a4, p4, KI_same (fun k i g => p3 k i (by omega) (by omega) (by unfold isB; omega)) a6⟩, p2, fun b b1 b2 => ?_⟩, fun k i g1 g2 g3 => p3 k i (by omega) g3 (by unfold isB; omega), p3 _ _ (by decide) (by decide) (by unfold isB; omega)⟩
  by_cases hb : b = x
  · unfold OB at hO ⊢
    rw [hb, p5, p6]
    exact hO
  · exact OB_same (fun k g => p3 k b (by unfold isB at g; omega) (by unfold isB at g; omega) (fun q => hb q.2)) (a8 b b1 b2)
theorem deepb_lt {D v : Nat} : deepb 0 D v 0 < deepb 1 D v 0 := by
  unfold deepb
  rw [if_neg (by decide), if_neg (by decide)]
  have h : tlu (v / tn (54 - D)) 1 0 1 = tlu (v / tn (54 - D)) 1 0 0 + 1 := by
    unfold tlu
    rw [if_pos (by decide), if_neg (by decide)]
  rw [h, Nat.add_mul, Nat.one_mul]
  have := tn_pos (10 - D)
  omega
theorem o_known_s {to w f : Int} (h : MB M D f) (ht : 0 ≤ to ∧ to < 700) (hw : w = 0 ∨ w = 1) (hd : 5 ≤ d) : tC e d 3641 [.inr (.inr (.inl 664)), .inl to, .inl w] M n (tQn n (fun M' => (OB M' to ∧ ¬ zlo M' to = zhi M' to) ∧ xE (toF to f) M M')) := by
  obtain ⟨h1, h2, h3, h4, h5, h6⟩ := h
  refine tC_mono (c_known h6 h1 h2 ht hw hd) ?_
  rintro v M' n' ⟨q1, q2, q3, q4, q5⟩
  refine ⟨q1, q2, ⟨?_, ?_⟩, xE_to q5⟩
  · unfold OB
    rw [q3, q4]
    refine ⟨deepb_le, ?_, ?_⟩
    · unfold deepb
      rw [if_neg (by decide)]
      omega
    · have := deep_small (v := kno w) (up := 1) h2 (kno_le w)
      unfold deepb
      rw [if_neg (by decide)]
      omega
  · rw [q3, q4]
    have := deepb_lt (D := D) (v := kno w)
    omega
/-- what constant answers, and what it throws -/
def OC (x c : Int) (z : Int) (M' : tM) : Prop := (((0 ≤ x ∧ x ≤ 9) ∧ (c = 112 ∨ c = 101)) ∧ z = 0 ∧ M' 664 3 = 0) ∨ (¬ (0 ≤ x ∧ x ≤ 9) ∧ M' 664 3 = 1) ∨ (((0 ≤ x ∧ x ≤ 9) ∧ ¬ (c = 112 ∨ c = 101)) ∧ M' 664 3 = 2)
theorem o_constant_s {x c : Int} (hP : MP M D) (h1 : -2147483648 ≤ x ∧ x < 2147483648) (hc : 0 ≤ c ∧ c < 65536) (hd : 7 ≤ d) : tC e d 3600 [.inr (.inr (.inl 664)), .inl x, .inl c] M n (tQi n (fun z M' => OC x c z M' ∧ MP M' D ∧ ME M M')) := by
  refine tst_X12_constant ?_
  have n51 : ∀ (M0 : tM) (w : Int), MP M0 D → ME M M0 → M0 664 3 = 0 → (0 ≤ x ∧ x ≤ 9) → (c = 112 ∨ c = 101) → (w = 0 ∨ w = 1) → tT e d 3600 51 [some (.inr (.inr (.inl 664))), some (.inl x), some (.inl c)] [.inl w, .inl 60, .inr (.inr (.inl 664))] M0 n (tQi n (fun z M' => OC x c z M' ∧ MP M' D ∧ ME M M')) := by
    intro M0 w q1 q2 q3 g1 g2 hw
    refine tb_X12_constant_51 (c := false) ?_
    simp only [kb_X12_constant_51, w_iv2, tfr_0, tfr_1, tfr_2, tfr_3, tfr_4, w_ald_0, w_ild_1, w_bi, w_ire, trg, true_and, and_true, Nat.reduceAdd, Nat.reduceSub, eq_self, tshm_14, tykm_14, tci_14, tsn_671, tyn_17, tcn_10, tsn_674, tsn_675, tsn_676, tsn_677, tsn_678, tsn_679, tyn_19, tyn_20, tyn_34, tcn_12]
    refine tc_n (D := 5) (fun d' hd' => o_known_s q1.1 (by omega) hw hd') (by omega) ?_
    rintro M1 ⟨⟨p1, p3⟩, p2⟩
    try simp only [kb_X12_constant_51, w_iv2, tfr_0, tfr_1, tfr_2, tfr_3, tfr_4, w_ald_0, w_ild_1, w_bi, w_ire, trg, true_and, and_true, Nat.reduceAdd, Nat.reduceSub, eq_self, tshm_14, tykm_14, tci_14, tsn_671, tyn_17, tcn_10, tsn_674, tsn_675, tsn_676, tsn_677, tsn_678, tsn_679, tyn_19, tyn_20, tyn_34, tcn_12]
    have h4 := MP_x q1 p2
    have e3 : M1 664 3 = 0 := (p2.1.1 664 3 (by decide) (by decide) (by decide) (by unfold isB; omega)).trans q3
    refine tc_i (D := 2) (fun d' hd' => o_becomes_t h4.1 g1 (by omega) p1 hd') (by omega) ?_
    rintro z M2 ⟨r1, r2, r3, r4⟩
    try simp only [kb_X12_constant_51, w_iv2, tfr_0, tfr_1, tfr_2, tfr_3, tfr_4, w_ald_0, w_ild_1, w_bi, w_ire, trg, true_and, and_true, Nat.reduceAdd, Nat.reduceSub, eq_self, tshm_14, tykm_14, tci_14, tsn_671, tyn_17, tcn_10, tsn_674, tsn_675, tsn_676, tsn_677, tsn_678, tsn_679, tyn_19, tyn_20, tyn_34, tcn_12]
    have hz : z = 0 := by
      rcases r1 with q | q
      · exact absurd q.2 p3
      · exact q.1
    exact ⟨by omega, z, rfl, rfl, Or.inl ⟨⟨g1, g2⟩, hz, r4.trans e3⟩, r2, ME_tr q2 (ME_tr h4.2 r3)⟩
  have n37 : ∀ M0 : tM, MP M0 D → ME M M0 → M0 664 3 = 0 → (0 ≤ x ∧ x ≤ 9) → (c = 112 ∨ c = 101) → tT e d 3600 37 [some (.inr (.inr (.inl 664))), some (.inl x), some (.inl c)] [] M0 n (tQi n (fun z M' => OC x c z M' ∧ MP M' D ∧ ME M M')) := by
    intro M0 q1 q2 q3 g1 g2
    refine tb_X12_constant_37 (c := false) ?_
    simp only [kb_X12_constant_37, w_ald_0, w_bi, w_ild_2, w_ic_ne, w_ic, w_goto, true_and, and_true, Nat.reduceAdd, Nat.reduceSub, eq_self]
    refine ⟨by omega, fun h => ?_, fun h => n51 M0 1 q1 q2 q3 g1 g2 (Or.inr rfl)⟩
    refine tb_X12_constant_50 (c := false) ?_
    simp only [kb_X12_constant_50, w_ic, w_nil, true_and, and_true, Nat.reduceAdd, Nat.reduceSub, eq_self]
    exact n51 M0 0 q1 q2 q3 g1 g2 (Or.inl rfl)
  have n29 : ∀ v : Int, (v = 0 ∧ (0 ≤ x ∧ x ≤ 9) ∧ (c = 112 ∨ c = 101)) ∨ (v = 1 ∧ ¬ (0 ≤ x ∧ x ≤ 9)) ∨ (v = 2 ∧ (0 ≤ x ∧ x ≤ 9) ∧ ¬ (c = 112 ∨ c = 101)) → tT e d 3600 29 [some (.inr (.inr (.inl 664))), some (.inl x), some (.inl c)] [.inl v, .inr (.inr (.inl 664))] M n (tQi n (fun z M' => OC x c z M' ∧ MP M' D ∧ ME M M')) := by
    intro v hv
    refine tb_X12_constant_29 (c := false) ?_
    simp only [kb_X12_constant_29, w_iv1, tfr_0, tfr_1, tfr_2, tfr_3, tfr_4, w_if_eq, w_ic, w_ire, trg, true_and, and_true, Nat.reduceAdd, Nat.reduceSub, eq_self, tshm_14, tykm_14, tci_14, tsn_671, tyn_17, tcn_10, tsn_674, tsn_675, tsn_676, tsn_677, tsn_678, tsn_679, tyn_19, tyn_20, tyn_34, tcn_12]
    refine tc_i (D := 0) (fun d' hd' => o_fails (by omega)) (by omega) ?_
    rintro z M2 ⟨q2, rfl⟩
    try simp only [kb_X12_constant_29, w_iv1, tfr_0, tfr_1, tfr_2, tfr_3, tfr_4, w_if_eq, w_ic, w_ire, trg, true_and, and_true, Nat.reduceAdd, Nat.reduceSub, eq_self, tshm_14, tykm_14, tci_14, tsn_671, tyn_17, tcn_10, tsn_674, tsn_675, tsn_676, tsn_677, tsn_678, tsn_679, tyn_19, tyn_20, tyn_34, tcn_12]
    have h4 := MP_3 (v := v) hP
    have e3 : tU M 664 3 v 664 3 = v := tU_eq ..
    rcases hv with ⟨rfl, g1, g2⟩ | ⟨rfl, g1⟩ | ⟨rfl, g1, g2⟩
    · exact ⟨by omega, fun h => n37 _ h4.1 h4.2 e3 g1 g2, fun h => absurd (by omega) h⟩
    · exact ⟨by omega, fun h => absurd h (by omega), fun h => ⟨by omega, 0, rfl, rfl, Or.inr (Or.inl ⟨g1, e3⟩), h4.1, h4.2⟩⟩
    · exact ⟨by omega, fun h => absurd h (by omega), fun h => ⟨by omega, 0, rfl, rfl, Or.inr (Or.inr ⟨⟨g1, g2⟩, e3⟩), h4.1, h4.2⟩⟩
  have n28 : (0 ≤ x ∧ x ≤ 9) → (c = 112 ∨ c = 101) → tT e d 3600 28 [some (.inr (.inr (.inl 664))), some (.inl x), some (.inl c)] [.inr (.inr (.inl 664))] M n (tQi n (fun z M' => OC x c z M' ∧ MP M' D ∧ ME M M')) := by
    intro g1 g2
    refine tb_X12_constant_28 (c := false) ?_
    simp only [kb_X12_constant_28, w_ic, w_nil, true_and, and_true, Nat.reduceAdd, Nat.reduceSub, eq_self]
    exact n29 0 (Or.inl ⟨rfl, g1, g2⟩)
  refine tb_X12_constant_0 (c := false) ?_
  simp only [kb_X12_constant_0, w_ald_0, w_ild_1, w_is1, tfr_0, tfr_1, tfr_2, tfr_3, tfr_4, w_if_ne, w_ic, w_goto, true_and, and_true, Nat.reduceAdd, Nat.reduceSub, eq_self]
  refine tc_i (D := 1) (fun d' hd' => o_isShelf h1 hd') (by omega) ?_
  rintro z1 M1 ⟨q1, rfl⟩
  try simp only [kb_X12_constant_0, w_ald_0, w_ild_1, w_is1, tfr_0, tfr_1, tfr_2, tfr_3, tfr_4, w_if_ne, w_ic, w_goto, true_and, and_true, Nat.reduceAdd, Nat.reduceSub, eq_self]
  refine ⟨by omega, fun h => ?_, fun h => n29 1 (by omega)⟩
  have g1 : 0 ≤ x ∧ x ≤ 9 := by omega
  refine tb_X12_constant_12 (c := false) ?_
  simp only [kb_X12_constant_12, w_ild_2, w_bi, w_ic_eq, w_ic, w_goto, true_and, and_true, Nat.reduceAdd, Nat.reduceSub, eq_self]
  refine ⟨by omega, fun h => n28 g1 (by omega), fun h => ⟨by omega, fun h => n28 g1 (by omega), fun h => n29 2 (by omega)⟩⟩
end MODEL
