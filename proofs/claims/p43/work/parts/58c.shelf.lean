/-! THE MODEL: shelves. -/
theorem tsn_671 : tsh 671 = 17 := by rw [tsh_def]; decide +kernel
theorem tsn_674 : tsh 674 = 20 := by rw [tsh_def]; decide +kernel
theorem tsn_675 : tsh 675 = 19 := by rw [tsh_def]; decide +kernel
theorem tsn_676 : tsh 676 = 34 := by rw [tsh_def]; decide +kernel
theorem tsn_677 : tsh 677 = 34 := by rw [tsh_def]; decide +kernel
theorem tsn_678 : tsh 678 = 34 := by rw [tsh_def]; decide +kernel
theorem tsn_679 : tsh 679 = 34 := by rw [tsh_def]; decide +kernel
theorem tyn_17 : tyk 17 = (1, 3, 10) := rfl
theorem tyn_19 : tyk 19 = (1, 3, 12) := rfl
theorem tyn_20 : tyk 20 = (1, 1, 12) := rfl
theorem tyn_34 : tyk 34 = (2, 2, 12) := rfl
theorem tcn_10 : ((10 : Nat) : Int) = 10 := rfl
theorem tcn_12 : ((12 : Nat) : Int) = 12 := rfl
section MODEL
variable {e : tE} {d n : Nat} {M : tM}
theorem o_isShelf {x : Int} (hx : -2147483648 ≤ x ∧ x < 2147483648) (hd : 1 ≤ d) : tC e d 3633 [.inl x] M n (tQi n (fun z M' => (z = 1 ∧ (0 ≤ x ∧ x ≤ 9) ∨ z = 0 ∧ ¬ (0 ≤ x ∧ x ≤ 9)) ∧ M = M')) := by
  refine tst_X12_isShelf ?_
  refine tb_X12_isShelf_0 (c := false) ?_
  simp only [kb_X12_isShelf_0, w_ild_0, w_i2l, w_lc0, w_ld2, w_is3, tfr_0, tfr_1, tfr_2, tfr_3, tfr_4, w_ire, trg, true_and, and_true, Nat.reduceAdd, Nat.reduceSub, eq_self]
  refine ⟨by omega, ?_⟩
  refine tc_i (D := 0) (fun d' hd' => c_in (by omega) (by omega) (by omega)) (by omega) ?_
  rintro z M1 ⟨q1, rfl⟩
  try simp only [kb_X12_isShelf_0, w_ild_0, w_i2l, w_lc0, w_ld2, w_is3, tfr_0, tfr_1, tfr_2, tfr_3, tfr_4, w_ire, trg, true_and, and_true, Nat.reduceAdd, Nat.reduceSub, eq_self]
  exact ⟨by omega, z, rfl, rfl, q1, rfl⟩
theorem o_fails {x : Int} (hx : -2147483648 ≤ x ∧ x < 2147483648) : tC e d 3614 [.inr (.inr (.inl 664)), .inl x] M n (tQi n (fun z M' => (z = 1 ∧ 0 < x ∨ z = 0 ∧ x ≤ 0) ∧ M' = tU M 664 3 x)) := by
  refine tst_X12_fails ?_
  refine tb_X12_fails_0 (c := false) ?_
  simp only [kb_X12_fails_0, w_ald_0, w_ild_1, w_pf_14_3, w_if_le, w_ic, w_goto, true_and, and_true, Nat.reduceAdd, Nat.reduceSub, eq_self, tshm_14, tykm_14, tci_14, tshm_667, tshm_668, tshm_669, tshm_670, tykm_33, tci_700, tsn_671, tsn_674, tsn_675, tsn_676, tsn_677, tsn_678, tsn_679, tyn_17, tyn_19, tyn_20, tyn_34, tcn_10, tcn_12]
  refine ⟨by omega, fun h => ?_, fun h => ?_⟩
  · refine tb_X12_fails_13 (c := false) ?_
    simp only [kb_X12_fails_13, w_ic, w_nil, true_and, and_true, Nat.reduceAdd, Nat.reduceSub, eq_self]
    refine tb_X12_fails_14 (c := false) ?_
    simp only [kb_X12_fails_14, w_ire, trg, true_and, and_true, Nat.reduceAdd, Nat.reduceSub, eq_self]
    exact ⟨by omega, 0, rfl, rfl, Or.inr ⟨rfl, h⟩, rfl⟩
  refine tb_X12_fails_14 (c := false) ?_
  simp only [kb_X12_fails_14, w_ire, trg, true_and, and_true, Nat.reduceAdd, Nat.reduceSub, eq_self]
  exact ⟨by omega, 1, rfl, rfl, Or.inl ⟨rfl, by omega⟩, rfl⟩
/-- what is kept of a shelf -/
def KS (M : tM) (j : Int) : Prop := (0 ≤ M 674 j ∧ M 674 j ≤ 9) ∧ (0 ≤ M 675 j ∧ M 675 j ≤ 1) ∧ ((0 ≤ M 677 j ∧ M 677 j < 1000000000) ∧ (0 ≤ M 679 j ∧ M 679 j < 1000000000)) ∧ ((-10000000000000000000000 ≤ M 676 j * 1000000000 + M 677 j ∧ M 676 j * 1000000000 + M 677 j ≤ M 678 j * 1000000000 + M 679 j) ∧ M 678 j * 1000000000 + M 679 j ≤ 10000000000000000000000)
def KB (M : tM) : Prop := (0 ≤ M 664 25 ∧ M 664 25 ≤ 12) ∧ (∀ j : Int, 0 ≤ j → j < 12 → KS M j) ∧ ∀ i : Int, 0 ≤ i → i < 10 → 0 ≤ M 671 i ∧ M 671 i ≤ 1
/-- only the shelf x and what is kept changes -/
def SE (x : Int) (M M' : tM) : Prop := ∀ (k : Nat) (i : Int), ¬ (k = 664 ∧ i = 25) → ¬ (674 ≤ k ∧ k ≤ 679) → ¬ ((k = 671 ∨ isB k) ∧ i = x) → M' k i = M k i
theorem o_becomes {x y : Int} (hK : KB M) (hx : 0 ≤ x ∧ x ≤ 9) (hy : 0 ≤ y ∧ y < 700) (hB : BI M) (hO : OB M x) (hd : 2 ≤ d) : tC e d 3593 [.inr (.inr (.inl 664)), .inl x, .inl y] M n (tQi n (fun z M' => (z = 0 ∨ z = 1) ∧ KB M' ∧ SE x M M' ∧ BI M' ∧ zlo M' x = zlo M y ∧ zhi M' x = zhi M y)) := by
  refine tst_X12_becomes ?_
  have n119 : ∀ (M1 : tM) (w : Option tV), KB M1 → M1 664 25 < 12 → SE x M M1 → (∀ (k : Nat) (i : Int), isB k → M1 k i = M k i) → tT e d 3593 119 [some (.inr (.inr (.inl 664))), some (.inl x), some (.inl y), w] [] M1 n (tQi n (fun z M' => (z = 0 ∨ z = 1) ∧ KB M' ∧ SE x M M' ∧ BI M' ∧ zlo M' x = zlo M y ∧ zhi M' x = zhi M y)) := by
    intro M1 w hK1 hc hS hb
    refine tb_X12_becomes_119 (c := false) ?_
    simp (disch := decide) only [kb_X12_becomes_119, w_ald_0, w_gf_14_19, tw_f, w_gf_14_25, w_ild_1, w_ias, ne_eq, eq_self, not_true_eq_false, false_implies, w_gf_14_20, w_gf_14_10, w_ba, w_bas, w_gf_14_21, w_gf_14_6, w_la, w_lax, w_las, w_gf_14_22, w_gf_14_7, w_gf_14_23, w_gf_14_8, w_gf_14_24, w_gf_14_9, w_dupi, w_dupr, w_ic, w_iadd, w_pf_14_25, w_ild_2, w_iv2, tfr_0, tfr_1, tfr_2, tfr_3, tfr_4, w_iv1, w_ire, trg, true_and, and_true, Nat.reduceAdd, Nat.reduceSub, eq_self, tshm_14, tykm_14, tci_14, tshm_667, tshm_668, tshm_669, tshm_670, tykm_33, tci_700, tsn_671, tsn_674, tsn_675, tsn_676, tsn_677, tsn_678, tsn_679, tyn_17, tyn_19, tyn_20, tyn_34, tcn_10, tcn_12, tU_nk, tU_ni, tU_eq]
    have h25 := hK1.1
    refine ⟨by omega, by omega, ⟨h25.1, hc⟩, fun _ => hK1.2.2 x (by omega) (by omega), by omega, ⟨h25.1, hc⟩, by omega, ⟨h25.1, hc⟩, by omega, ⟨h25.1, hc⟩, by omega, ⟨h25.1, hc⟩, by omega, fun _ => by decide, ?_⟩
    refine tc_n (D := 0) (fun d' hd' => c_takes hy (by omega)) (by omega) ?_
    rintro M3 rfl
    try simp only [kb_X12_becomes_119, w_ald_0, w_gf_14_19, tw_f, w_gf_14_25, w_ild_1, w_ias, ne_eq, eq_self, not_true_eq_false, false_implies, w_gf_14_20, w_gf_14_10, w_ba, w_bas, w_gf_14_21, w_gf_14_6, w_la, w_lax, w_las, w_gf_14_22, w_gf_14_7, w_gf_14_23, w_gf_14_8, w_gf_14_24, w_gf_14_9, w_dupi, w_dupr, w_ic, w_iadd, w_pf_14_25, w_ild_2, w_iv2, tfr_0, tfr_1, tfr_2, tfr_3, tfr_4, w_iv1, w_ire, trg, true_and, and_true, Nat.reduceAdd, Nat.reduceSub, eq_self, tshm_14, tykm_14, tci_14, tshm_667, tshm_668, tshm_669, tshm_670, tykm_33, tci_700, tsn_671, tsn_674, tsn_675, tsn_676, tsn_677, tsn_678, tsn_679, tyn_17, tyn_19, tyn_20, tyn_34, tcn_10, tcn_12]
    have mk : ∀ (k : Nat) (i : Int), ¬ (k = 664 ∧ i = 25) → ¬ (674 ≤ k ∧ k ≤ 679) → ¬ (k = 671 ∧ i = x) → tU (tU (tU (tU (tU (tU (tU (tU M1 674 (M1 664 25) x) 675 (M1 664 25) (M1 671 x)) 676 (M1 664 25) (M1 667 x)) 677 (M1 664 25) (M1 668 x)) 678 (M1 664 25) (M1 669 x)) 679 (M1 664 25) (M1 670 x)) 664 25 (M1 664 25 + 1)) 671 x 1 k i = M1 k i := by
      intro k i g1 g2 g3
      unfold tU
      iterate 8 rw [if_neg (by omega)]
    have mo : ∀ (k : Nat) (i : Int), (674 ≤ k ∧ k ≤ 679) → i ≠ M1 664 25 → tU (tU (tU (tU (tU (tU (tU (tU M1 674 (M1 664 25) x) 675 (M1 664 25) (M1 671 x)) 676 (M1 664 25) (M1 667 x)) 677 (M1 664 25) (M1 668 x)) 678 (M1 664 25) (M1 669 x)) 679 (M1 664 25) (M1 670 x)) 664 25 (M1 664 25 + 1)) 671 x 1 k i = M1 k i := by
      intro k i g1 g2
      unfold tU
      iterate 8 rw [if_neg (by omega)]
    have me : KS (tU (tU (tU (tU (tU (tU (tU (tU M1 674 (M1 664 25) x) 675 (M1 664 25) (M1 671 x)) 676 (M1 664 25) (M1 667 x)) 677 (M1 664 25) (M1 668 x)) 678 (M1 664 25) (M1 669 x)) 679 (M1 664 25) (M1 670 x)) 664 25 (M1 664 25 + 1)) 671 x 1) (M1 664 25) := by
      unfold KS
      simp (disch := decide) only [tU_nk, tU_eq]
      have c1 := hB x (by omega) (by omega)
      unfold bcan at c1
      unfold OB zlo zhi at hO
      rw [hb 667 x (Or.inl rfl), hb 668 x (Or.inr (Or.inl rfl)), hb 669 x (Or.inr (Or.inr (Or.inl rfl))), hb 670 x (Or.inr (Or.inr (Or.inr rfl)))]
      have c2 := hK1.2.2 x (by omega) (by omega)
      omega
    have m25 : tU (tU (tU (tU (tU (tU (tU (tU M1 674 (M1 664 25) x) 675 (M1 664 25) (M1 671 x)) 676 (M1 664 25) (M1 667 x)) 677 (M1 664 25) (M1 668 x)) 678 (M1 664 25) (M1 669 x)) 679 (M1 664 25) (M1 670 x)) 664 25 (M1 664 25 + 1)) 671 x 1 664 25 = M1 664 25 + 1 := by
      simp (disch := decide) only [tU_nk, tU_eq]
    have m71 : tU (tU (tU (tU (tU (tU (tU (tU M1 674 (M1 664 25) x) 675 (M1 664 25) (M1 671 x)) 676 (M1 664 25) (M1 667 x)) 677 (M1 664 25) (M1 668 x)) 678 (M1 664 25) (M1 669 x)) 679 (M1 664 25) (M1 670 x)) 664 25 (M1 664 25 + 1)) 671 x 1 671 x = 1 := tU_eq ..
    generalize tU (tU (tU (tU (tU (tU (tU (tU M1 674 (M1 664 25) x) 675 (M1 664 25) (M1 671 x)) 676 (M1 664 25) (M1 667 x)) 677 (M1 664 25) (M1 668 x)) 678 (M1 664 25) (M1 669 x)) 679 (M1 664 25) (M1 670 x)) 664 25 (M1 664 25 + 1)) 671 x 1 = M2 at mk mo me m25 m71 ⊢
    have kb2 : KB M2 := by
      refine ⟨by omega, fun j j1 j2 => ?_, fun i i1 i2 => ?_⟩
      · by_cases hj : j = M1 664 25
        · rw [hj]; exact me
        · have := hK1.2.1 j j1 j2
          unfold KS at this ⊢
          rw [mo 674 j (by decide) hj, mo 675 j (by decide) hj, mo 676 j (by decide) hj, mo 677 j (by decide) hj, mo 678 j (by decide) hj, mo 679 j (by decide) hj]
          exact this
      · by_cases hj : i = x
        · rw [hj, m71]; decide
        · rw [mk 671 i (by omega) (by omega) (by omega)]; exact hK1.2.2 i i1 i2
    have nb : ∀ (k : Nat) (i : Int), ¬ isB k → sTk M2 y x k i = M2 k i := fun k i h => sTk_k (fun q => h q.1)
    have kb3 : KB (sTk M2 y x) := by
      have q1 : ∀ k : Nat, k = 664 ∨ k = 671 ∨ (674 ≤ k ∧ k ≤ 679) → ¬ isB k := by
        intro k g; unfold isB; omega
      refine ⟨by rw [nb 664 25 (q1 _ (by decide))]; exact kb2.1, fun j j1 j2 => ?_, fun i i1 i2 => by rw [nb 671 i (q1 _ (by decide))]; exact kb2.2.2 i i1 i2⟩
      have := kb2.2.1 j j1 j2
      unfold KS at this ⊢
      rw [nb 674 j (q1 _ (by decide)), nb 675 j (q1 _ (by decide)), nb 676 j (q1 _ (by decide)), nb 677 j (q1 _ (by decide)), nb 678 j (q1 _ (by decide)), nb 679 j (q1 _ (by decide))]
      exact this
    have b2 : ∀ (k : Nat) (i : Int), isB k → M2 k i = M k i := by
      intro k i g
      rw [mk k i (by unfold isB at g; omega) (by unfold isB at g; omega) (by unfold isB at g; omega), hb k i g]
    have v7 : sTk M2 y x 667 x = M 667 y := by rw [← b2 667 y (Or.inl rfl)]; unfold sTk; simp (disch := decide) only [tU_nk, tU_eq]
    have v8 : sTk M2 y x 668 x = M 668 y := by rw [← b2 668 y (Or.inr (Or.inl rfl))]; unfold sTk; simp (disch := decide) only [tU_nk, tU_eq]
    have v9 : sTk M2 y x 669 x = M 669 y := by rw [← b2 669 y (Or.inr (Or.inr (Or.inl rfl)))]; unfold sTk; simp (disch := decide) only [tU_nk, tU_eq]
    have v0 : sTk M2 y x 670 x = M 670 y := by rw [← b2 670 y (Or.inr (Or.inr (Or.inr rfl)))]; unfold sTk; simp (disch := decide) only [tU_nk, tU_eq]
    have bx : bcan (sTk M2 y x) x := by
      have := hB y (by omega) (by omega)
      unfold bcan at this ⊢
      rw [v7, v8, v9, v0]
      exact this
    have se : SE x M (sTk M2 y x) := by
      intro k i g1 g2 g3
      rw [sTk_k (fun q => g3 ⟨Or.inr q.1, q.2⟩), mk k i g1 g2 (fun q => g3 ⟨Or.inl q.1, q.2⟩)]
      exact hS k i g1 g2 g3
    refine tc_i (D := 0) (fun d' hd' => c_isSingle (by omega) bx) (by omega) ?_
    rintro z M4 ⟨q1, rfl⟩
    try simp only [kb_X12_becomes_119, w_ald_0, w_gf_14_19, tw_f, w_gf_14_25, w_ild_1, w_ias, ne_eq, eq_self, not_true_eq_false, false_implies, w_gf_14_20, w_gf_14_10, w_ba, w_bas, w_gf_14_21, w_gf_14_6, w_la, w_lax, w_las, w_gf_14_22, w_gf_14_7, w_gf_14_23, w_gf_14_8, w_gf_14_24, w_gf_14_9, w_dupi, w_dupr, w_ic, w_iadd, w_pf_14_25, w_ild_2, w_iv2, tfr_0, tfr_1, tfr_2, tfr_3, tfr_4, w_iv1, w_ire, trg, true_and, and_true, Nat.reduceAdd, Nat.reduceSub, eq_self, tshm_14, tykm_14, tci_14, tshm_667, tshm_668, tshm_669, tshm_670, tykm_33, tci_700, tsn_671, tsn_674, tsn_675, tsn_676, tsn_677, tsn_678, tsn_679, tyn_17, tyn_19, tyn_20, tyn_34, tcn_10, tcn_12]
    refine ⟨by omega, z, rfl, rfl, by omega, kb3, se, fun b b1 b2 => ?_, by unfold zlo; rw [v7, v8], by unfold zhi; rw [v9, v0]⟩
    by_cases hbx : b = x
    · rw [hbx]; exact bx
    · have := hB b b1 b2
      unfold bcan at this ⊢
      rw [se 667 b (by omega) (by decide) (fun q => hbx q.2), se 668 b (by omega) (by decide) (fun q => hbx q.2), se 669 b (by omega) (by decide) (fun q => hbx q.2), se 670 b (by omega) (by decide) (fun q => hbx q.2)]
      exact this
  have n21 : ∀ (fu : Nat) (M1 : tM) (j : Int), 11 - j < (fu : Int) → 0 ≤ j → j ≤ 11 → KB M1 → M1 664 25 = 11 → SE x M M1 → (∀ (k : Nat) (i : Int), isB k → M1 k i = M k i) → tT e d 3593 21 [some (.inr (.inr (.inl 664))), some (.inl x), some (.inl y), some (.inl j)] [] M1 n (tQi n (fun z M' => (z = 0 ∨ z = 1) ∧ KB M' ∧ SE x M M' ∧ BI M' ∧ zlo M' x = zlo M y ∧ zhi M' x = zhi M y)) := by
    intro fu
    induction fu with
    | zero => intro M1 j h1 h2 h3; exfalso; omega
    | succ fu ih =>
      intro M1 j h1 h2 h3 hK1 hc hS hb
      refine tb_X12_becomes_21 (c := false) ?_
      simp (disch := decide) only [kb_X12_becomes_21, w_ild_3, w_ald_0, w_gf_14_25, tw_f, w_ic_ge, w_gf_14_19, w_ic, w_iadd, w_ia, w_iax, w_ias, ne_eq, eq_self, not_true_eq_false, false_implies, w_gf_14_20, w_ba, w_bas, w_gf_14_21, w_la, w_lax, w_las, w_gf_14_22, w_gf_14_23, w_gf_14_24, w_inc3, tkl_n, tkl_i, tkl_l, tkl_r, w_goto, true_and, and_true, Nat.reduceAdd, Nat.reduceSub, eq_self, tshm_14, tykm_14, tci_14, tshm_667, tshm_668, tshm_669, tshm_670, tykm_33, tci_700, tsn_671, tsn_674, tsn_675, tsn_676, tsn_677, tsn_678, tsn_679, tyn_17, tyn_19, tyn_20, tyn_34, tcn_10, tcn_12, hc, tU_nk, tU_ni, tU_eq]
      refine ⟨by omega, fun h => n119 M1 _ hK1 (by omega) hS hb, fun h => ⟨by omega, by omega, by omega, by omega, fun _ => (hK1.2.1 (j + 1) (by omega) (by omega)).2.1, by omega, by omega, by omega, by omega, by omega, by omega, by omega, by omega, ?_⟩⟩
      have mk : ∀ (k : Nat) (i : Int), ¬ (674 ≤ k ∧ k ≤ 679) → tU (tU (tU (tU (tU (tU M1 674 j (M1 674 (j + 1))) 675 j (M1 675 (j + 1))) 676 j (M1 676 (j + 1))) 677 j (M1 677 (j + 1))) 678 j (M1 678 (j + 1))) 679 j (M1 679 (j + 1)) k i = M1 k i := by
        intro k i g
        unfold tU
        iterate 6 rw [if_neg (by omega)]
      have mo : ∀ (k : Nat) (i : Int), i ≠ j → tU (tU (tU (tU (tU (tU M1 674 j (M1 674 (j + 1))) 675 j (M1 675 (j + 1))) 676 j (M1 676 (j + 1))) 677 j (M1 677 (j + 1))) 678 j (M1 678 (j + 1))) 679 j (M1 679 (j + 1)) k i = M1 k i := by
        intro k i g
        unfold tU
        iterate 6 rw [if_neg (by omega)]
      have me : KS (tU (tU (tU (tU (tU (tU M1 674 j (M1 674 (j + 1))) 675 j (M1 675 (j + 1))) 676 j (M1 676 (j + 1))) 677 j (M1 677 (j + 1))) 678 j (M1 678 (j + 1))) 679 j (M1 679 (j + 1))) j := by
        have := hK1.2.1 (j + 1) (by omega) (by omega)
        unfold KS at this ⊢
        simp (disch := decide) only [tU_nk, tU_eq]
        exact this
      generalize tU (tU (tU (tU (tU (tU M1 674 j (M1 674 (j + 1))) 675 j (M1 675 (j + 1))) 676 j (M1 676 (j + 1))) 677 j (M1 677 (j + 1))) 678 j (M1 678 (j + 1))) 679 j (M1 679 (j + 1)) = M2 at mk mo me ⊢
      refine ih M2 (j + 1) (by omega) (by omega) (by omega) ⟨by rw [mk 664 25 (by decide)]; exact hK1.1, fun j' j1 j2 => ?_, fun i i1 i2 => by rw [mk 671 i (by decide)]; exact hK1.2.2 i i1 i2⟩ (by rw [mk 664 25 (by decide)]; exact hc) (fun k i g1 g2 g3 => (mk k i g2).trans (hS k i g1 g2 g3)) (fun k i g => (mk k i (by unfold isB at g; omega)).trans (hb k i g))
      by_cases hj : j' = j
      · rw [hj]; exact me
      · have := hK1.2.1 j' j1 j2
        unfold KS at this ⊢
        rw [mo 674 j' hj, mo 675 j' hj, mo 676 j' hj, mo 677 j' hj, mo 678 j' hj, mo 679 j' hj]
        exact this
  refine tb_X12_becomes_0 (c := false) ?_
  simp (disch := decide) only [kb_X12_becomes_0, w_ald_0, w_gf_14_25, tw_f, w_bi, w_ic_ne, w_dupi, w_dupr, w_ic, w_isub, w_pf_14_25, w_ist_3, tkl_n, tkl_i, tkl_l, tkl_r, w_nil, true_and, and_true, Nat.reduceAdd, Nat.reduceSub, eq_self, tshm_14, tykm_14, tci_14, tshm_667, tshm_668, tshm_669, tshm_670, tykm_33, tci_700, tsn_671, tsn_674, tsn_675, tsn_676, tsn_677, tsn_678, tsn_679, tyn_17, tyn_19, tyn_20, tyn_34, tcn_10, tcn_12, tU_nk, tU_ni, tU_eq]
  have h25 := hK.1
  refine ⟨by omega, fun h => n119 M _ hK (by omega) (fun _ _ _ _ _ => rfl) (fun _ _ _ => rfl), fun h => ?_⟩
  have e25 : M 664 25 = 12 := by omega
  refine n21 12 _ 0 (by omega) (by omega) (by omega) ⟨?_, fun j j1 j2 => ?_, fun i i1 i2 => ?_⟩ ?_ ?_ ?_
  · rw [tU_eq]; omega
  · have := hK.2.1 j j1 j2
    unfold KS at this ⊢
    simp (disch := decide) only [tU_nk]
    exact this
  · rw [tU_nk (by decide)]; exact hK.2.2 i i1 i2
  · rw [tU_eq]; omega
  · intro k i g1 _ _
    unfold tU
    rw [if_neg (by omega)]
  · intro k i g
    unfold isB at g
    exact tU_nk (by omega)
end MODEL
