/-! THE MODEL: calls of the shelves. -/
section MODEL
variable {e : tE} {d n : Nat} {M : tM}
theorem o_noBox {x : Int} (hx : -2147483648 ≤ x ∧ x < 2147483648) (hK : KB M) (hd : 2 ≤ d) : tC e d 3666 [.inr (.inr (.inl 664)), .inl x] M n (tQi n (fun z M' => (z = 0 ∧ (0 ≤ x ∧ x ≤ 9) ∨ z = 1 ∨ z = 2) ∧ M' = M)) := by
  refine tst_X12_noBox ?_
  have n25 : ∀ z : Int, (z = 0 ∧ (0 ≤ x ∧ x ≤ 9) ∨ z = 1 ∨ z = 2) → tT e d 3666 25 [some (.inr (.inr (.inl 664))), some (.inl x)] [.inl z] M n (tQi n (fun z M' => (z = 0 ∧ (0 ≤ x ∧ x ≤ 9) ∨ z = 1 ∨ z = 2) ∧ M' = M)) := by
    intro z hz
    refine tb_X12_noBox_25 (c := false) ?_
    simp only [kb_X12_noBox_25, w_ire, trg, true_and, and_true, Nat.reduceAdd, Nat.reduceSub, eq_self]
    exact ⟨z, rfl, rfl, hz, rfl⟩
  refine tb_X12_noBox_0 (c := false) ?_
  simp only [kb_X12_noBox_0, w_ild_1, w_is1, tfr_0, tfr_1, tfr_2, tfr_3, tfr_4, w_if_ne, w_ic, w_goto, true_and, and_true, Nat.reduceAdd, Nat.reduceSub, eq_self]
  refine tc_i (D := 1) (fun d' hd' => o_isShelf hx hd') (by omega) ?_
  rintro z M1 ⟨q1, rfl⟩
  try simp only [kb_X12_noBox_0, w_ild_1, w_is1, tfr_0, tfr_1, tfr_2, tfr_3, tfr_4, w_if_ne, w_ic, w_goto, true_and, and_true, Nat.reduceAdd, Nat.reduceSub, eq_self]
  refine ⟨by omega, fun h => ?_, fun h => ?_⟩
  · refine tb_X12_noBox_11 (c := false) ?_
    simp only [kb_X12_noBox_11, w_ald_0, w_gf_14_10, tw_f, w_ild_1, w_ba, w_if_eq, w_ic, w_goto, true_and, and_true, Nat.reduceAdd, Nat.reduceSub, eq_self, tshm_14, tykm_14, tci_14, tshm_667, tshm_668, tshm_669, tshm_670, tykm_33, tci_700, tsn_671, tyn_17, tcn_10]
    refine ⟨by omega, by have := hK.2.2 x (by omega) (by omega); omega, fun h => ?_, fun h => n25 0 (by omega)⟩
    refine tb_X12_noBox_24 (c := false) ?_
    simp only [kb_X12_noBox_24, w_ic, w_nil, true_and, and_true, Nat.reduceAdd, Nat.reduceSub, eq_self]
    exact n25 2 (by omega)
  exact n25 1 (by omega)
theorem o_noPair {x y z : Int} (hx : -2147483648 ≤ x ∧ x < 2147483648) (hy : -2147483648 ≤ y ∧ y < 2147483648) (hz : -2147483648 ≤ z ∧ z < 2147483648) (hK : KB M) (hd : 2 ≤ d) : tC e d 3668 [.inr (.inr (.inl 664)), .inl x, .inl y, .inl z] M n (tQi n (fun v M' => (v = 0 ∧ (0 ≤ x ∧ x ≤ 9) ∧ (0 ≤ y ∧ y ≤ 9) ∧ (0 ≤ z ∧ z ≤ 9) ∨ v = 1 ∨ v = 2) ∧ M' = M)) := by
  refine tst_X12_noPair ?_
  have n48 : ∀ v : Int, (v = 0 ∧ (0 ≤ x ∧ x ≤ 9) ∧ (0 ≤ y ∧ y ≤ 9) ∧ (0 ≤ z ∧ z ≤ 9) ∨ v = 1 ∨ v = 2) → tT e d 3668 48 [some (.inr (.inr (.inl 664))), some (.inl x), some (.inl y), some (.inl z)] [.inl v] M n (tQi n (fun v M' => (v = 0 ∧ (0 ≤ x ∧ x ≤ 9) ∧ (0 ≤ y ∧ y ≤ 9) ∧ (0 ≤ z ∧ z ≤ 9) ∨ v = 1 ∨ v = 2) ∧ M' = M)) := by
    intro v hv
    refine tb_X12_noPair_48 (c := false) ?_
    simp only [kb_X12_noPair_48, w_ire, trg, true_and, and_true, Nat.reduceAdd, Nat.reduceSub, eq_self]
    exact ⟨v, rfl, rfl, hv, rfl⟩
  have n21 : tT e d 3668 21 [some (.inr (.inr (.inl 664))), some (.inl x), some (.inl y), some (.inl z)] [] M n (tQi n (fun v M' => (v = 0 ∧ (0 ≤ x ∧ x ≤ 9) ∧ (0 ≤ y ∧ y ≤ 9) ∧ (0 ≤ z ∧ z ≤ 9) ∨ v = 1 ∨ v = 2) ∧ M' = M)) := by
    refine tb_X12_noPair_21 (c := false) ?_
    simp only [kb_X12_noPair_21, w_ic, w_goto, true_and, and_true, Nat.reduceAdd, Nat.reduceSub, eq_self]
    exact n48 1 (by omega)
  refine tb_X12_noPair_0 (c := false) ?_
  simp only [kb_X12_noPair_0, w_ild_1, w_is1, tfr_0, tfr_1, tfr_2, tfr_3, tfr_4, w_if_eq, w_ild_2, w_ild_3, w_if_ne, w_nil, true_and, and_true, Nat.reduceAdd, Nat.reduceSub, eq_self]
  refine tc_i (D := 1) (fun d' hd' => o_isShelf hx hd') (by omega) ?_
  rintro z1 M1 ⟨q1, rfl⟩
  try simp only [kb_X12_noPair_0, w_ild_1, w_is1, tfr_0, tfr_1, tfr_2, tfr_3, tfr_4, w_if_eq, w_ild_2, w_ild_3, w_if_ne, w_nil, true_and, and_true, Nat.reduceAdd, Nat.reduceSub, eq_self]
  refine ⟨by omega, fun h => n21, fun h => ?_⟩
  refine tc_i (D := 1) (fun d' hd' => o_isShelf hy hd') (by omega) ?_
  rintro z2 M2 ⟨q2, rfl⟩
  try simp only [kb_X12_noPair_0, w_ild_1, w_is1, tfr_0, tfr_1, tfr_2, tfr_3, tfr_4, w_if_eq, w_ild_2, w_ild_3, w_if_ne, w_nil, true_and, and_true, Nat.reduceAdd, Nat.reduceSub, eq_self]
  refine ⟨by omega, fun h => n21, fun h => ?_⟩
  refine tc_i (D := 1) (fun d' hd' => o_isShelf hz hd') (by omega) ?_
  rintro z3 M3 ⟨q3, rfl⟩
  try simp only [kb_X12_noPair_0, w_ild_1, w_is1, tfr_0, tfr_1, tfr_2, tfr_3, tfr_4, w_if_eq, w_ild_2, w_ild_3, w_if_ne, w_nil, true_and, and_true, Nat.reduceAdd, Nat.reduceSub, eq_self]
  refine ⟨by omega, fun h => ?_, fun h => n21⟩
  have n47 : tT e d 3668 47 [some (.inr (.inr (.inl 664))), some (.inl x), some (.inl y), some (.inl z)] [] M n (tQi n (fun v M' => (v = 0 ∧ (0 ≤ x ∧ x ≤ 9) ∧ (0 ≤ y ∧ y ≤ 9) ∧ (0 ≤ z ∧ z ≤ 9) ∨ v = 1 ∨ v = 2) ∧ M' = M)) := by
    refine tb_X12_noPair_47 (c := false) ?_
    simp only [kb_X12_noPair_47, w_ic, w_nil, true_and, and_true, Nat.reduceAdd, Nat.reduceSub, eq_self]
    exact n48 2 (by omega)
  refine tb_X12_noPair_25 (c := false) ?_
  simp only [kb_X12_noPair_25, w_ald_0, w_gf_14_10, tw_f, w_ild_2, w_ba, w_if_eq, w_ild_3, w_ic, w_goto, true_and, and_true, Nat.reduceAdd, Nat.reduceSub, eq_self, tshm_14, tykm_14, tci_14, tshm_667, tshm_668, tshm_669, tshm_670, tykm_33, tci_700, tsn_671, tyn_17, tcn_10]
  have g1 := hK.2.2 y (by omega) (by omega)
  have g2 := hK.2.2 z (by omega) (by omega)
  refine ⟨by omega, by omega, fun h => n47, fun h => ⟨by omega, by omega, fun h => n47, fun h => n48 0 (by omega)⟩⟩
/-- between calls: all that the shelves are owed -/
def MP (M : tM) (D : Nat) : Prop := MB M D 60 ∧ KB M ∧ ∀ b : Int, 0 ≤ b → b < 60 → OB M b
/-- what a call of the shelves leaves: formulas and texts -/
def ME (M M' : tM) : Prop := ∀ (k : Nat) (i : Int), ¬ (k = 664 ∧ (i = 3 ∨ i = 4 ∨ i = 5 ∨ i = 11 ∨ i = 12 ∨ i = 13 ∨ i = 14 ∨ i = 25)) → ¬ (665 ≤ k ∧ k ≤ 671) → ¬ (674 ≤ k ∧ k ≤ 679) → M' k i = M k i
theorem ME_refl {M : tM} : ME M M := fun _ _ _ _ _ => rfl
theorem ME_tr {M M1 M2 : tM} (h1 : ME M M1) (h2 : ME M1 M2) : ME M M2 := fun k i a b c => (h2 k i a b c).trans (h1 k i a b c)
theorem ME_x {T : Int → Prop} {M M' : tM} (h : xE T M M') : ME M M' := fun k i a b c => h.1.1 k i (by omega) (by omega) (by omega) (fun q => by have := q.1; unfold isB at this; omega)
theorem KI_same {M M' : tM} (h : ∀ (k : Nat) (i : Int), k = 665 ∨ k = 666 ∨ (k = 664 ∧ (i = 12 ∨ i = 13 ∨ i = 14)) → M' k i = M k i) (hk : KI M) : KI M' := by
  unfold KI at hk ⊢
  rw [h 664 12 (by omega), h 664 13 (by omega), h 664 14 (by omega)]
  have v : ∀ (r : Int) (c : Nat), Vr M r c → Vr M' r c := by
    intro r c q
    obtain ⟨m, ⟨a1, a2, a3, a4⟩, a5⟩ := q
    exact ⟨m, ⟨(h 666 r (by omega)).trans a1, a2, a3, fun i hi => (h 665 _ (by omega)).trans (a4 i hi)⟩, a5⟩
  exact ⟨hk.1, fun q => v _ _ (hk.2.1 q), fun q => v _ _ (hk.2.2.1 q), fun q => v _ _ (hk.2.2.2 q)⟩
theorem BI_same {M M' : tM} (h : ∀ (k : Nat) (i : Int), isB k → M' k i = M k i) (hb : BI M) : BI M' := fun b b1 b2 => by
  have := hb b b1 b2
  unfold bcan at this ⊢
  rw [h 667 b (Or.inl rfl), h 668 b (Or.inr (Or.inl rfl)), h 669 b (Or.inr (Or.inr (Or.inl rfl))), h 670 b (Or.inr (Or.inr (Or.inr rfl)))]
  exact this
theorem OB_same {M M' : tM} {b : Int} (h : ∀ k : Nat, isB k → M' k b = M k b) (ho : OB M b) : OB M' b := by
  unfold OB zlo zhi at ho ⊢
  rw [h 667 (Or.inl rfl), h 668 (Or.inr (Or.inl rfl)), h 669 (Or.inr (Or.inr (Or.inl rfl))), h 670 (Or.inr (Or.inr (Or.inr rfl)))]
  exact ho
theorem MP_3 {D : Nat} {v : Int} (h : MP M D) : MP (tU M 664 3 v) D ∧ ME M (tU M 664 3 v) := by
  obtain ⟨⟨h1, h2, h3, h4, h5, h6⟩, h7, h8⟩ := h
  have hk : ∀ (k : Nat) (i : Int), ¬ (k = 664 ∧ i = 3) → tU M 664 3 v k i = M k i := fun k i g => by
    unfold tU
    rw [if_neg g]
  refine ⟨⟨⟨(hk _ _ (by decide)).trans h1, h2, (hk _ _ (by decide)).trans h3, h4, BI_same (fun k i g => hk k i (by unfold isB at g; omega)) h5, KI_same (fun k i g => hk k i (by omega)) h6⟩, ⟨by rw [hk 664 25 (by decide)]; exact h7.1, fun j j1 j2 => ?_, fun i i1 i2 => by rw [hk 671 i (by omega)]; exact h7.2.2 i i1 i2⟩, fun b b1 b2 => OB_same (fun k g => hk k b (by unfold isB at g; omega)) (h8 b b1 b2)⟩, fun k i a _ _ => hk k i (by omega)⟩
  have := h7.2.1 j j1 j2
  unfold KS at this ⊢
  rw [hk 674 j (by omega), hk 675 j (by omega), hk 676 j (by omega), hk 677 j (by omega), hk 678 j (by omega), hk 679 j (by omega)]
  exact this
theorem o_makes {x1 x2 x3 x4 : Int} {D : Nat} (hP : MP M D) (h1 : 0 ≤ x1 ∧ x1 ≤ 9) (h2 : x2 = 0 ∨ x2 = 1 ∨ x2 = 2) (hO : x2 = 0 → OB M 60) (h3 : 1 ≤ x3 ∧ x3 ≤ 100) (h4 : 1 ≤ x4 ∧ x4 ≤ 100) (hd : 3 ≤ d) : tC e d 3652 [.inr (.inr (.inl 664)), .inl x1, .inl x2, .inl x3, .inl x4] M n (tQi n (fun z M' => (z = 0 ∨ z = 1) ∧ MP M' D ∧ ME M M')) := by
  refine tst_X12_makes ?_
  have n42 : ∀ (M1 : tM) (z : Int), (z = 0 ∨ z = 1) → MP M1 D → ME M M1 → tT e d 3652 42 [some (.inr (.inr (.inl 664))), some (.inl x1), some (.inl x2), some (.inl x3), some (.inl x4)] [.inl z] M1 n (tQi n (fun z M' => (z = 0 ∨ z = 1) ∧ MP M' D ∧ ME M M')) := by
    intro M1 z q1 q2 q3
    refine tb_X12_makes_42 (c := false) ?_
    simp only [kb_X12_makes_42, w_ire, trg, true_and, and_true, Nat.reduceAdd, Nat.reduceSub, eq_self]
    exact ⟨by omega, z, rfl, rfl, q1, q2, q3⟩
  have n41 : ∀ (M1 : tM), MP M1 D → ME M M1 → tT e d 3652 41 [some (.inr (.inr (.inl 664))), some (.inl x1), some (.inl x2), some (.inl x3), some (.inl x4)] [] M1 n (tQi n (fun z M' => (z = 0 ∨ z = 1) ∧ MP M' D ∧ ME M M')) := by
    intro M1 q2 q3
    refine tb_X12_makes_41 (c := false) ?_
    simp only [kb_X12_makes_41, w_ic, w_nil, true_and, and_true, Nat.reduceAdd, Nat.reduceSub, eq_self]
    exact n42 M1 0 (Or.inl rfl) q2 q3
  have n21 : ∀ v : Int, (0 ≤ v ∧ v ≤ 100) → (v = 0 → x2 = 0) → tT e d 3652 21 [some (.inr (.inr (.inl 664))), some (.inl x1), some (.inl x2), some (.inl x3), some (.inl x4)] [.inl v, .inr (.inr (.inl 664))] M n (tQi n (fun z M' => (z = 0 ∨ z = 1) ∧ MP M' D ∧ ME M M')) := by
    intro v hv hv0
    refine tb_X12_makes_21 (c := false) ?_
    simp only [kb_X12_makes_21, w_iv1, tfr_0, tfr_1, tfr_2, tfr_3, tfr_4, w_if_ne, w_ald_0, w_ild_1, w_bi, w_iv2, w_if_eq, w_ic, w_goto, true_and, and_true, Nat.reduceAdd, Nat.reduceSub, eq_self, tshm_14, tykm_14, tci_14, tshm_667, tshm_668, tshm_669, tshm_670, tykm_33, tci_700, tsn_671, tyn_17, tcn_10]
    refine tc_i (D := 0) (fun d' hd' => o_fails (by omega)) (by omega) ?_
    rintro z M1 ⟨q1, q2⟩
    have hM1 := MP_3 (v := v) hP
    have hO1 : x2 = 0 → OB M1 60 := fun g => by
      rw [q2]
      exact OB_same (fun k g => tU_nk (by unfold isB at g; omega)) (hO g)
    rw [← q2] at hM1
    try simp only [kb_X12_makes_21, w_iv1, tfr_0, tfr_1, tfr_2, tfr_3, tfr_4, w_if_ne, w_ald_0, w_ild_1, w_bi, w_iv2, w_if_eq, w_ic, w_goto, true_and, and_true, Nat.reduceAdd, Nat.reduceSub, eq_self, tshm_14, tykm_14, tci_14, tshm_667, tshm_668, tshm_669, tshm_670, tykm_33, tci_700, tsn_671, tyn_17, tcn_10]
    refine ⟨by omega, fun h => n41 M1 hM1.1 hM1.2, fun h => ?_⟩
    obtain ⟨⟨⟨a1, a2, a3, a4, a5, a6⟩, a7, a8⟩, a9⟩ := hM1
    have hv1 : x2 = 0 := hv0 (by omega)
    refine tc_i (D := 2) (fun d' hd' => o_becomes a7 h1 (by omega) a5 (a8 x1 (by omega) (by omega)) hd') (by omega) ?_
    rintro z2 M2 ⟨p1, p2, p3, p4, p5, p6⟩
    have hP2 : MP M2 D := by
      refine ⟨⟨(p3 _ _ (by decide) (by decide) (by unfold isB; omega)).trans a1, a2, (p3 _ _ (by decide) (by decide) (by unfold isB; omega)).trans a3, a4, p4, KI_same (fun k i g => p3 k i (by omega) (by omega) (by unfold isB; omega)) a6⟩, p2, fun b b1 b2 => ?_⟩
      by_cases hb : b = x1
      · have := hO1 hv1
        unfold OB at this ⊢
        rw [hb, p5, p6]
        exact this
      · exact OB_same (fun k g => p3 k b (by unfold isB at g; omega) (by unfold isB at g; omega) (fun q => hb q.2)) (a8 b b1 b2)
    have hE2 : ME M M2 := ME_tr a9 (fun k i g1 g2 g3 => p3 k i (by omega) g3 (by unfold isB; omega))
    try simp only [kb_X12_makes_21, w_iv1, tfr_0, tfr_1, tfr_2, tfr_3, tfr_4, w_if_ne, w_ald_0, w_ild_1, w_bi, w_iv2, w_if_eq, w_ic, w_goto, true_and, and_true, Nat.reduceAdd, Nat.reduceSub, eq_self, tshm_14, tykm_14, tci_14, tshm_667, tshm_668, tshm_669, tshm_670, tykm_33, tci_700, tsn_671, tyn_17, tcn_10]
    refine ⟨by omega, fun h => n41 M2 hP2 hE2, fun h => n42 M2 1 (Or.inr rfl) hP2 hE2⟩
  refine tb_X12_makes_0 (c := false) ?_
  simp only [kb_X12_makes_0, w_ald_0, w_ild_2, w_ic, w_ic_ne, w_ild_3, w_goto, true_and, and_true, Nat.reduceAdd, Nat.reduceSub, eq_self]
  refine ⟨by omega, fun h => ?_, fun h => ?_⟩
  · refine tb_X12_makes_10 (c := false) ?_
    simp only [kb_X12_makes_10, w_ild_2, w_ic, w_ic_ne, w_ild4, w_goto, true_and, and_true, Nat.reduceAdd, Nat.reduceSub, eq_self]
    refine ⟨by omega, fun h => ?_, fun h => ?_⟩
    · refine tb_X12_makes_20 (c := false) ?_
      simp only [kb_X12_makes_20, w_ic, w_nil, true_and, and_true, Nat.reduceAdd, Nat.reduceSub, eq_self]
      exact n21 0 (by omega) (fun _ => by omega)
    exact n21 x4 (by omega) (fun _ => by omega)
  exact n21 x3 (by omega) (fun _ => by omega)
end MODEL
