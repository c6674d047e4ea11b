/-! THE MODEL: sums, differences, products, quotients of shelves. -/
section MODEL
variable {e : tE} {d n D : Nat} {M : tM}
theorem MP_in (h : MP M D) : MB (tU M 664 11 61) D 61 ∧ KB (tU M 664 11 61) ∧ ∀ b : Int, 0 ≤ b → b < 60 → OB (tU M 664 11 61) b := by
  obtain ⟨⟨h1, h2, h3, h4, h5, h6⟩, h7, h8⟩ := h
  have hk : ∀ (k : Nat) (i : Int), ¬ (k = 664 ∧ i = 11) → tU M 664 11 61 k i = M k i := fun k i g => by
    unfold tU
    rw [if_neg g]
  refine ⟨⟨(hk _ _ (by decide)).trans h1, h2, tU_eq .., by omega, BI_same (fun k i g => hk k i (by unfold isB at g; omega)) h5, KI_same (fun k i g => hk k i (by omega)) h6⟩, ⟨by rw [hk 664 25 (by decide)]; exact h7.1, fun j j1 j2 => ?_, fun i i1 i2 => by rw [hk 671 i (by omega)]; exact h7.2.2 i i1 i2⟩, fun b b1 b2 => OB_same (fun k g => hk k b (by unfold isB at g; omega)) (h8 b b1 b2)⟩
  have := h7.2.1 j j1 j2
  unfold KS at this ⊢
  rw [hk 674 j (by omega), hk 675 j (by omega), hk 676 j (by omega), hk 677 j (by omega), hk 678 j (by omega), hk 679 j (by omega)]
  exact this
theorem MP_out {M1 : tM} (h : MP M D) (hx : xE (toF 60 61) (tU M 664 11 61) M1) : MP (tU M1 664 11 60) D ∧ ME M (tU M1 664 11 60) ∧ (OB M1 60 → OB (tU M1 664 11 60) 60) := by
  obtain ⟨⟨h1, h2, h3, h4, h5, h6⟩, h7, h8⟩ := h
  obtain ⟨⟨y1, y2, y3⟩, y4⟩ := hx
  have hi : ∀ (k : Nat) (i : Int), ¬ (k = 664 ∧ i = 11) → tU M 664 11 61 k i = M k i := fun k i g => by
    unfold tU
    rw [if_neg g]
  have ho : ∀ (k : Nat) (i : Int), ¬ (k = 664 ∧ i = 11) → tU M1 664 11 60 k i = M1 k i := fun k i g => by
    unfold tU
    rw [if_neg g]
  have hk : ∀ (k : Nat) (i : Int), k ≠ 665 → k ≠ 666 → ¬ (k = 664 ∧ (i = 4 ∨ i = 5 ∨ i = 11 ∨ i = 12 ∨ i = 13 ∨ i = 14)) → ¬ (isB k ∧ toF 60 61 i) → tU M1 664 11 60 k i = M k i := fun k i g1 g2 g3 g4 => ((ho k i (by omega)).trans (y1 k i g1 g2 g3 g4)).trans (hi k i (by omega))
  have hnb : ∀ (k : Nat) (i : Int), k = 664 ∨ 671 ≤ k → ¬ (isB k ∧ toF 60 61 i) := fun k i g q => by
    have := q.1
    unfold isB at this
    omega
  have hsh : ∀ (k : Nat) (b : Int), b < 60 → ¬ (isB k ∧ toF 60 61 b) := fun k b g q => by
    have := q.2
    unfold toF at this
    omega
  have bi0 : BI (tU M 664 11 61) := BI_same (fun k i g => hi k i (by unfold isB at g; omega)) h5
  have ki0 : KI (tU M 664 11 61) := KI_same (fun k i g => hi k i (by omega)) h6
  refine ⟨⟨⟨(hk _ _ (by decide) (by decide) (by decide) (hnb _ _ (by decide))).trans h1, h2, tU_eq .., by omega, BI_same (fun k i g => ho k i (by unfold isB at g; omega)) (y3 bi0), KI_same (fun k i g => ho k i (by omega)) (y2 ki0)⟩, ⟨by rw [hk 664 25 (by decide) (by decide) (by decide) (hnb _ _ (by decide))]; exact h7.1, fun j j1 j2 => ?_, fun i i1 i2 => by rw [hk 671 i (by decide) (by decide) (by omega) (hnb _ _ (by decide))]; exact h7.2.2 i i1 i2⟩, fun b b1 b2 => OB_same (fun k g => hk k b (by unfold isB at g; omega) (by unfold isB at g; omega) (by unfold isB at g; omega) (hsh k b b2)) (h8 b b1 b2)⟩, fun k i g1 g2 g3 => hk k i (by omega) (by omega) (by omega) (fun q => by have := q.1; unfold isB at this; omega), fun g => OB_same (fun k g => ho k 60 (by unfold isB at g; omega)) g⟩
  have := h7.2.1 j j1 j2
  unfold KS at this ⊢
  rw [hk 674 j (by decide) (by decide) (by omega) (hnb _ _ (by decide)), hk 675 j (by decide) (by decide) (by omega) (hnb _ _ (by decide)), hk 676 j (by decide) (by decide) (by omega) (hnb _ _ (by decide)), hk 677 j (by decide) (by decide) (by omega) (hnb _ _ (by decide)), hk 678 j (by decide) (by decide) (by omega) (hnb _ _ (by decide)), hk 679 j (by decide) (by decide) (by omega) (hnb _ _ (by decide))]
  exact this
theorem o_made {x1 x2 x3 c : Int} (hP : MP M D) (h1 : 0 ≤ x1 ∧ x1 ≤ 9) (h2 : 0 ≤ x2 ∧ x2 ≤ 9) (h3 : 0 ≤ x3 ∧ x3 ≤ 9) (hc : 0 ≤ c ∧ c < 65536) (hd : 8 ≤ d) : tC e d 3651 [.inr (.inr (.inl 664)), .inl x1, .inl c, .inl x2, .inl x3] M n (tQi n (fun z M' => (z = 0 ∨ z = 1) ∧ MP M' D ∧ ME M M')) := by
  refine tst_X12_made ?_
  have hin := MP_in hP
  refine tb_X12_made_0 (c := false) ?_
  simp only [kb_X12_made_0, w_ald_0, w_bi, w_pf_14_11, w_ild_2, w_ild_3, w_ild4, w_iv4, tfr_0, tfr_1, tfr_2, tfr_3, tfr_4, w_ist5, tkl_n, tkl_i, tkl_l, tkl_r, w_ild_1, w_ild5, w_ic, w_ic_ne, w_goto, true_and, and_true, Nat.reduceAdd, Nat.reduceSub, eq_self, tshm_14, tykm_14, tci_14]
  refine tc_i (D := 7) (fun d' hd' => o_acts hin.1 (by omega) (by omega) (by omega) (hin.2.2 x2 (by omega) (by omega)) (hin.2.2 x3 (by omega) (by omega)) hc hd') (by omega) ?_
  rintro z M1 ⟨q1, q2⟩
  try simp only [kb_X12_made_0, w_ald_0, w_bi, w_pf_14_11, w_ild_2, w_ild_3, w_ild4, w_iv4, tfr_0, tfr_1, tfr_2, tfr_3, tfr_4, w_ist5, tkl_n, tkl_i, tkl_l, tkl_r, w_ild_1, w_ild5, w_ic, w_ic_ne, w_goto, true_and, and_true, Nat.reduceAdd, Nat.reduceSub, eq_self, tshm_14, tykm_14, tci_14]
  have ho := MP_out hP q2
  have hz : z = 0 ∨ z = 1 ∨ z = 2 := q1.1
  have key : ∀ (w : Int) (d' : Nat), (1 ≤ w ∧ w ≤ 100) → 3 ≤ d' → tC e d' 3652 [.inr (.inr (.inl 664)), .inl x1, .inl z, .inl 3, .inl w] (tU M1 664 11 60) n (tQi n (fun z M' => (z = 0 ∨ z = 1) ∧ MP M' D ∧ ME M M')) := by
    intro w d' hw hd'
    refine tC_mono (o_makes ho.1 h1 hz (fun g => ho.2.2 (q1.2 g)) (by omega) hw hd') ?_
    rintro v M' n' ⟨z', r1, r2, r3, r4, r5⟩
    exact ⟨z', r1, r2, r3, r4, ME_tr ho.2.1 r5⟩
  have n40 : ∀ w : Int, (1 ≤ w ∧ w ≤ 100) → tT e d 3651 40 [some (.inr (.inr (.inl 664))), some (.inl x1), some (.inl c), some (.inl x2), some (.inl x3), some (.inl z)] [.inl w, .inl 3, .inl z, .inl x1, .inr (.inr (.inl 664))] (tU M1 664 11 60) n (tQi n (fun z M' => (z = 0 ∨ z = 1) ∧ MP M' D ∧ ME M M')) := by
    intro w hw
    refine tb_X12_made_40 (c := false) ?_
    simp only [kb_X12_made_40, w_iv4, tfr_0, tfr_1, tfr_2, tfr_3, tfr_4, w_ire, trg, true_and, and_true, Nat.reduceAdd, Nat.reduceSub, eq_self, tshm_14, tykm_14, tci_14]
    refine tc_i (D := 3) (fun d' hd' => key w d' hw hd') (by omega) ?_
    rintro z' M2 ⟨r3, r4, r5⟩
    try simp only [kb_X12_made_40, w_iv4, tfr_0, tfr_1, tfr_2, tfr_3, tfr_4, w_ire, trg, true_and, and_true, Nat.reduceAdd, Nat.reduceSub, eq_self, tshm_14, tykm_14, tci_14]
    exact ⟨by omega, z', rfl, rfl, r3, r4, r5⟩
  refine ⟨by omega, fun h => ?_, fun h => n40 4 (by omega)⟩
  refine tb_X12_made_39 (c := false) ?_
  simp only [kb_X12_made_39, w_ic, w_nil, true_and, and_true, Nat.reduceAdd, Nat.reduceSub, eq_self]
  exact n40 3 (by omega)
theorem o_add {x1 x2 x3 : Int} (hP : MP M D) (h1 : -2147483648 ≤ x1 ∧ x1 < 2147483648) (h2 : -2147483648 ≤ x2 ∧ x2 < 2147483648) (h3 : -2147483648 ≤ x3 ∧ x3 < 2147483648) (hd : 9 ≤ d) : tC e d 3586 [.inr (.inr (.inl 664)), .inl x1, .inl x2, .inl x3] M n (tQi n (fun z M' => (z = 0 ∨ z = 1) ∧ MP M' D ∧ ME M M')) := by
  refine tst_X12_add ?_
  have n31 : ∀ (M1 : tM) (z : Int), (z = 0 ∨ z = 1) → MP M1 D → ME M M1 → tT e d 3586 31 [some (.inr (.inr (.inl 664))), some (.inl x1), some (.inl x2), some (.inl x3)] [.inl z] M1 n (tQi n (fun z M' => (z = 0 ∨ z = 1) ∧ MP M' D ∧ ME M M')) := by
    intro M1 z q1 q2 q3
    refine tb_X12_add_31 (c := false) ?_
    simp only [kb_X12_add_31, w_ire, trg, true_and, and_true, Nat.reduceAdd, Nat.reduceSub, eq_self]
    exact ⟨by omega, z, rfl, rfl, q1, q2, q3⟩
  have n30 : ∀ M1 : tM, MP M1 D → ME M M1 → tT e d 3586 30 [some (.inr (.inr (.inl 664))), some (.inl x1), some (.inl x2), some (.inl x3)] [] M1 n (tQi n (fun z M' => (z = 0 ∨ z = 1) ∧ MP M' D ∧ ME M M')) := by
    intro M1 q2 q3
    refine tb_X12_add_30 (c := false) ?_
    simp only [kb_X12_add_30, w_ic, w_nil, true_and, and_true, Nat.reduceAdd, Nat.reduceSub, eq_self]
    exact n31 M1 0 (Or.inl rfl) q2 q3
  refine tb_X12_add_0 (c := false) ?_
  simp only [kb_X12_add_0, w_ald_0, w_ild_1, w_ild_2, w_ild_3, w_iv3, tfr_0, tfr_1, tfr_2, tfr_3, tfr_4, w_iv1, w_if_ne, w_bi, w_iv4, w_if_eq, w_ic, w_goto, true_and, and_true, Nat.reduceAdd, Nat.reduceSub, eq_self, tshm_14, tykm_14, tci_14]
  refine tc_i (D := 2) (fun d' hd' => o_noPair h1 h2 h3 hP.2.1 hd') (by omega) ?_
  rintro v M1 ⟨q1, rfl⟩
  try simp only [kb_X12_add_0, w_ald_0, w_ild_1, w_ild_2, w_ild_3, w_iv3, tfr_0, tfr_1, tfr_2, tfr_3, tfr_4, w_iv1, w_if_ne, w_bi, w_iv4, w_if_eq, w_ic, w_goto, true_and, and_true, Nat.reduceAdd, Nat.reduceSub, eq_self, tshm_14, tykm_14, tci_14]
  refine tc_i (D := 0) (fun d' hd' => o_fails (by omega)) (by omega) ?_
  rintro z M2 ⟨q2, rfl⟩
  try simp only [kb_X12_add_0, w_ald_0, w_ild_1, w_ild_2, w_ild_3, w_iv3, tfr_0, tfr_1, tfr_2, tfr_3, tfr_4, w_iv1, w_if_ne, w_bi, w_iv4, w_if_eq, w_ic, w_goto, true_and, and_true, Nat.reduceAdd, Nat.reduceSub, eq_self, tshm_14, tykm_14, tci_14]
  have h4 := MP_3 (v := v) hP
  refine ⟨by omega, fun h => n30 _ h4.1 h4.2, fun h => ?_⟩
  refine tc_i (D := 8) (fun d' hd' => o_made h4.1 (by omega) (by omega) (by omega) (by omega) hd') (by omega) ?_
  rintro z2 M3 ⟨p1, p2, p3⟩
  try simp only [kb_X12_add_0, w_ald_0, w_ild_1, w_ild_2, w_ild_3, w_iv3, tfr_0, tfr_1, tfr_2, tfr_3, tfr_4, w_iv1, w_if_ne, w_bi, w_iv4, w_if_eq, w_ic, w_goto, true_and, and_true, Nat.reduceAdd, Nat.reduceSub, eq_self, tshm_14, tykm_14, tci_14]
  exact ⟨by omega, fun h => n30 _ p2 (ME_tr h4.2 p3), fun h => n31 _ 1 (Or.inr rfl) p2 (ME_tr h4.2 p3)⟩
theorem o_subtract {x1 x2 x3 : Int} (hP : MP M D) (h1 : -2147483648 ≤ x1 ∧ x1 < 2147483648) (h2 : -2147483648 ≤ x2 ∧ x2 < 2147483648) (h3 : -2147483648 ≤ x3 ∧ x3 < 2147483648) (hd : 9 ≤ d) : tC e d 3715 [.inr (.inr (.inl 664)), .inl x1, .inl x2, .inl x3] M n (tQi n (fun z M' => (z = 0 ∨ z = 1) ∧ MP M' D ∧ ME M M')) := by
  refine tst_X12_subtract ?_
  have n31 : ∀ (M1 : tM) (z : Int), (z = 0 ∨ z = 1) → MP M1 D → ME M M1 → tT e d 3715 31 [some (.inr (.inr (.inl 664))), some (.inl x1), some (.inl x2), some (.inl x3)] [.inl z] M1 n (tQi n (fun z M' => (z = 0 ∨ z = 1) ∧ MP M' D ∧ ME M M')) := by
    intro M1 z q1 q2 q3
    refine tb_X12_subtract_31 (c := false) ?_
    simp only [kb_X12_subtract_31, w_ire, trg, true_and, and_true, Nat.reduceAdd, Nat.reduceSub, eq_self]
    exact ⟨by omega, z, rfl, rfl, q1, q2, q3⟩
  have n30 : ∀ M1 : tM, MP M1 D → ME M M1 → tT e d 3715 30 [some (.inr (.inr (.inl 664))), some (.inl x1), some (.inl x2), some (.inl x3)] [] M1 n (tQi n (fun z M' => (z = 0 ∨ z = 1) ∧ MP M' D ∧ ME M M')) := by
    intro M1 q2 q3
    refine tb_X12_subtract_30 (c := false) ?_
    simp only [kb_X12_subtract_30, w_ic, w_nil, true_and, and_true, Nat.reduceAdd, Nat.reduceSub, eq_self]
    exact n31 M1 0 (Or.inl rfl) q2 q3
  refine tb_X12_subtract_0 (c := false) ?_
  simp only [kb_X12_subtract_0, w_ald_0, w_ild_1, w_ild_2, w_ild_3, w_iv3, tfr_0, tfr_1, tfr_2, tfr_3, tfr_4, w_iv1, w_if_ne, w_bi, w_iv4, w_if_eq, w_ic, w_goto, true_and, and_true, Nat.reduceAdd, Nat.reduceSub, eq_self, tshm_14, tykm_14, tci_14]
  refine tc_i (D := 2) (fun d' hd' => o_noPair h1 h2 h3 hP.2.1 hd') (by omega) ?_
  rintro v M1 ⟨q1, rfl⟩
  try simp only [kb_X12_subtract_0, w_ald_0, w_ild_1, w_ild_2, w_ild_3, w_iv3, tfr_0, tfr_1, tfr_2, tfr_3, tfr_4, w_iv1, w_if_ne, w_bi, w_iv4, w_if_eq, w_ic, w_goto, true_and, and_true, Nat.reduceAdd, Nat.reduceSub, eq_self, tshm_14, tykm_14, tci_14]
  refine tc_i (D := 0) (fun d' hd' => o_fails (by omega)) (by omega) ?_
  rintro z M2 ⟨q2, rfl⟩
  try simp only [kb_X12_subtract_0, w_ald_0, w_ild_1, w_ild_2, w_ild_3, w_iv3, tfr_0, tfr_1, tfr_2, tfr_3, tfr_4, w_iv1, w_if_ne, w_bi, w_iv4, w_if_eq, w_ic, w_goto, true_and, and_true, Nat.reduceAdd, Nat.reduceSub, eq_self, tshm_14, tykm_14, tci_14]
  have h4 := MP_3 (v := v) hP
  refine ⟨by omega, fun h => n30 _ h4.1 h4.2, fun h => ?_⟩
  refine tc_i (D := 8) (fun d' hd' => o_made h4.1 (by omega) (by omega) (by omega) (by omega) hd') (by omega) ?_
  rintro z2 M3 ⟨p1, p2, p3⟩
  try simp only [kb_X12_subtract_0, w_ald_0, w_ild_1, w_ild_2, w_ild_3, w_iv3, tfr_0, tfr_1, tfr_2, tfr_3, tfr_4, w_iv1, w_if_ne, w_bi, w_iv4, w_if_eq, w_ic, w_goto, true_and, and_true, Nat.reduceAdd, Nat.reduceSub, eq_self, tshm_14, tykm_14, tci_14]
  exact ⟨by omega, fun h => n30 _ p2 (ME_tr h4.2 p3), fun h => n31 _ 1 (Or.inr rfl) p2 (ME_tr h4.2 p3)⟩
theorem o_multiply {x1 x2 x3 : Int} (hP : MP M D) (h1 : -2147483648 ≤ x1 ∧ x1 < 2147483648) (h2 : -2147483648 ≤ x2 ∧ x2 < 2147483648) (h3 : -2147483648 ≤ x3 ∧ x3 < 2147483648) (hd : 9 ≤ d) : tC e d 3659 [.inr (.inr (.inl 664)), .inl x1, .inl x2, .inl x3] M n (tQi n (fun z M' => (z = 0 ∨ z = 1) ∧ MP M' D ∧ ME M M')) := by
  refine tst_X12_multiply ?_
  have n31 : ∀ (M1 : tM) (z : Int), (z = 0 ∨ z = 1) → MP M1 D → ME M M1 → tT e d 3659 31 [some (.inr (.inr (.inl 664))), some (.inl x1), some (.inl x2), some (.inl x3)] [.inl z] M1 n (tQi n (fun z M' => (z = 0 ∨ z = 1) ∧ MP M' D ∧ ME M M')) := by
    intro M1 z q1 q2 q3
    refine tb_X12_multiply_31 (c := false) ?_
    simp only [kb_X12_multiply_31, w_ire, trg, true_and, and_true, Nat.reduceAdd, Nat.reduceSub, eq_self]
    exact ⟨by omega, z, rfl, rfl, q1, q2, q3⟩
  have n30 : ∀ M1 : tM, MP M1 D → ME M M1 → tT e d 3659 30 [some (.inr (.inr (.inl 664))), some (.inl x1), some (.inl x2), some (.inl x3)] [] M1 n (tQi n (fun z M' => (z = 0 ∨ z = 1) ∧ MP M' D ∧ ME M M')) := by
    intro M1 q2 q3
    refine tb_X12_multiply_30 (c := false) ?_
    simp only [kb_X12_multiply_30, w_ic, w_nil, true_and, and_true, Nat.reduceAdd, Nat.reduceSub, eq_self]
    exact n31 M1 0 (Or.inl rfl) q2 q3
  refine tb_X12_multiply_0 (c := false) ?_
  simp only [kb_X12_multiply_0, w_ald_0, w_ild_1, w_ild_2, w_ild_3, w_iv3, tfr_0, tfr_1, tfr_2, tfr_3, tfr_4, w_iv1, w_if_ne, w_bi, w_iv4, w_if_eq, w_ic, w_goto, true_and, and_true, Nat.reduceAdd, Nat.reduceSub, eq_self, tshm_14, tykm_14, tci_14]
  refine tc_i (D := 2) (fun d' hd' => o_noPair h1 h2 h3 hP.2.1 hd') (by omega) ?_
  rintro v M1 ⟨q1, rfl⟩
  try simp only [kb_X12_multiply_0, w_ald_0, w_ild_1, w_ild_2, w_ild_3, w_iv3, tfr_0, tfr_1, tfr_2, tfr_3, tfr_4, w_iv1, w_if_ne, w_bi, w_iv4, w_if_eq, w_ic, w_goto, true_and, and_true, Nat.reduceAdd, Nat.reduceSub, eq_self, tshm_14, tykm_14, tci_14]
  refine tc_i (D := 0) (fun d' hd' => o_fails (by omega)) (by omega) ?_
  rintro z M2 ⟨q2, rfl⟩
  try simp only [kb_X12_multiply_0, w_ald_0, w_ild_1, w_ild_2, w_ild_3, w_iv3, tfr_0, tfr_1, tfr_2, tfr_3, tfr_4, w_iv1, w_if_ne, w_bi, w_iv4, w_if_eq, w_ic, w_goto, true_and, and_true, Nat.reduceAdd, Nat.reduceSub, eq_self, tshm_14, tykm_14, tci_14]
  have h4 := MP_3 (v := v) hP
  refine ⟨by omega, fun h => n30 _ h4.1 h4.2, fun h => ?_⟩
  refine tc_i (D := 8) (fun d' hd' => o_made h4.1 (by omega) (by omega) (by omega) (by omega) hd') (by omega) ?_
  rintro z2 M3 ⟨p1, p2, p3⟩
  try simp only [kb_X12_multiply_0, w_ald_0, w_ild_1, w_ild_2, w_ild_3, w_iv3, tfr_0, tfr_1, tfr_2, tfr_3, tfr_4, w_iv1, w_if_ne, w_bi, w_iv4, w_if_eq, w_ic, w_goto, true_and, and_true, Nat.reduceAdd, Nat.reduceSub, eq_self, tshm_14, tykm_14, tci_14]
  exact ⟨by omega, fun h => n30 _ p2 (ME_tr h4.2 p3), fun h => n31 _ 1 (Or.inr rfl) p2 (ME_tr h4.2 p3)⟩
theorem o_divide {x1 x2 x3 : Int} (hP : MP M D) (h1 : -2147483648 ≤ x1 ∧ x1 < 2147483648) (h2 : -2147483648 ≤ x2 ∧ x2 < 2147483648) (h3 : -2147483648 ≤ x3 ∧ x3 < 2147483648) (hd : 9 ≤ d) : tC e d 3609 [.inr (.inr (.inl 664)), .inl x1, .inl x2, .inl x3] M n (tQi n (fun z M' => (z = 0 ∨ z = 1) ∧ MP M' D ∧ ME M M')) := by
  refine tst_X12_divide ?_
  have n31 : ∀ (M1 : tM) (z : Int), (z = 0 ∨ z = 1) → MP M1 D → ME M M1 → tT e d 3609 31 [some (.inr (.inr (.inl 664))), some (.inl x1), some (.inl x2), some (.inl x3)] [.inl z] M1 n (tQi n (fun z M' => (z = 0 ∨ z = 1) ∧ MP M' D ∧ ME M M')) := by
    intro M1 z q1 q2 q3
    refine tb_X12_divide_31 (c := false) ?_
    simp only [kb_X12_divide_31, w_ire, trg, true_and, and_true, Nat.reduceAdd, Nat.reduceSub, eq_self]
    exact ⟨by omega, z, rfl, rfl, q1, q2, q3⟩
  have n30 : ∀ M1 : tM, MP M1 D → ME M M1 → tT e d 3609 30 [some (.inr (.inr (.inl 664))), some (.inl x1), some (.inl x2), some (.inl x3)] [] M1 n (tQi n (fun z M' => (z = 0 ∨ z = 1) ∧ MP M' D ∧ ME M M')) := by
    intro M1 q2 q3
    refine tb_X12_divide_30 (c := false) ?_
    simp only [kb_X12_divide_30, w_ic, w_nil, true_and, and_true, Nat.reduceAdd, Nat.reduceSub, eq_self]
    exact n31 M1 0 (Or.inl rfl) q2 q3
  refine tb_X12_divide_0 (c := false) ?_
  simp only [kb_X12_divide_0, w_ald_0, w_ild_1, w_ild_2, w_ild_3, w_iv3, tfr_0, tfr_1, tfr_2, tfr_3, tfr_4, w_iv1, w_if_ne, w_bi, w_iv4, w_if_eq, w_ic, w_goto, true_and, and_true, Nat.reduceAdd, Nat.reduceSub, eq_self, tshm_14, tykm_14, tci_14]
  refine tc_i (D := 2) (fun d' hd' => o_noPair h1 h2 h3 hP.2.1 hd') (by omega) ?_
  rintro v M1 ⟨q1, rfl⟩
  try simp only [kb_X12_divide_0, w_ald_0, w_ild_1, w_ild_2, w_ild_3, w_iv3, tfr_0, tfr_1, tfr_2, tfr_3, tfr_4, w_iv1, w_if_ne, w_bi, w_iv4, w_if_eq, w_ic, w_goto, true_and, and_true, Nat.reduceAdd, Nat.reduceSub, eq_self, tshm_14, tykm_14, tci_14]
  refine tc_i (D := 0) (fun d' hd' => o_fails (by omega)) (by omega) ?_
  rintro z M2 ⟨q2, rfl⟩
  try simp only [kb_X12_divide_0, w_ald_0, w_ild_1, w_ild_2, w_ild_3, w_iv3, tfr_0, tfr_1, tfr_2, tfr_3, tfr_4, w_iv1, w_if_ne, w_bi, w_iv4, w_if_eq, w_ic, w_goto, true_and, and_true, Nat.reduceAdd, Nat.reduceSub, eq_self, tshm_14, tykm_14, tci_14]
  have h4 := MP_3 (v := v) hP
  refine ⟨by omega, fun h => n30 _ h4.1 h4.2, fun h => ?_⟩
  refine tc_i (D := 8) (fun d' hd' => o_made h4.1 (by omega) (by omega) (by omega) (by omega) hd') (by omega) ?_
  rintro z2 M3 ⟨p1, p2, p3⟩
  try simp only [kb_X12_divide_0, w_ald_0, w_ild_1, w_ild_2, w_ild_3, w_iv3, tfr_0, tfr_1, tfr_2, tfr_3, tfr_4, w_iv1, w_if_ne, w_bi, w_iv4, w_if_eq, w_ic, w_goto, true_and, and_true, Nat.reduceAdd, Nat.reduceSub, eq_self, tshm_14, tykm_14, tci_14]
  exact ⟨by omega, fun h => n30 _ p2 (ME_tr h4.2 p3), fun h => n31 _ 1 (Or.inr rfl) p2 (ME_tr h4.2 p3)⟩
end MODEL
