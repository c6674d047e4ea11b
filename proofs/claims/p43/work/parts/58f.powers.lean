/-! THE MODEL: powers, roots, curves and constants of shelves. -/
section MODEL
variable {e : tE} {d n D : Nat} {M : tM}
theorem MP_x {M1 : tM} (h : MP M D) (hx : xE (toF 60 60) M M1) : MP M1 D ∧ ME M M1 := by
  obtain ⟨⟨h1, h2, h3, h4, h5, h6⟩, h7, h8⟩ := h
  have hME := ME_x hx
  obtain ⟨⟨hk, y2, y3⟩, y4⟩ := hx
  have hnb : ∀ (k : Nat) (i : Int), k = 664 ∨ 671 ≤ k → ¬ (isB k ∧ toF 60 60 i) := fun k i g q => by
    have := q.1
    unfold isB at this
    omega
  have hsh : ∀ (k : Nat) (b : Int), b < 60 → ¬ (isB k ∧ toF 60 60 b) := fun k b g q => by
    have := q.2
    unfold toF at this
    omega
  refine ⟨⟨⟨(hk _ _ (by decide) (by decide) (by decide) (hnb _ _ (by decide))).trans h1, h2, y4.trans h3, h4, y3 h5, y2 h6⟩, ⟨by rw [hk 664 25 (by decide) (by decide) (by decide) (hnb _ _ (by decide))]; exact h7.1, fun j j1 j2 => ?_, fun i i1 i2 => by rw [hk 671 i (by decide) (by decide) (by omega) (hnb _ _ (by decide))]; exact h7.2.2 i i1 i2⟩, fun b b1 b2 => OB_same (fun k g => hk k b (by unfold isB at g; omega) (by unfold isB at g; omega) (by unfold isB at g; omega) (hsh k b b2)) (h8 b b1 b2)⟩, hME⟩
  have := h7.2.1 j j1 j2
  unfold KS at this ⊢
  rw [hk 674 j (by decide) (by decide) (by omega) (hnb _ _ (by decide)), hk 675 j (by decide) (by decide) (by omega) (hnb _ _ (by decide)), hk 676 j (by decide) (by decide) (by omega) (hnb _ _ (by decide)), hk 677 j (by decide) (by decide) (by omega) (hnb _ _ (by decide)), hk 678 j (by decide) (by decide) (by omega) (hnb _ _ (by decide)), hk 679 j (by decide) (by decide) (by omega) (hnb _ _ (by decide))]
  exact this
theorem o_power {x1 x2 x3 : Int} (hP : MP M D) (h1 : -2147483648 ≤ x1 ∧ x1 < 2147483648) (h2 : -2147483648 ≤ x2 ∧ x2 < 2147483648) (h3 : -2147483648 ≤ x3 ∧ x3 < 2147483648) (hd : 7 ≤ d) : tC e d 3680 [.inr (.inr (.inl 664)), .inl x1, .inl x2, .inl x3] M n (tQi n (fun z M' => (z = 0 ∨ z = 1) ∧ MP M' D ∧ ME M M')) := by
  refine tst_X12_power ?_
  have n57 : ∀ M1 : tM, MP M1 D → ME M M1 → (0 ≤ x1 ∧ x1 ≤ 9) → (0 ≤ x2 ∧ x2 ≤ 9) → (0 ≤ x3 ∧ x3 ≤ 9) → tT e d 3680 57 [some (.inr (.inr (.inl 664))), some (.inl x1), some (.inl x2), some (.inl x3)] [] M1 n (tQi n (fun z M' => (z = 0 ∨ z = 1) ∧ MP M' D ∧ ME M M')) := by
    intro M1 q1 q2 g1 g2 g3
    obtain ⟨k, hk⟩ : ∃ k : Nat, x3 = (k : Int) := ⟨x3.toNat, by omega⟩
    subst hk
    refine tb_X12_power_57 (c := false) ?_
    simp only [kb_X12_power_57, w_ald_0, w_ild_1, w_bi, w_ild_2, w_ild_3, w_iv3, tfr_0, tfr_1, tfr_2, tfr_3, tfr_4, w_ic, w_iv4, w_ire, trg, true_and, and_true, Nat.reduceAdd, Nat.reduceSub, eq_self, tshm_14, tykm_14, tci_14, tsn_671, tyn_17, tcn_10]
    refine tc_i (D := 5) (fun d' hd' => o_lifted q1.1 (by omega) (by omega) (q1.2.2 x2 (by omega) (by omega)) (by omega) hd') (by omega) ?_
    rintro z M2 ⟨p1, p2⟩
    try simp only [kb_X12_power_57, w_ald_0, w_ild_1, w_bi, w_ild_2, w_ild_3, w_iv3, tfr_0, tfr_1, tfr_2, tfr_3, tfr_4, w_ic, w_iv4, w_ire, trg, true_and, and_true, Nat.reduceAdd, Nat.reduceSub, eq_self, tshm_14, tykm_14, tci_14, tsn_671, tyn_17, tcn_10]
    have h4 := MP_x q1 p2
    refine tc_i (D := 5) (fun d' hd' => o_makes h4.1 g1 p1.1 p1.2 (by omega) (by omega) (by omega)) (by omega) ?_
    rintro z2 M3 ⟨r1, r2, r3⟩
    try simp only [kb_X12_power_57, w_ald_0, w_ild_1, w_bi, w_ild_2, w_ild_3, w_iv3, tfr_0, tfr_1, tfr_2, tfr_3, tfr_4, w_ic, w_iv4, w_ire, trg, true_and, and_true, Nat.reduceAdd, Nat.reduceSub, eq_self, tshm_14, tykm_14, tci_14, tsn_671, tyn_17, tcn_10]
    exact ⟨by omega, z2, rfl, rfl, r1, r2, ME_tr q2 (ME_tr h4.2 r3)⟩
  have n49 : ∀ v : Int, (0 ≤ v ∧ v ≤ 3) → (v = 0 → (0 ≤ x1 ∧ x1 ≤ 9) ∧ (0 ≤ x2 ∧ x2 ≤ 9) ∧ (0 ≤ x3 ∧ x3 ≤ 9)) → tT e d 3680 49 [some (.inr (.inr (.inl 664))), some (.inl x1), some (.inl x2), some (.inl x3)] [.inl v, .inr (.inr (.inl 664))] M n (tQi n (fun z M' => (z = 0 ∨ z = 1) ∧ MP M' D ∧ ME M M')) := by
    intro v hv hv0
    refine tb_X12_power_49 (c := false) ?_
    simp only [kb_X12_power_49, w_iv1, tfr_0, tfr_1, tfr_2, tfr_3, tfr_4, w_if_eq, w_ic, w_ire, trg, true_and, and_true, Nat.reduceAdd, Nat.reduceSub, eq_self, tshm_14, tykm_14, tci_14, tsn_671, tyn_17, tcn_10]
    refine tc_i (D := 0) (fun d' hd' => o_fails (by omega)) (by omega) ?_
    rintro z M2 ⟨q2, rfl⟩
    try simp only [kb_X12_power_49, w_iv1, tfr_0, tfr_1, tfr_2, tfr_3, tfr_4, w_if_eq, w_ic, w_ire, trg, true_and, and_true, Nat.reduceAdd, Nat.reduceSub, eq_self, tshm_14, tykm_14, tci_14, tsn_671, tyn_17, tcn_10]
    have h4 := MP_3 (v := v) hP
    refine ⟨by omega, fun h => ?_, fun h => ?_⟩
    · have := hv0 (by omega)
      exact n57 _ h4.1 h4.2 this.1 this.2.1 this.2.2
    · exact ⟨by omega, 0, rfl, rfl, Or.inl rfl, h4.1, h4.2⟩
  have n15 : tT e d 3680 15 [some (.inr (.inr (.inl 664))), some (.inl x1), some (.inl x2), some (.inl x3)] [.inr (.inr (.inl 664))] M n (tQi n (fun z M' => (z = 0 ∨ z = 1) ∧ MP M' D ∧ ME M M')) := by
    refine tb_X12_power_15 (c := false) ?_
    simp only [kb_X12_power_15, w_ic, w_goto, true_and, and_true, Nat.reduceAdd, Nat.reduceSub, eq_self]
    exact n49 1 (by omega) (fun g => absurd g (by decide))
  have n19 : (0 ≤ x1 ∧ x1 ≤ 9) → (0 ≤ x2 ∧ x2 ≤ 9) → tT e d 3680 19 [some (.inr (.inr (.inl 664))), some (.inl x1), some (.inl x2), some (.inl x3)] [.inr (.inr (.inl 664))] M n (tQi n (fun z M' => (z = 0 ∨ z = 1) ∧ MP M' D ∧ ME M M')) := by
    intro g1 g2
    refine tb_X12_power_19 (c := false) ?_
    simp only [kb_X12_power_19, w_ild_3, w_i2l, w_lc0, w_ld2, w_is3, tfr_0, tfr_1, tfr_2, tfr_3, tfr_4, w_if_ne, w_ic, w_goto, true_and, and_true, Nat.reduceAdd, Nat.reduceSub, eq_self]
    refine ⟨by omega, ?_⟩
    refine tc_i (D := 0) (fun d' hd' => c_in (by omega) (by omega) (by omega)) (by omega) ?_
    rintro z M1 ⟨q1, rfl⟩
    try simp only [kb_X12_power_19, w_ild_3, w_i2l, w_lc0, w_ld2, w_is3, tfr_0, tfr_1, tfr_2, tfr_3, tfr_4, w_if_ne, w_ic, w_goto, true_and, and_true, Nat.reduceAdd, Nat.reduceSub, eq_self]
    refine ⟨by omega, fun h => ?_, fun h => ?_⟩
    · refine tb_X12_power_35 (c := false) ?_
      simp only [kb_X12_power_35, w_ald_0, w_gf_14_10, tw_f, w_ild_2, w_ba, w_if_ne, w_ic, w_goto, true_and, and_true, Nat.reduceAdd, Nat.reduceSub, eq_self, tshm_14, tykm_14, tci_14, tsn_671, tyn_17, tcn_10]
      have g4 := hP.2.1.2.2 x2 (by omega) (by omega)
      refine ⟨by omega, by omega, fun h => ?_, fun h => n49 3 (by omega) (fun g => absurd g (by decide))⟩
      refine tb_X12_power_48 (c := false) ?_
      simp only [kb_X12_power_48, w_ic, w_nil, true_and, and_true, Nat.reduceAdd, Nat.reduceSub, eq_self]
      exact n49 0 (by omega) (fun _ => ⟨g1, g2, by omega⟩)
    exact n49 2 (by omega) (fun g => absurd g (by decide))
  refine tb_X12_power_0 (c := false) ?_
  simp only [kb_X12_power_0, w_ald_0, w_ild_1, w_is1, tfr_0, tfr_1, tfr_2, tfr_3, tfr_4, w_if_eq, w_ild_2, w_if_ne, w_nil, true_and, and_true, Nat.reduceAdd, Nat.reduceSub, eq_self]
  refine tc_i (D := 1) (fun d' hd' => o_isShelf h1 hd') (by omega) ?_
  rintro z1 M1 ⟨q1, rfl⟩
  try simp only [kb_X12_power_0, w_ald_0, w_ild_1, w_is1, tfr_0, tfr_1, tfr_2, tfr_3, tfr_4, w_if_eq, w_ild_2, w_if_ne, w_nil, true_and, and_true, Nat.reduceAdd, Nat.reduceSub, eq_self]
  refine ⟨by omega, fun h => n15, fun h => ?_⟩
  refine tc_i (D := 1) (fun d' hd' => o_isShelf h2 hd') (by omega) ?_
  rintro z2 M2 ⟨q2, rfl⟩
  try simp only [kb_X12_power_0, w_ald_0, w_ild_1, w_is1, tfr_0, tfr_1, tfr_2, tfr_3, tfr_4, w_if_eq, w_ild_2, w_if_ne, w_nil, true_and, and_true, Nat.reduceAdd, Nat.reduceSub, eq_self]
  refine ⟨by omega, fun h => n19 (by omega) (by omega), fun h => n15⟩
theorem o_root {x1 x2 x3 : Int} (hP : MP M D) (h1 : -2147483648 ≤ x1 ∧ x1 < 2147483648) (h2 : -2147483648 ≤ x2 ∧ x2 < 2147483648) (h3 : -2147483648 ≤ x3 ∧ x3 < 2147483648) (hd : 7 ≤ d) : tC e d 3694 [.inr (.inr (.inl 664)), .inl x1, .inl x2, .inl x3] M n (tQi n (fun z M' => (z = 0 ∨ z = 1) ∧ MP M' D ∧ ME M M')) := by
  refine tst_X12_root ?_
  have n57 : ∀ M1 : tM, MP M1 D → ME M M1 → (0 ≤ x1 ∧ x1 ≤ 9) → (0 ≤ x2 ∧ x2 ≤ 9) → (2 ≤ x3 ∧ x3 ≤ 4) → tT e d 3694 59 [some (.inr (.inr (.inl 664))), some (.inl x1), some (.inl x2), some (.inl x3)] [] M1 n (tQi n (fun z M' => (z = 0 ∨ z = 1) ∧ MP M' D ∧ ME M M')) := by
    intro M1 q1 q2 g1 g2 g3
    obtain ⟨k, hk⟩ : ∃ k : Nat, x3 = (k : Int) := ⟨x3.toNat, by omega⟩
    subst hk
    refine tb_X12_root_59 (c := false) ?_
    simp only [kb_X12_root_59, w_ald_0, w_ild_1, w_bi, w_ild_2, w_ild_3, w_iv3, tfr_0, tfr_1, tfr_2, tfr_3, tfr_4, w_ic, w_iv4, w_ire, trg, true_and, and_true, Nat.reduceAdd, Nat.reduceSub, eq_self, tshm_14, tykm_14, tci_14, tsn_671, tyn_17, tcn_10]
    refine tc_i (D := 5) (fun d' hd' => o_rooted q1.1 (by omega) (by omega) (q1.2.2 x2 (by omega) (by omega)) (by omega) hd') (by omega) ?_
    rintro z M2 ⟨p1, p2⟩
    try simp only [kb_X12_root_59, w_ald_0, w_ild_1, w_bi, w_ild_2, w_ild_3, w_iv3, tfr_0, tfr_1, tfr_2, tfr_3, tfr_4, w_ic, w_iv4, w_ire, trg, true_and, and_true, Nat.reduceAdd, Nat.reduceSub, eq_self, tshm_14, tykm_14, tci_14, tsn_671, tyn_17, tcn_10]
    have h4 := MP_x q1 p2
    refine tc_i (D := 5) (fun d' hd' => o_makes h4.1 g1 p1.1 p1.2 (by omega) (by omega) (by omega)) (by omega) ?_
    rintro z2 M3 ⟨r1, r2, r3⟩
    try simp only [kb_X12_root_59, w_ald_0, w_ild_1, w_bi, w_ild_2, w_ild_3, w_iv3, tfr_0, tfr_1, tfr_2, tfr_3, tfr_4, w_ic, w_iv4, w_ire, trg, true_and, and_true, Nat.reduceAdd, Nat.reduceSub, eq_self, tshm_14, tykm_14, tci_14, tsn_671, tyn_17, tcn_10]
    exact ⟨by omega, z2, rfl, rfl, r1, r2, ME_tr q2 (ME_tr h4.2 r3)⟩
  have n49 : ∀ v : Int, (0 ≤ v ∧ v ≤ 3) → (v = 0 → (0 ≤ x1 ∧ x1 ≤ 9) ∧ (0 ≤ x2 ∧ x2 ≤ 9) ∧ (2 ≤ x3 ∧ x3 ≤ 4)) → tT e d 3694 51 [some (.inr (.inr (.inl 664))), some (.inl x1), some (.inl x2), some (.inl x3)] [.inl v, .inr (.inr (.inl 664))] M n (tQi n (fun z M' => (z = 0 ∨ z = 1) ∧ MP M' D ∧ ME M M')) := by
    intro v hv hv0
    refine tb_X12_root_51 (c := false) ?_
    simp only [kb_X12_root_51, w_iv1, tfr_0, tfr_1, tfr_2, tfr_3, tfr_4, w_if_eq, w_ic, w_ire, trg, true_and, and_true, Nat.reduceAdd, Nat.reduceSub, eq_self, tshm_14, tykm_14, tci_14, tsn_671, tyn_17, tcn_10]
    refine tc_i (D := 0) (fun d' hd' => o_fails (by omega)) (by omega) ?_
    rintro z M2 ⟨q2, rfl⟩
    try simp only [kb_X12_root_51, w_iv1, tfr_0, tfr_1, tfr_2, tfr_3, tfr_4, w_if_eq, w_ic, w_ire, trg, true_and, and_true, Nat.reduceAdd, Nat.reduceSub, eq_self, tshm_14, tykm_14, tci_14, tsn_671, tyn_17, tcn_10]
    have h4 := MP_3 (v := v) hP
    refine ⟨by omega, fun h => ?_, fun h => ?_⟩
    · have := hv0 (by omega)
      exact n57 _ h4.1 h4.2 this.1 this.2.1 this.2.2
    · exact ⟨by omega, 0, rfl, rfl, Or.inl rfl, h4.1, h4.2⟩
  have n15 : tT e d 3694 15 [some (.inr (.inr (.inl 664))), some (.inl x1), some (.inl x2), some (.inl x3)] [.inr (.inr (.inl 664))] M n (tQi n (fun z M' => (z = 0 ∨ z = 1) ∧ MP M' D ∧ ME M M')) := by
    refine tb_X12_root_15 (c := false) ?_
    simp only [kb_X12_root_15, w_ic, w_goto, true_and, and_true, Nat.reduceAdd, Nat.reduceSub, eq_self]
    exact n49 1 (by omega) (fun g => absurd g (by decide))
  have n19 : (0 ≤ x1 ∧ x1 ≤ 9) → (0 ≤ x2 ∧ x2 ≤ 9) → tT e d 3694 19 [some (.inr (.inr (.inl 664))), some (.inl x1), some (.inl x2), some (.inl x3)] [.inr (.inr (.inl 664))] M n (tQi n (fun z M' => (z = 0 ∨ z = 1) ∧ MP M' D ∧ ME M M')) := by
    intro g1 g2
    refine tb_X12_root_19 (c := false) ?_
    simp only [kb_X12_root_19, w_ild_3, w_i2l, w_ld2, w_is3, tfr_0, tfr_1, tfr_2, tfr_3, tfr_4, w_if_ne, w_ic, w_goto, true_and, and_true, Nat.reduceAdd, Nat.reduceSub, eq_self]
    refine ⟨by omega, ?_⟩
    refine tc_i (D := 0) (fun d' hd' => c_in (by omega) (by omega) (by omega)) (by omega) ?_
    rintro z M1 ⟨q1, rfl⟩
    try simp only [kb_X12_root_19, w_ild_3, w_i2l, w_ld2, w_is3, tfr_0, tfr_1, tfr_2, tfr_3, tfr_4, w_if_ne, w_ic, w_goto, true_and, and_true, Nat.reduceAdd, Nat.reduceSub, eq_self]
    refine ⟨by omega, fun h => ?_, fun h => ?_⟩
    · refine tb_X12_root_37 (c := false) ?_
      simp only [kb_X12_root_37, w_ald_0, w_gf_14_10, tw_f, w_ild_2, w_ba, w_if_ne, w_ic, w_goto, true_and, and_true, Nat.reduceAdd, Nat.reduceSub, eq_self, tshm_14, tykm_14, tci_14, tsn_671, tyn_17, tcn_10]
      have g4 := hP.2.1.2.2 x2 (by omega) (by omega)
      refine ⟨by omega, by omega, fun h => ?_, fun h => n49 3 (by omega) (fun g => absurd g (by decide))⟩
      refine tb_X12_root_50 (c := false) ?_
      simp only [kb_X12_root_50, w_ic, w_nil, true_and, and_true, Nat.reduceAdd, Nat.reduceSub, eq_self]
      exact n49 0 (by omega) (fun _ => ⟨g1, g2, by omega⟩)
    exact n49 2 (by omega) (fun g => absurd g (by decide))
  refine tb_X12_root_0 (c := false) ?_
  simp only [kb_X12_root_0, w_ald_0, w_ild_1, w_is1, tfr_0, tfr_1, tfr_2, tfr_3, tfr_4, w_if_eq, w_ild_2, w_if_ne, w_nil, true_and, and_true, Nat.reduceAdd, Nat.reduceSub, eq_self]
  refine tc_i (D := 1) (fun d' hd' => o_isShelf h1 hd') (by omega) ?_
  rintro z1 M1 ⟨q1, rfl⟩
  try simp only [kb_X12_root_0, w_ald_0, w_ild_1, w_is1, tfr_0, tfr_1, tfr_2, tfr_3, tfr_4, w_if_eq, w_ild_2, w_if_ne, w_nil, true_and, and_true, Nat.reduceAdd, Nat.reduceSub, eq_self]
  refine ⟨by omega, fun h => n15, fun h => ?_⟩
  refine tc_i (D := 1) (fun d' hd' => o_isShelf h2 hd') (by omega) ?_
  rintro z2 M2 ⟨q2, rfl⟩
  try simp only [kb_X12_root_0, w_ald_0, w_ild_1, w_is1, tfr_0, tfr_1, tfr_2, tfr_3, tfr_4, w_if_eq, w_ild_2, w_if_ne, w_nil, true_and, and_true, Nat.reduceAdd, Nat.reduceSub, eq_self]
  refine ⟨by omega, fun h => n19 (by omega) (by omega), fun h => n15⟩
end MODEL
