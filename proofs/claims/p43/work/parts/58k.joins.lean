/-! THE MODEL: two boxes joined, or what they share. -/
section MODEL
variable {e : tE} {d n D : Nat} {M : tM}
theorem MP_b {M' : tM} (h : MP M D) (hk : ∀ (k : Nat) (i : Int), ¬ (isB k ∧ i = 60) → M' k i = M k i) (hc : bcan M' 60) : MP M' D ∧ ME M M' := by
  obtain ⟨⟨h1, h2, h3, h4, h5, h6⟩, h7, h8⟩ := h
  have hn : ∀ (k : Nat) (i : Int), (k ≤ 666 ∨ 671 ≤ k) → M' k i = M k i := fun k i g => hk k i (fun q => by have := q.1; unfold isB at this; omega)
  refine ⟨⟨⟨(hn _ _ (by decide)).trans h1, h2, (hn _ _ (by decide)).trans h3, h4, fun b b1 b2 => ?_, KI_same (fun k i g => hn k i (by omega)) h6⟩, ⟨by rw [hn 664 25 (by decide)]; exact h7.1, fun j j1 j2 => ?_, fun i i1 i2 => by rw [hn 671 i (by decide)]; exact h7.2.2 i i1 i2⟩, fun b b1 b2 => OB_same (fun k g => hk k b (fun q => by omega)) (h8 b b1 b2)⟩, fun k i g1 g2 g3 => hn k i (by omega)⟩
  · by_cases hb : b = 60
    · rw [hb]; exact hc
    · have := h5 b b1 b2
      unfold bcan at this ⊢
      rw [hk 667 b (fun q => hb q.2), hk 668 b (fun q => hb q.2), hk 669 b (fun q => hb q.2), hk 670 b (fun q => hb q.2)]
      exact this
  · have := h7.2.1 j j1 j2
    unfold KS at this ⊢
    rw [hn 674 j (by decide), hn 675 j (by decide), hn 676 j (by decide), hn 677 j (by decide), hn 678 j (by decide), hn 679 j (by decide)]
    exact this
theorem o_joins {x2 x3 x4 : Int} (hP : MP M D) (h2 : 0 ≤ x2 ∧ x2 ≤ 9) (h3 : 0 ≤ x3 ∧ x3 ≤ 9) (h4 : x4 = 0 ∨ x4 = 1) (hd : 2 ≤ d) : tC e d 3640 [.inr (.inr (.inl 664)), .inl 60, .inl x2, .inl x3, .inl x4] M n (tQi n (fun z M' => (z = 0 ∨ z = 1) ∧ (z = 1 ∨ x4 = 0 → OB M' 60) ∧ MP M' D ∧ ME M M')) := by
  refine tst_X12_joins ?_
  have hB := hP.1.2.2.2.2.1
  have c2 := hB x2 (by omega) (by omega)
  have c3 := hB x3 (by omega) (by omega)
  have o2 := hP.2.2 x2 (by omega) (by omega)
  have o3 := hP.2.2 x3 (by omega) (by omega)
  unfold bcan at c2 c3
  unfold OB at o2 o3
  have n175 : ∀ (M1 : tM) (z : Int) (w5 w6 w7 w8 w9 w10 w11 w12 : Option tV), (z = 0 ∨ z = 1) → (z = 1 ∨ x4 = 0 → OB M1 60) → MP M1 D → ME M M1 → tT e d 3640 175 [some (.inr (.inr (.inl 664))), some (.inl 60), some (.inl x2), some (.inl x3), some (.inl x4), w5, w6, w7, w8, w9, w10, w11, w12] [.inl z] M1 n (tQi n (fun z M' => (z = 0 ∨ z = 1) ∧ (z = 1 ∨ x4 = 0 → OB M' 60) ∧ MP M' D ∧ ME M M')) := by
    intro M1 z w5 w6 w7 w8 w9 w10 w11 w12 q1 q2 q3 q4
    refine tb_X12_joins_175 (c := false) ?_
    simp only [kb_X12_joins_175, w_ire, trg, true_and, and_true, Nat.reduceAdd, Nat.reduceSub, eq_self]
    exact ⟨by omega, z, rfl, rfl, q1, q2, q3, q4⟩
  have n100 : ∀ (a b : Int) (w5 w6 : Option tV), (a = x2 ∨ a = x3) → (b = x2 ∨ b = x3) → (x4 = 0 → zlo M a ≤ zhi M b) → tT e d 3640 100 [some (.inr (.inr (.inl 664))), some (.inl 60), some (.inl x2), some (.inl x3), some (.inl x4), w5, w6, some (.inl a), none, none, none, none, none] [.inl b] M n (tQi n (fun z M' => (z = 0 ∨ z = 1) ∧ (z = 1 ∨ x4 = 0 → OB M' 60) ∧ MP M' D ∧ ME M M')) := by
    intro a b w5 w6 ha hb hab
    have ca := hB a (by omega) (by omega)
    have cb := hB b (by omega) (by omega)
    unfold bcan at ca cb
    refine tb_X12_joins_100 (c := false) ?_
    simp only [kb_X12_joins_100, w_ist8, tkl_n, tkl_i, tkl_l, tkl_r, w_ald_0, w_gf_14_6, tw_f, w_ild7, w_la, w_lax, w_lst9, w_gf_14_7, w_lst11, w_ild_1, w_gf_14_8, w_ild8, w_gf_14_9, w_iv3, tfr_0, tfr_1, tfr_2, tfr_3, tfr_4, w_lld9, w_lld11, w_is4, w_if_gt, w_ic, w_goto, true_and, and_true, Nat.reduceAdd, Nat.reduceSub, eq_self, tshm_14, tykm_14, tci_14, tshm_667, tshm_668, tshm_669, tshm_670, tykm_33, tci_700]
    refine ⟨by omega, by omega, by omega, by omega, ?_⟩
    refine tc_n (D := 0) (fun d' hd' => c_high (by omega)) (by omega) ?_
    intro M1 hM1
    try simp only [kb_X12_joins_100, w_ist8, tkl_n, tkl_i, tkl_l, tkl_r, w_ald_0, w_gf_14_6, tw_f, w_ild7, w_la, w_lax, w_lst9, w_gf_14_7, w_lst11, w_ild_1, w_gf_14_8, w_ild8, w_gf_14_9, w_iv3, tfr_0, tfr_1, tfr_2, tfr_3, tfr_4, w_lld9, w_lld11, w_is4, w_if_gt, w_ic, w_goto, true_and, and_true, Nat.reduceAdd, Nat.reduceSub, eq_self, tshm_14, tykm_14, tci_14, tshm_667, tshm_668, tshm_669, tshm_670, tykm_33, tci_700]
    refine tc_n (D := 0) (fun d' hd' => c_low (by omega)) (by omega) ?_
    intro M2 hM2
    try simp only [kb_X12_joins_100, w_ist8, tkl_n, tkl_i, tkl_l, tkl_r, w_ald_0, w_gf_14_6, tw_f, w_ild7, w_la, w_lax, w_lst9, w_gf_14_7, w_lst11, w_ild_1, w_gf_14_8, w_ild8, w_gf_14_9, w_iv3, tfr_0, tfr_1, tfr_2, tfr_3, tfr_4, w_lld9, w_lld11, w_is4, w_if_gt, w_ic, w_goto, true_and, and_true, Nat.reduceAdd, Nat.reduceSub, eq_self, tshm_14, tykm_14, tci_14, tshm_667, tshm_668, tshm_669, tshm_670, tykm_33, tci_700]
    have t : ∀ (k : Nat) (i : Int), ¬ (isB k ∧ i = 60) → M2 k i = M k i := fun k i g => by rw [hM2, hM1, sLo_k g, sHi_k g]
    have v7 : M2 667 60 = M 667 a := by rw [hM2]; unfold sLo; simp (disch := decide) only [tU_nk, tU_eq]
    have v8 : M2 668 60 = M 668 a := by rw [hM2]; unfold sLo; simp (disch := decide) only [tU_nk, tU_eq]
    have v9 : M2 669 60 = M 669 b := by rw [hM2, hM1]; unfold sLo sHi; simp (disch := decide) only [tU_nk, tU_eq]
    have v0 : M2 670 60 = M 670 b := by rw [hM2, hM1]; unfold sLo sHi; simp (disch := decide) only [tU_nk, tU_eq]
    have hc : bcan M2 60 := by
      unfold bcan
      rw [v7, v8, v9, v0]
      omega
    have hP2 := MP_b hP t hc
    refine ⟨by omega, by omega, ?_⟩
    rw [v9, v0]
    refine tc_i (D := 0) (fun d' hd' => c_order (by omega) (by omega) (by omega) (by omega)) (by omega) ?_
    rintro z M3 ⟨p3, rfl⟩
    try simp only [kb_X12_joins_100, w_ist8, tkl_n, tkl_i, tkl_l, tkl_r, w_ald_0, w_gf_14_6, tw_f, w_ild7, w_la, w_lax, w_lst9, w_gf_14_7, w_lst11, w_ild_1, w_gf_14_8, w_ild8, w_gf_14_9, w_iv3, tfr_0, tfr_1, tfr_2, tfr_3, tfr_4, w_lld9, w_lld11, w_is4, w_if_gt, w_ic, w_goto, true_and, and_true, Nat.reduceAdd, Nat.reduceSub, eq_self, tshm_14, tykm_14, tci_14, tshm_667, tshm_668, tshm_669, tshm_670, tykm_33, tci_700]
    have hz : -1 ≤ z ∧ z ≤ 1 := by rw [p3]; exact cmpz_r _ _
    have hob : zlo M a ≤ zhi M b → OB M2 60 := by
      intro g
      unfold OB
      unfold zlo zhi at g o2 o3 ⊢
      rw [v7, v8, v9, v0]
      refine ⟨g, ?_⟩
      rcases ha with q | q <;> rcases hb with w | w <;> rw [q, w] <;> omega
    refine ⟨by omega, fun h => ?_, fun h => n175 _ 1 _ _ _ _ _ _ _ _ (by omega) (fun _ => hob ?_) hP2.1 hP2.2⟩
    · refine tb_X12_joins_174 (c := false) ?_
      simp only [kb_X12_joins_174, w_ic, w_nil, true_and, and_true, Nat.reduceAdd, Nat.reduceSub, eq_self]
      exact n175 _ 0 _ _ _ _ _ _ _ _ (by omega) (fun g => hob (hab (by omega))) hP2.1 hP2.2
    · unfold zlo zhi
      unfold cmpz at p3
      split at p3 <;> (try split at p3) <;> omega
  have n86 : ∀ (a l6 : Int) (w5 : Option tV), (a = x2 ∨ a = x3) → (x4 = 0 → zlo M a ≤ zlo M x2 ∧ zlo M a ≤ zlo M x3) → (l6 = 0 ∨ l6 = 1) → tT e d 3640 86 [some (.inr (.inr (.inl 664))), some (.inl 60), some (.inl x2), some (.inl x3), some (.inl x4), w5, some (.inl l6), none, none, none, none, none, none] [.inl a] M n (tQi n (fun z M' => (z = 0 ∨ z = 1) ∧ (z = 1 ∨ x4 = 0 → OB M' 60) ∧ MP M' D ∧ ME M M')) := by
    intro a l6 w5 ha hab hl
    refine tb_X12_joins_86 (c := false) ?_
    simp only [kb_X12_joins_86, w_ist7, tkl_n, tkl_i, tkl_l, tkl_r, w_ild6, w_ild4, w_ic_eq, w_ild_2, w_goto, true_and, and_true, Nat.reduceAdd, Nat.reduceSub, eq_self]
    refine ⟨by omega, fun h => ?_, fun h => n100 a x2 _ _ ha (Or.inl rfl) (fun g => by have := hab g; omega)⟩
    refine tb_X12_joins_99 (c := false) ?_
    simp only [kb_X12_joins_99, w_ild_3, w_nil, true_and, and_true, Nat.reduceAdd, Nat.reduceSub, eq_self]
    exact n100 a x3 _ _ ha (Or.inr rfl) (fun g => by have := hab g; omega)
  have n72 : ∀ (l5 l6 : Int), (l5 = 1 ∧ zlo M x2 < zlo M x3 ∨ l5 = 0 ∧ zlo M x3 ≤ zlo M x2) → (l6 = 0 ∨ l6 = 1) → tT e d 3640 72 [some (.inr (.inr (.inl 664))), some (.inl 60), some (.inl x2), some (.inl x3), some (.inl x4), some (.inl l5), none, none, none, none, none, none, none] [.inl l6] M n (tQi n (fun z M' => (z = 0 ∨ z = 1) ∧ (z = 1 ∨ x4 = 0 → OB M' 60) ∧ MP M' D ∧ ME M M')) := by
    intro l5 l6 h5 h6
    refine tb_X12_joins_72 (c := false) ?_
    simp only [kb_X12_joins_72, w_ist6, tkl_n, tkl_i, tkl_l, tkl_r, w_ild5, w_ild4, w_ic_eq, w_ild_2, w_goto, true_and, and_true, Nat.reduceAdd, Nat.reduceSub, eq_self]
    refine ⟨by omega, fun h => ?_, fun h => n86 x2 l6 _ (Or.inl rfl) (fun g => by omega) h6⟩
    refine tb_X12_joins_85 (c := false) ?_
    simp only [kb_X12_joins_85, w_ild_3, w_nil, true_and, and_true, Nat.reduceAdd, Nat.reduceSub, eq_self]
    exact n86 x3 l6 _ (Or.inr rfl) (fun g => by omega) h6
  have n35 : ∀ l5 : Int, (l5 = 1 ∧ zlo M x2 < zlo M x3 ∨ l5 = 0 ∧ zlo M x3 ≤ zlo M x2) → tT e d 3640 35 [some (.inr (.inr (.inl 664))), some (.inl 60), some (.inl x2), some (.inl x3), some (.inl x4), none, none, none, none, none, none, none, none] [.inl l5] M n (tQi n (fun z M' => (z = 0 ∨ z = 1) ∧ (z = 1 ∨ x4 = 0 → OB M' 60) ∧ MP M' D ∧ ME M M')) := by
    intro l5 h5
    refine tb_X12_joins_35 (c := false) ?_
    simp only [kb_X12_joins_35, w_ist5, tkl_n, tkl_i, tkl_l, tkl_r, w_ald_0, w_gf_14_8, tw_f, w_ild_2, w_la, w_lax, w_gf_14_9, w_ild_3, w_is4, tfr_0, tfr_1, tfr_2, tfr_3, tfr_4, w_if_le, w_ic, w_goto, true_and, and_true, Nat.reduceAdd, Nat.reduceSub, eq_self, tshm_14, tykm_14, tci_14, tshm_667, tshm_668, tshm_669, tshm_670, tykm_33, tci_700]
    refine ⟨by omega, by omega, by omega, by omega, ?_⟩
    refine tc_i (D := 0) (fun d' hd' => c_order (by omega) (by omega) (by omega) (by omega)) (by omega) ?_
    rintro z M3 ⟨p3, rfl⟩
    try simp only [kb_X12_joins_35, w_ist5, tkl_n, tkl_i, tkl_l, tkl_r, w_ald_0, w_gf_14_8, tw_f, w_ild_2, w_la, w_lax, w_gf_14_9, w_ild_3, w_is4, tfr_0, tfr_1, tfr_2, tfr_3, tfr_4, w_if_le, w_ic, w_goto, true_and, and_true, Nat.reduceAdd, Nat.reduceSub, eq_self, tshm_14, tykm_14, tci_14, tshm_667, tshm_668, tshm_669, tshm_670, tykm_33, tci_700]
    have hz : -1 ≤ z ∧ z ≤ 1 := by rw [p3]; exact cmpz_r _ _
    refine ⟨by omega, fun h => ?_, fun h => n72 l5 1 h5 (Or.inr rfl)⟩
    refine tb_X12_joins_71 (c := false) ?_
    simp only [kb_X12_joins_71, w_ic, w_nil, true_and, and_true, Nat.reduceAdd, Nat.reduceSub, eq_self]
    exact n72 l5 0 h5 (Or.inl rfl)
  refine tb_X12_joins_0 (c := false) ?_
  simp only [kb_X12_joins_0, w_ald_0, w_gf_14_6, tw_f, w_ild_2, w_la, w_lax, w_gf_14_7, w_ild_3, w_is4, tfr_0, tfr_1, tfr_2, tfr_3, tfr_4, w_if_ge, w_ic, w_goto, true_and, and_true, Nat.reduceAdd, Nat.reduceSub, eq_self, tshm_14, tykm_14, tci_14, tshm_667, tshm_668, tshm_669, tshm_670, tykm_33, tci_700]
  refine ⟨by omega, by omega, by omega, by omega, ?_⟩
  refine tc_i (D := 0) (fun d' hd' => c_order (by omega) (by omega) (by omega) (by omega)) (by omega) ?_
  rintro z M3 ⟨p3, rfl⟩
  try simp only [kb_X12_joins_0, w_ald_0, w_gf_14_6, tw_f, w_ild_2, w_la, w_lax, w_gf_14_7, w_ild_3, w_is4, tfr_0, tfr_1, tfr_2, tfr_3, tfr_4, w_if_ge, w_ic, w_goto, true_and, and_true, Nat.reduceAdd, Nat.reduceSub, eq_self, tshm_14, tykm_14, tci_14, tshm_667, tshm_668, tshm_669, tshm_670, tykm_33, tci_700]
  have hz : -1 ≤ z ∧ z ≤ 1 := by rw [p3]; exact cmpz_r _ _
  have hz2 : (z < 0 → zlo M x2 < zlo M x3) ∧ (0 ≤ z → zlo M x3 ≤ zlo M x2) := by
    unfold zlo
    unfold cmpz at p3
    split at p3 <;> (try split at p3) <;> omega
  refine ⟨by omega, fun h => ?_, fun h => n35 1 (Or.inl ⟨rfl, hz2.1 (by omega)⟩)⟩
  refine tb_X12_joins_34 (c := false) ?_
  simp only [kb_X12_joins_34, w_ic, w_nil, true_and, and_true, Nat.reduceAdd, Nat.reduceSub, eq_self]
  exact n35 0 (Or.inr ⟨rfl, hz2.2 h⟩)
end MODEL
