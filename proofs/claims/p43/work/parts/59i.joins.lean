/-! THE MODEL: boxes joined, halved, moved outward; ends; crossed products. -/

section MODEL
variable {e : tE} {d n D : Nat} {M : tM}
theorem o_joinsg {x2 x3 x4 to : Int} (hB : BI M) (ht : 0 ≤ to ∧ to < 700) (h2 : 0 ≤ x2 ∧ x2 < 700) (h3 : 0 ≤ x3 ∧ x3 < 700) (o2 : OB M x2) (o3 : OB M x3) (h4 : x4 = 0 ∨ x4 = 1) (hd : 2 ≤ d) : tC e d 3640 [.inr (.inr (.inl 664)), .inl to, .inl x2, .inl x3, .inl x4] M n (tQi n (fun z M' => (z = 0 ∨ z = 1) ∧ (z = 1 ∨ x4 = 0 → OB M' to) ∧ xE (fun r => r = to) M M')) := by
  refine tst_X12_joins ?_
  have c2 := hB x2 (by omega) (by omega)
  have c3 := hB x3 (by omega) (by omega)
  unfold bcan at c2 c3
  unfold OB at o2 o3
  have n175 : ∀ (M1 : tM) (z : Int) (w5 w6 w7 w8 w9 w10 w11 w12 : Option tV), (z = 0 ∨ z = 1) → (z = 1 ∨ x4 = 0 → OB M1 to) → xE (fun r => r = to) M M1 → tT e d 3640 175 [some (.inr (.inr (.inl 664))), some (.inl to), some (.inl x2), some (.inl x3), some (.inl x4), w5, w6, w7, w8, w9, w10, w11, w12] [.inl z] M1 n (tQi n (fun z M' => (z = 0 ∨ z = 1) ∧ (z = 1 ∨ x4 = 0 → OB M' to) ∧ xE (fun r => r = to) M M')) := by
    intro M1 z w5 w6 w7 w8 w9 w10 w11 w12 q1 q2 q3
    refine tb_X12_joins_175 (c := false) ?_
    simp only [kb_X12_joins_175, w_ire, trg, true_and, and_true, Nat.reduceAdd, Nat.reduceSub, eq_self]
    exact ⟨by omega, z, rfl, rfl, q1, q2, q3⟩
  have n100 : ∀ (a b : Int) (w5 w6 : Option tV), (a = x2 ∨ a = x3) → (b = x2 ∨ b = x3) → (x4 = 0 → zlo M a ≤ zhi M b) → tT e d 3640 100 [some (.inr (.inr (.inl 664))), some (.inl to), some (.inl x2), some (.inl x3), some (.inl x4), w5, w6, some (.inl a), none, none, none, none, none] [.inl b] M n (tQi n (fun z M' => (z = 0 ∨ z = 1) ∧ (z = 1 ∨ x4 = 0 → OB M' to) ∧ xE (fun r => r = to) M M')) := by
    intro a b w5 w6 ha hb hab
    have ca := hB a (by omega) (by omega)
    have cb := hB b (by omega) (by omega)
    unfold bcan at ca cb
    refine tb_X12_joins_100 (c := false) ?_
    simp only [kb_X12_joins_100, w_ist8, tkl_n, tkl_i, tkl_l, tkl_r, w_ald_0, w_gf_14_6, tw_f, w_ild7, w_la, w_lax, w_lst9, w_gf_14_7, w_lst11, w_ild_1, w_gf_14_8, w_ild8, w_gf_14_9, w_iv3, tfr_0, tfr_1, tfr_2, tfr_3, tfr_4, w_lld9, w_lld11, w_is4, w_if_gt, w_ic, w_goto, true_and, and_true, Nat.reduceAdd, Nat.reduceSub, eq_self, tshm_14, tshm_31, tshm_32, tykm_31, tykm_32, tci_15, tci_960, tykm_14, tci_14, tshm_667, tshm_668, tshm_669, tshm_670, tykm_33, tci_700, tsn_671, tyn_17, tcn_10, tzs_672, tzs_673, tzs_680, tzs_681, tzs_682, tzs_683, tzs_684, tzs_685, tzs_686, tzs_687, tzs_688, tzs_689, tzy_15, tzy_35, tzy_36, tzy_37, tzy_38, tzy_39, tzy_40, tzc_60, tzc_320, tzc_5, tzc_4, tzc_8]
    refine ⟨by omega, by omega, by omega, by omega, ?_⟩
    refine tc_n (D := 0) (fun d' hd' => c_high (by omega)) (by omega) ?_
    intro M1 hM1
    try simp only [kb_X12_joins_100, w_ist8, tkl_n, tkl_i, tkl_l, tkl_r, w_ald_0, w_gf_14_6, tw_f, w_ild7, w_la, w_lax, w_lst9, w_gf_14_7, w_lst11, w_ild_1, w_gf_14_8, w_ild8, w_gf_14_9, w_iv3, tfr_0, tfr_1, tfr_2, tfr_3, tfr_4, w_lld9, w_lld11, w_is4, w_if_gt, w_ic, w_goto, true_and, and_true, Nat.reduceAdd, Nat.reduceSub, eq_self, tshm_14, tshm_31, tshm_32, tykm_31, tykm_32, tci_15, tci_960, tykm_14, tci_14, tshm_667, tshm_668, tshm_669, tshm_670, tykm_33, tci_700, tsn_671, tyn_17, tcn_10, tzs_672, tzs_673, tzs_680, tzs_681, tzs_682, tzs_683, tzs_684, tzs_685, tzs_686, tzs_687, tzs_688, tzs_689, tzy_15, tzy_35, tzy_36, tzy_37, tzy_38, tzy_39, tzy_40, tzc_60, tzc_320, tzc_5, tzc_4, tzc_8]
    refine tc_n (D := 0) (fun d' hd' => c_low (by omega)) (by omega) ?_
    intro M2 hM2
    try simp only [kb_X12_joins_100, w_ist8, tkl_n, tkl_i, tkl_l, tkl_r, w_ald_0, w_gf_14_6, tw_f, w_ild7, w_la, w_lax, w_lst9, w_gf_14_7, w_lst11, w_ild_1, w_gf_14_8, w_ild8, w_gf_14_9, w_iv3, tfr_0, tfr_1, tfr_2, tfr_3, tfr_4, w_lld9, w_lld11, w_is4, w_if_gt, w_ic, w_goto, true_and, and_true, Nat.reduceAdd, Nat.reduceSub, eq_self, tshm_14, tshm_31, tshm_32, tykm_31, tykm_32, tci_15, tci_960, tykm_14, tci_14, tshm_667, tshm_668, tshm_669, tshm_670, tykm_33, tci_700, tsn_671, tyn_17, tcn_10, tzs_672, tzs_673, tzs_680, tzs_681, tzs_682, tzs_683, tzs_684, tzs_685, tzs_686, tzs_687, tzs_688, tzs_689, tzy_15, tzy_35, tzy_36, tzy_37, tzy_38, tzy_39, tzy_40, tzc_60, tzc_320, tzc_5, tzc_4, tzc_8]
    have t : ∀ (k : Nat) (i : Int), ¬ (isB k ∧ i = to) → M2 k i = M k i := fun k i g => by rw [hM2, hM1, sLo_k g, sHi_k g]
    have v7 : M2 667 to = M 667 a := by rw [hM2]; unfold sLo; simp (disch := decide) only [tU_nk, tU_eq]
    have v8 : M2 668 to = M 668 a := by rw [hM2]; unfold sLo; simp (disch := decide) only [tU_nk, tU_eq]
    have v9 : M2 669 to = M 669 b := by rw [hM2, hM1]; unfold sLo sHi; simp (disch := decide) only [tU_nk, tU_eq]
    have v0 : M2 670 to = M 670 b := by rw [hM2, hM1]; unfold sLo sHi; simp (disch := decide) only [tU_nk, tU_eq]
    have hc : bcan M2 to := by
      unfold bcan
      rw [v7, v8, v9, v0]
      omega
    have hP2 : xE (fun r => r = to) M M2 := by
      rw [hM2, hM1]
      exact xE_tr (sHi_xE rfl (by omega) (by omega)) (sLo_xE rfl (by omega) (by omega))
    refine ⟨by omega, by omega, ?_⟩
    rw [v9, v0]
    refine tc_i (D := 0) (fun d' hd' => c_order (by omega) (by omega) (by omega) (by omega)) (by omega) ?_
    rintro z M3 ⟨p3, rfl⟩
    try simp only [kb_X12_joins_100, w_ist8, tkl_n, tkl_i, tkl_l, tkl_r, w_ald_0, w_gf_14_6, tw_f, w_ild7, w_la, w_lax, w_lst9, w_gf_14_7, w_lst11, w_ild_1, w_gf_14_8, w_ild8, w_gf_14_9, w_iv3, tfr_0, tfr_1, tfr_2, tfr_3, tfr_4, w_lld9, w_lld11, w_is4, w_if_gt, w_ic, w_goto, true_and, and_true, Nat.reduceAdd, Nat.reduceSub, eq_self, tshm_14, tshm_31, tshm_32, tykm_31, tykm_32, tci_15, tci_960, tykm_14, tci_14, tshm_667, tshm_668, tshm_669, tshm_670, tykm_33, tci_700, tsn_671, tyn_17, tcn_10, tzs_672, tzs_673, tzs_680, tzs_681, tzs_682, tzs_683, tzs_684, tzs_685, tzs_686, tzs_687, tzs_688, tzs_689, tzy_15, tzy_35, tzy_36, tzy_37, tzy_38, tzy_39, tzy_40, tzc_60, tzc_320, tzc_5, tzc_4, tzc_8]
    have hz : -1 ≤ z ∧ z ≤ 1 := by rw [p3]; exact cmpz_r _ _
    have hob : zlo M a ≤ zhi M b → OB M2 to := by
      intro g
      unfold OB
      unfold zlo zhi at g o2 o3 ⊢
      rw [v7, v8, v9, v0]
      refine ⟨g, ?_⟩
      rcases ha with q | q <;> rcases hb with w | w <;> rw [q, w] <;> omega
    refine ⟨by omega, fun h => ?_, fun h => n175 _ 1 _ _ _ _ _ _ _ _ (by omega) (fun _ => hob ?_) hP2⟩
    · refine tb_X12_joins_174 (c := false) ?_
      simp only [kb_X12_joins_174, w_ic, w_nil, true_and, and_true, Nat.reduceAdd, Nat.reduceSub, eq_self]
      exact n175 _ 0 _ _ _ _ _ _ _ _ (by omega) (fun g => hob (hab (by omega))) hP2
    · unfold zlo zhi
      unfold cmpz at p3
      split at p3 <;> (try split at p3) <;> omega
  have n86 : ∀ (a l6 : Int) (w5 : Option tV), (a = x2 ∨ a = x3) → (x4 = 0 → zlo M a ≤ zlo M x2 ∧ zlo M a ≤ zlo M x3) → (l6 = 0 ∨ l6 = 1) → tT e d 3640 86 [some (.inr (.inr (.inl 664))), some (.inl to), some (.inl x2), some (.inl x3), some (.inl x4), w5, some (.inl l6), none, none, none, none, none, none] [.inl a] M n (tQi n (fun z M' => (z = 0 ∨ z = 1) ∧ (z = 1 ∨ x4 = 0 → OB M' to) ∧ xE (fun r => r = to) M M')) := by
    intro a l6 w5 ha hab hl
    refine tb_X12_joins_86 (c := false) ?_
    simp only [kb_X12_joins_86, w_ist7, tkl_n, tkl_i, tkl_l, tkl_r, w_ild6, w_ild4, w_ic_eq, w_ild_2, w_goto, true_and, and_true, Nat.reduceAdd, Nat.reduceSub, eq_self]
    refine ⟨by omega, fun h => ?_, fun h => n100 a x2 _ _ ha (Or.inl rfl) (fun g => by have := hab g; omega)⟩
    refine tb_X12_joins_99 (c := false) ?_
    simp only [kb_X12_joins_99, w_ild_3, w_nil, true_and, and_true, Nat.reduceAdd, Nat.reduceSub, eq_self]
    exact n100 a x3 _ _ ha (Or.inr rfl) (fun g => by have := hab g; omega)
  have n72 : ∀ (l5 l6 : Int), (l5 = 1 ∧ zlo M x2 < zlo M x3 ∨ l5 = 0 ∧ zlo M x3 ≤ zlo M x2) → (l6 = 0 ∨ l6 = 1) → tT e d 3640 72 [some (.inr (.inr (.inl 664))), some (.inl to), some (.inl x2), some (.inl x3), some (.inl x4), some (.inl l5), none, none, none, none, none, none, none] [.inl l6] M n (tQi n (fun z M' => (z = 0 ∨ z = 1) ∧ (z = 1 ∨ x4 = 0 → OB M' to) ∧ xE (fun r => r = to) M M')) := by
    intro l5 l6 h5 h6
    refine tb_X12_joins_72 (c := false) ?_
    simp only [kb_X12_joins_72, w_ist6, tkl_n, tkl_i, tkl_l, tkl_r, w_ild5, w_ild4, w_ic_eq, w_ild_2, w_goto, true_and, and_true, Nat.reduceAdd, Nat.reduceSub, eq_self]
    refine ⟨by omega, fun h => ?_, fun h => n86 x2 l6 _ (Or.inl rfl) (fun g => by omega) h6⟩
    refine tb_X12_joins_85 (c := false) ?_
    simp only [kb_X12_joins_85, w_ild_3, w_nil, true_and, and_true, Nat.reduceAdd, Nat.reduceSub, eq_self]
    exact n86 x3 l6 _ (Or.inr rfl) (fun g => by omega) h6
  have n35 : ∀ l5 : Int, (l5 = 1 ∧ zlo M x2 < zlo M x3 ∨ l5 = 0 ∧ zlo M x3 ≤ zlo M x2) → tT e d 3640 35 [some (.inr (.inr (.inl 664))), some (.inl to), some (.inl x2), some (.inl x3), some (.inl x4), none, none, none, none, none, none, none, none] [.inl l5] M n (tQi n (fun z M' => (z = 0 ∨ z = 1) ∧ (z = 1 ∨ x4 = 0 → OB M' to) ∧ xE (fun r => r = to) M M')) := by
    intro l5 h5
    refine tb_X12_joins_35 (c := false) ?_
    simp only [kb_X12_joins_35, w_ist5, tkl_n, tkl_i, tkl_l, tkl_r, w_ald_0, w_gf_14_8, tw_f, w_ild_2, w_la, w_lax, w_gf_14_9, w_ild_3, w_is4, tfr_0, tfr_1, tfr_2, tfr_3, tfr_4, w_if_le, w_ic, w_goto, true_and, and_true, Nat.reduceAdd, Nat.reduceSub, eq_self, tshm_14, tshm_31, tshm_32, tykm_31, tykm_32, tci_15, tci_960, tykm_14, tci_14, tshm_667, tshm_668, tshm_669, tshm_670, tykm_33, tci_700, tsn_671, tyn_17, tcn_10, tzs_672, tzs_673, tzs_680, tzs_681, tzs_682, tzs_683, tzs_684, tzs_685, tzs_686, tzs_687, tzs_688, tzs_689, tzy_15, tzy_35, tzy_36, tzy_37, tzy_38, tzy_39, tzy_40, tzc_60, tzc_320, tzc_5, tzc_4, tzc_8]
    refine ⟨by omega, by omega, by omega, by omega, ?_⟩
    refine tc_i (D := 0) (fun d' hd' => c_order (by omega) (by omega) (by omega) (by omega)) (by omega) ?_
    rintro z M3 ⟨p3, rfl⟩
    try simp only [kb_X12_joins_35, w_ist5, tkl_n, tkl_i, tkl_l, tkl_r, w_ald_0, w_gf_14_8, tw_f, w_ild_2, w_la, w_lax, w_gf_14_9, w_ild_3, w_is4, tfr_0, tfr_1, tfr_2, tfr_3, tfr_4, w_if_le, w_ic, w_goto, true_and, and_true, Nat.reduceAdd, Nat.reduceSub, eq_self, tshm_14, tshm_31, tshm_32, tykm_31, tykm_32, tci_15, tci_960, tykm_14, tci_14, tshm_667, tshm_668, tshm_669, tshm_670, tykm_33, tci_700, tsn_671, tyn_17, tcn_10, tzs_672, tzs_673, tzs_680, tzs_681, tzs_682, tzs_683, tzs_684, tzs_685, tzs_686, tzs_687, tzs_688, tzs_689, tzy_15, tzy_35, tzy_36, tzy_37, tzy_38, tzy_39, tzy_40, tzc_60, tzc_320, tzc_5, tzc_4, tzc_8]
    have hz : -1 ≤ z ∧ z ≤ 1 := by rw [p3]; exact cmpz_r _ _
    refine ⟨by omega, fun h => ?_, fun h => n72 l5 1 h5 (Or.inr rfl)⟩
    refine tb_X12_joins_71 (c := false) ?_
    simp only [kb_X12_joins_71, w_ic, w_nil, true_and, and_true, Nat.reduceAdd, Nat.reduceSub, eq_self]
    exact n72 l5 0 h5 (Or.inl rfl)
  refine tb_X12_joins_0 (c := false) ?_
  simp only [kb_X12_joins_0, w_ald_0, w_gf_14_6, tw_f, w_ild_2, w_la, w_lax, w_gf_14_7, w_ild_3, w_is4, tfr_0, tfr_1, tfr_2, tfr_3, tfr_4, w_if_ge, w_ic, w_goto, true_and, and_true, Nat.reduceAdd, Nat.reduceSub, eq_self, tshm_14, tshm_31, tshm_32, tykm_31, tykm_32, tci_15, tci_960, tykm_14, tci_14, tshm_667, tshm_668, tshm_669, tshm_670, tykm_33, tci_700, tsn_671, tyn_17, tcn_10, tzs_672, tzs_673, tzs_680, tzs_681, tzs_682, tzs_683, tzs_684, tzs_685, tzs_686, tzs_687, tzs_688, tzs_689, tzy_15, tzy_35, tzy_36, tzy_37, tzy_38, tzy_39, tzy_40, tzc_60, tzc_320, tzc_5, tzc_4, tzc_8]
  refine ⟨by omega, by omega, by omega, by omega, ?_⟩
  refine tc_i (D := 0) (fun d' hd' => c_order (by omega) (by omega) (by omega) (by omega)) (by omega) ?_
  rintro z M3 ⟨p3, rfl⟩
  try simp only [kb_X12_joins_0, w_ald_0, w_gf_14_6, tw_f, w_ild_2, w_la, w_lax, w_gf_14_7, w_ild_3, w_is4, tfr_0, tfr_1, tfr_2, tfr_3, tfr_4, w_if_ge, w_ic, w_goto, true_and, and_true, Nat.reduceAdd, Nat.reduceSub, eq_self, tshm_14, tshm_31, tshm_32, tykm_31, tykm_32, tci_15, tci_960, tykm_14, tci_14, tshm_667, tshm_668, tshm_669, tshm_670, tykm_33, tci_700, tsn_671, tyn_17, tcn_10, tzs_672, tzs_673, tzs_680, tzs_681, tzs_682, tzs_683, tzs_684, tzs_685, tzs_686, tzs_687, tzs_688, tzs_689, tzy_15, tzy_35, tzy_36, tzy_37, tzy_38, tzy_39, tzy_40, tzc_60, tzc_320, tzc_5, tzc_4, tzc_8]
  have hz : -1 ≤ z ∧ z ≤ 1 := by rw [p3]; exact cmpz_r _ _
  have hz2 : (z < 0 → zlo M x2 < zlo M x3) ∧ (0 ≤ z → zlo M x3 ≤ zlo M x2) := by
    unfold zlo
    unfold cmpz at p3
    split at p3 <;> (try split at p3) <;> omega
  refine ⟨by omega, fun h => ?_, fun h => n35 1 (Or.inl ⟨rfl, hz2.1 (by omega)⟩)⟩
  refine tb_X12_joins_34 (c := false) ?_
  simp only [kb_X12_joins_34, w_ic, w_nil, true_and, and_true, Nat.reduceAdd, Nat.reduceSub, eq_self]
  exact n35 0 (Or.inr ⟨rfl, hz2.2 h⟩)
end MODEL
