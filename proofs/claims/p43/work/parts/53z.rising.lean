/-! THE MODEL: rising functions of boxes, whole. -/
section MODEL
variable {e : tE} {d n : Nat} {M : tM}
theorem c_rising {to a c : Int} {D : Nat} (hK : KI M) (hdg : M 664 2 = (D : Int)) (hD : D ≤ 10) (ht : 0 ≤ to ∧ to < 700) (ha : 0 ≤ a ∧ a < 700) (hca : bcan M a) (hle : zlo M a ≤ zhi M a) (hc : 0 ≤ c ∧ c < 65536) (hd : 7 ≤ d) :
    tC e d 3693 [.inr (.inr (.inl 664)), .inl to, .inl a, .inl c] M n (tQi n (fun z M' => res z M' to (fnb c 0 D (zlo M a)) (fnb c 1 D (zhi M a)) ∧ (z = 0 → c = 108 → 0 < zlo M a) ∧ xE (fun r => r = to) M M')) := by
  have hca0 := hca
  obtain ⟨⟨h1, h2⟩, h3, h4⟩ := hca
  have hza : zlo M a = M 667 a * 1000000000 + M 668 a := rfl
  have hzb : zhi M a = M 669 a * 1000000000 + M 670 a := rfl
  refine tst_X12_rising ?_
  have n16 : (c = 108 → 0 < zlo M a) → tT e d 3693 16 [some (.inr (.inr (.inl 664))), some (.inl to), some (.inl a), some (.inl c), none, none, none, none] [] M n (tQi n (fun z M' => res z M' to (fnb c 0 D (zlo M a)) (fnb c 1 D (zhi M a)) ∧ (z = 0 → c = 108 → 0 < zlo M a) ∧ xE (fun r => r = to) M M')) := by
    intro hp
    refine tb_X12_rising_16 (c := false) ?_
    simp only [kb_X12_rising_16, w_ald_0, w_ild_3, w_gf_14_6, tw_f, w_ild_2, w_la, w_lax, w_gf_14_7, w_ic, w_iv4, tfr_0, tfr_1, tfr_2, tfr_3, tfr_4, w_if_ne, w_ire, trg, true_and, and_true, Nat.reduceAdd, Nat.reduceSub, eq_self, tshm_14, tshm_31, tshm_32, tykm_31, tykm_32, tykm_14, tci_14, tci_15, tci_960, tshm_667, tshm_668, tshm_669, tshm_670, tykm_33, tci_700]
    refine ⟨by omega, by omega, ?_⟩
    rw [hza] at hp hle ⊢
    rw [hzb] at hle ⊢
    refine tc_i (D := 6) (fun d' hd' => c_rises (up := 0) hK hdg hD hc h1 h3 hp (Or.inl rfl) hd') (by omega) ?_
    rintro z1 M1 ⟨p1, p2⟩
    have g7 : M1 669 a = M 669 a := p2.1.1 669 a (by decide) (by decide) (by omega)
    have g8 : M1 670 a = M 670 a := p2.1.1 670 a (by decide) (by decide) (by omega)
    have hdg1 := (qE_d p2).trans hdg
    try simp only [kb_X12_rising_16, w_ald_0, w_ild_3, w_gf_14_6, tw_f, w_ild_2, w_la, w_lax, w_gf_14_7, w_ic, w_iv4, tfr_0, tfr_1, tfr_2, tfr_3, tfr_4, w_if_ne, w_ire, trg, true_and, and_true, Nat.reduceAdd, Nat.reduceSub, eq_self, tshm_14, tshm_31, tshm_32, tykm_31, tykm_32, tykm_14, tci_14, tci_15, tci_960, tshm_667, tshm_668, tshm_669, tshm_670, tykm_33, tci_700]
    refine ⟨by omega, fun h => ?_, fun h => ⟨_, rfl, rfl, res_2, fun q => absurd q (by decide), qE_xE p2⟩⟩
    obtain ⟨p3, p4, p5, p6⟩ : z1 = 1 ∧ _ ∧ _ ∧ _ := by
      rcases p1 with q | q
      · exact q
      · exact absurd q h
    have q6 := p6.1
    unfold zb at p4
    refine tb_X12_rising_39 (c := false) ?_
    simp only [kb_X12_rising_39, w_ald_0, w_gf_14_4, tw_f, w_lst4, tkl_n, tkl_i, tkl_l, tkl_r, w_gf_14_5, w_lst6, w_ild_3, w_gf_14_8, w_ild_2, w_la, w_lax, w_gf_14_9, w_ic, w_iv4, tfr_0, tfr_1, tfr_2, tfr_3, tfr_4, w_if_ne, w_ire, trg, true_and, and_true, Nat.reduceAdd, Nat.reduceSub, eq_self, tshm_14, tshm_31, tshm_32, tykm_31, tykm_32, tykm_14, tci_14, tci_15, tci_960, tshm_667, tshm_668, tshm_669, tshm_670, tykm_33, tci_700, g7, g8]
    refine ⟨by omega, by omega, ?_⟩
    refine tc_i (D := 6) (fun d' hd' => c_rises (u := M 669 a) (l := M 670 a) (up := 1) (p2.2.1 hK) hdg1 hD hc h2 h4 (fun q => by have := hp q; omega) (Or.inr rfl) hd') (by omega) ?_
    rintro z2 M2 ⟨s1, s2⟩
    try simp only [kb_X12_rising_39, w_ald_0, w_gf_14_4, tw_f, w_lst4, tkl_n, tkl_i, tkl_l, tkl_r, w_gf_14_5, w_lst6, w_ild_3, w_gf_14_8, w_ild_2, w_la, w_lax, w_gf_14_9, w_ic, w_iv4, tfr_0, tfr_1, tfr_2, tfr_3, tfr_4, w_if_ne, w_ire, trg, true_and, and_true, Nat.reduceAdd, Nat.reduceSub, eq_self, tshm_14, tshm_31, tshm_32, tykm_31, tykm_32, tykm_14, tci_14, tci_15, tci_960, tshm_667, tshm_668, tshm_669, tshm_670, tykm_33, tci_700]
    refine ⟨by omega, fun h => ?_, fun h => ⟨_, rfl, rfl, res_2, fun q => absurd q (by decide), qE_xE (qE_tr p2 s2)⟩⟩
    obtain ⟨s3, s4, s5, s6⟩ : z2 = 1 ∧ _ ∧ _ ∧ _ := by
      rcases s1 with q | q
      · exact q
      · exact absurd q h
    have u6 := s6.1
    unfold zb at s4
    refine tb_X12_rising_74 (c := false) ?_
    simp only [kb_X12_rising_74, w_ald_0, w_ild_1, w_lld4, w_lld6, w_iv3, tfr_0, tfr_1, tfr_2, tfr_3, tfr_4, w_gf_14_4, tw_f, w_gf_14_5, w_ic, w_ire, trg, true_and, and_true, Nat.reduceAdd, Nat.reduceSub, eq_self, tshm_14, tshm_31, tshm_32, tykm_31, tykm_32, tykm_14, tci_14, tci_15, tci_960, tshm_667, tshm_668, tshm_669, tshm_670, tykm_33, tci_700]
    refine tc_n (D := 0) (fun d' _ => c_low ht) (by omega) ?_
    rintro _ rfl
    have k4 : sLo M2 to (M1 664 4) (M1 664 5) 664 4 = M2 664 4 := sLo_k (fun q => absurd q.1 (by unfold isB; decide))
    have k5 : sLo M2 to (M1 664 4) (M1 664 5) 664 5 = M2 664 5 := sLo_k (fun q => absurd q.1 (by unfold isB; decide))
    try simp only [kb_X12_rising_74, w_ald_0, w_ild_1, w_lld4, w_lld6, w_iv3, tfr_0, tfr_1, tfr_2, tfr_3, tfr_4, w_gf_14_4, tw_f, w_gf_14_5, w_ic, w_ire, trg, true_and, and_true, Nat.reduceAdd, Nat.reduceSub, eq_self, tshm_14, tshm_31, tshm_32, tykm_31, tykm_32, tykm_14, tci_14, tci_15, tci_960, tshm_667, tshm_668, tshm_669, tshm_670, tykm_33, tci_700, k4, k5]
    refine tc_n (D := 0) (fun d' _ => c_high ht) (by omega) ?_
    rintro _ rfl
    try simp only [kb_X12_rising_74, w_ald_0, w_ild_1, w_lld4, w_lld6, w_iv3, tfr_0, tfr_1, tfr_2, tfr_3, tfr_4, w_gf_14_4, tw_f, w_gf_14_5, w_ic, w_ire, trg, true_and, and_true, Nat.reduceAdd, Nat.reduceSub, eq_self, tshm_14, tshm_31, tshm_32, tykm_31, tykm_32, tykm_14, tci_14, tci_15, tci_960, tshm_667, tshm_668, tshm_669, tshm_670, tykm_33, tci_700]
    refine ⟨_, rfl, rfl, res_0 ?_ ?_ (by omega), fun _ => hp, xE_tr (qE_xE (qE_tr p2 s2)) (xE_tr (sLo_xE rfl q6 (by omega)) (sHi_xE rfl u6 (by omega)))⟩
    · rw [sHi_lo, sLo_lo]
      exact p4
    · rw [sHi_hi]
      exact s4
  refine tb_X12_rising_0 (c := false) ?_
  simp only [kb_X12_rising_0, w_ild_3, w_bi, w_ic_ne, w_ald_0, w_ild_2, w_iv1, tfr_0, tfr_1, tfr_2, tfr_3, tfr_4, w_if_ne, w_ic, w_ire, trg, true_and, and_true, Nat.reduceAdd, Nat.reduceSub, eq_self, tshm_14, tshm_31, tshm_32, tykm_31, tykm_32, tykm_14, tci_14, tci_15, tci_960, tshm_667, tshm_668, tshm_669, tshm_670, tykm_33, tci_700]
  refine ⟨by omega, fun h => n16 (fun q => absurd q h), fun h => ?_⟩
  refine tc_i (D := 0) (fun d' _ => c_isAbove0 ha hca0) (by omega) ?_
  rintro z _ ⟨hz, rfl⟩
  try simp only [kb_X12_rising_0, w_ild_3, w_bi, w_ic_ne, w_ald_0, w_ild_2, w_iv1, tfr_0, tfr_1, tfr_2, tfr_3, tfr_4, w_if_ne, w_ic, w_ire, trg, true_and, and_true, Nat.reduceAdd, Nat.reduceSub, eq_self, tshm_14, tshm_31, tshm_32, tykm_31, tykm_32, tykm_14, tci_14, tci_15, tci_960, tshm_667, tshm_668, tshm_669, tshm_670, tykm_33, tci_700]
  exact ⟨by omega, fun h => n16 (fun _ => by omega), fun h => ⟨_, rfl, rfl, res_1, fun q => absurd q (by decide), xE_refl⟩⟩
end MODEL
