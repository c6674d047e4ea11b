/-! THE MODEL: sums, differences, negatives, sizes. -/
/-- what an act has come to: a box, or 1 or 2 -/
def res (z : Int) (M' : tM) (to lo hi : Int) : Prop := (z = 0 ∨ z = 1 ∨ z = 2) ∧ (z = 0 → zlo M' to = lo ∧ zhi M' to = hi) ∧ (z = 0 → -10000000000000000000000 ≤ lo ∧ hi ≤ 10000000000000000000000)
theorem res_2 {M' : tM} {to lo hi : Int} : res 2 M' to lo hi := ⟨Or.inr (Or.inr rfl), fun q => absurd q (by decide), fun q => absurd q (by decide)⟩
theorem res_1 {M' : tM} {to lo hi : Int} : res 1 M' to lo hi := ⟨Or.inr (Or.inl rfl), fun q => absurd q (by decide), fun q => absurd q (by decide)⟩
theorem res_0 {M' : tM} {to lo hi : Int} (h1 : zlo M' to = lo) (h2 : zhi M' to = hi) (h3 : -10000000000000000000000 ≤ lo ∧ hi ≤ 10000000000000000000000) : res 0 M' to lo hi := ⟨Or.inl rfl, fun _ => ⟨h1, h2⟩, fun _ => h3⟩
theorem nfar {z : Int} (h : ¬ far z) : -10000000000000000000000 < z ∧ z < 10000000000000000000000 := by
  unfold far at h
  omega
noncomputable def uu (D : Nat) : Int := ((tn (10 - D) : Nat) : Int)
theorem uu_pos (D : Nat) : 0 < uu D := by
  have := tn_pos (10 - D)
  unfold uu
  omega
theorem uu_le (D : Nat) : uu D ≤ 10000000000 := by
  have := tn_mono (show 10 - D ≤ 10 by omega)
  rw [tn_10] at this
  unfold uu
  omega
theorem nB : ¬ isB 664 := by unfold isB; decide
section MODEL
variable {e : tE} {d n : Nat} {M : tM}
theorem c_sum {to a b : Int} {D : Nat} (hdg : M 664 2 = (D : Int)) (hD : D ≤ 10) (ht : 0 ≤ to ∧ to < 700) (ha : 0 ≤ a ∧ a < 700) (hb : 0 ≤ b ∧ b < 700) (hca : bcan M a) (hcb : bcan M b) (hd : 3 ≤ d) :
    tC e d 3716 [.inr (.inr (.inl 664)), .inl to, .inl a, .inl b] M n (tQi n (fun z M' => res z M' to (flo (uu D) (zlo M a + zlo M b)) (cei (uu D) (zhi M a + zhi M b)) ∧ xE (fun r => r = to) M M')) := by
  obtain ⟨⟨h1, h2⟩, h3, h4⟩ := hca
  obtain ⟨⟨g1, g2⟩, g3, g4⟩ := hcb
  refine tst_X12_sum ?_
  refine tb_X12_sum_0 (c := false) ?_
  simp only [kb_X12_sum_0, w_ald_0, w_gf_14_6, tw_f, w_ild_2, w_la, w_lax, w_gf_14_7, w_ild_3, w_ic, w_iv5, tfr_0, tfr_1, tfr_2, tfr_3, tfr_4, w_if_ne, w_ire, trg, true_and, and_true, Nat.reduceAdd, Nat.reduceSub, eq_self, tshm_14, tshm_31, tshm_32, tykm_31, tykm_32, tykm_14, tci_14, tci_15, tci_960, tshm_667, tshm_668, tshm_669, tshm_670, tykm_33, tci_700]
  refine ⟨by omega, by omega, by omega, by omega, ?_⟩
  refine tc_i (D := 2) (fun d' hd' => c_adds (D := D) hdg hD h1 g1 (by omega) (by omega) (Or.inl rfl) hd') (by omega) ?_
  rintro z M1 ⟨q1, q2, q3, q4⟩
  try simp only [kb_X12_sum_0, w_ald_0, w_gf_14_6, tw_f, w_ild_2, w_la, w_lax, w_gf_14_7, w_ild_3, w_ic, w_iv5, tfr_0, tfr_1, tfr_2, tfr_3, tfr_4, w_if_ne, w_ire, trg, true_and, and_true, Nat.reduceAdd, Nat.reduceSub, eq_self, tshm_14, tshm_31, tshm_32, tykm_31, tykm_32, tykm_14, tci_14, tci_15, tci_960, tshm_667, tshm_668, tshm_669, tshm_670, tykm_33, tci_700]
  have q2 : zb M1 = flo (uu D) (zlo M a + zlo M b) := q2
  refine ⟨by omega, fun hz => ?_, fun hz => ?_⟩
  rotate_left
  · exact ⟨_, rfl, rfl, res_2, xE_u q4⟩
  have q5 : ¬ far (zb M1) := by rcases q1 with ⟨-, q⟩ | ⟨q, -⟩; exact q; omega
  have q6 := nfar q5
  have e7 : ∀ i, M1 667 i = M 667 i := fun i => q4 667 i (by omega)
  have e8 : ∀ i, M1 668 i = M 668 i := fun i => q4 668 i (by omega)
  have e9 : ∀ i, M1 669 i = M 669 i := fun i => q4 669 i (by omega)
  have e0 : ∀ i, M1 670 i = M 670 i := fun i => q4 670 i (by omega)
  have hdg1 : M1 664 2 = (D : Int) := (uE_d q4).trans hdg
  refine tb_X12_sum_34 (c := false) ?_
  simp only [kb_X12_sum_34, w_ald_0, w_gf_14_4, tw_f, w_lst4, tkl_n, tkl_i, tkl_l, tkl_r, w_gf_14_5, w_lst6, w_gf_14_8, w_ild_2, w_la, w_lax, w_gf_14_9, w_ild_3, w_ic, w_iv5, tfr_0, tfr_1, tfr_2, tfr_3, tfr_4, w_if_ne, w_ire, trg, true_and, and_true, Nat.reduceAdd, Nat.reduceSub, eq_self, tshm_14, tshm_31, tshm_32, tykm_31, tykm_32, tykm_14, tci_14, tci_15, tci_960, tshm_667, tshm_668, tshm_669, tshm_670, tykm_33, tci_700]
  rw [e9, e9, e0, e0]
  refine ⟨by omega, by omega, by omega, by omega, ?_⟩
  refine tc_i (D := 2) (fun d' hd' => c_adds (D := D) hdg1 hD h2 g2 (by omega) (by omega) (Or.inr rfl) hd') (by omega) ?_
  rintro z2 M2 ⟨p1, p2, p3, p4⟩
  try simp only [kb_X12_sum_34, w_ald_0, w_gf_14_4, tw_f, w_lst4, tkl_n, tkl_i, tkl_l, tkl_r, w_gf_14_5, w_lst6, w_gf_14_8, w_ild_2, w_la, w_lax, w_gf_14_9, w_ild_3, w_ic, w_iv5, tfr_0, tfr_1, tfr_2, tfr_3, tfr_4, w_if_ne, w_ire, trg, true_and, and_true, Nat.reduceAdd, Nat.reduceSub, eq_self, tshm_14, tshm_31, tshm_32, tykm_31, tykm_32, tykm_14, tci_14, tci_15, tci_960, tshm_667, tshm_668, tshm_669, tshm_670, tykm_33, tci_700]
  have p2 : zb M2 = cei (uu D) (zhi M a + zhi M b) := p2
  refine ⟨by omega, fun hz2 => ?_, fun hz2 => ?_⟩
  rotate_left
  · exact ⟨_, rfl, rfl, res_2, xE_u (uE_tr q4 p4)⟩
  have p5 : ¬ far (zb M2) := by rcases p1 with ⟨-, q⟩ | ⟨q, -⟩; exact q; omega
  have p6 := nfar p5
  obtain ⟨q7, q8⟩ := q3
  obtain ⟨p7, p8⟩ := p3
  unfold zb at q2 q6 p2 p6
  refine tb_X12_sum_80 (c := false) ?_
  simp only [kb_X12_sum_80, w_ald_0, w_ild_1, w_lld4, w_lld6, w_iv3, tfr_0, tfr_1, tfr_2, tfr_3, tfr_4, w_gf_14_4, tw_f, w_gf_14_5, w_ic, w_ire, trg, true_and, and_true, Nat.reduceAdd, Nat.reduceSub, eq_self, tshm_14, tshm_31, tshm_32, tykm_31, tykm_32, tykm_14, tci_14, tci_15, tci_960, tshm_667, tshm_668, tshm_669, tshm_670, tykm_33, tci_700]
  refine tc_n (D := 0) (fun d' _ => c_low ht) (by omega) ?_
  rintro _ rfl
  try simp only [kb_X12_sum_80, w_ald_0, w_ild_1, w_lld4, w_lld6, w_iv3, tfr_0, tfr_1, tfr_2, tfr_3, tfr_4, w_gf_14_4, tw_f, w_gf_14_5, w_ic, w_ire, trg, true_and, and_true, Nat.reduceAdd, Nat.reduceSub, eq_self, tshm_14, tshm_31, tshm_32, tykm_31, tykm_32, tykm_14, tci_14, tci_15, tci_960, tshm_667, tshm_668, tshm_669, tshm_670, tykm_33, tci_700]
  rw [sLo_k (fun q => nB q.1), sLo_k (fun q => nB q.1)]
  refine tc_n (D := 0) (fun d' _ => c_high ht) (by omega) ?_
  rintro _ rfl
  try simp only [kb_X12_sum_80, w_ald_0, w_ild_1, w_lld4, w_lld6, w_iv3, tfr_0, tfr_1, tfr_2, tfr_3, tfr_4, w_gf_14_4, tw_f, w_gf_14_5, w_ic, w_ire, trg, true_and, and_true, Nat.reduceAdd, Nat.reduceSub, eq_self, tshm_14, tshm_31, tshm_32, tykm_31, tykm_32, tykm_14, tci_14, tci_15, tci_960, tshm_667, tshm_668, tshm_669, tshm_670, tykm_33, tci_700]
  refine ⟨_, rfl, rfl, res_0 ?_ ?_ (by omega), xE_tr (xE_u (uE_tr q4 p4)) (xE_tr (sLo_xE rfl q7 (by omega)) (sHi_xE rfl p7 (by omega)))⟩
  · rw [sHi_lo, sLo_lo]
    exact q2
  · rw [sHi_hi]
    exact p2
theorem c_turned {to a : Int} (ht : 0 ≤ to ∧ to < 700) (ha : 0 ≤ a ∧ a < 700) (hca : bcan M a) (hd : 1 ≤ d) :
    tC e d 3726 [.inr (.inr (.inl 664)), .inl to, .inl a] M n (tQn n (fun M' => zlo M' to = -zhi M a ∧ zhi M' to = -zlo M a ∧ xE (fun r => r = to) M M')) := by
  obtain ⟨⟨h1, h2⟩, h3, h4⟩ := hca
  refine tst_X12_turned ?_
  refine tb_X12_turned_0 (c := false) ?_
  simp (disch := decide) only [kb_X12_turned_0, w_ald_0, w_gf_14_8, tw_f, w_ild_2, w_la, w_lax, w_pf_14_4, w_gf_14_9, w_pf_14_5, w_iv0, tfr_0, tfr_1, tfr_2, tfr_3, tfr_4, w_gf_14_4, w_lst_3, tkl_n, tkl_i, tkl_l, tkl_r, w_gf_14_5, w_lst5, w_gf_14_6, w_gf_14_7, w_ild_1, w_lld_3, w_lld5, w_iv3, w_re, true_and, and_true, Nat.reduceAdd, Nat.reduceSub, eq_self, tshm_14, tshm_31, tshm_32, tykm_31, tykm_32, tykm_14, tci_14, tci_15, tci_960, tshm_667, tshm_668, tshm_669, tshm_670, tykm_33, tci_700, tU_nk, tU_ni, tU_eq]
  have z1 : zb (tU (tU M 664 4 (M 669 a)) 664 5 (M 670 a)) = zhi M a := by
    unfold zb zhi
    rw [u5_5, u5_4, u4_4]
  have c1 : cb (tU (tU M 664 4 (M 669 a)) 664 5 (M 670 a)) := by
    unfold cb
    rw [u5_5, u5_4, u4_4]
    omega
  have hh : zhi M a = M 669 a * 1000000000 + M 670 a := rfl
  have hl : zlo M a = M 667 a * 1000000000 + M 668 a := rfl
  refine ⟨by omega, by omega, ?_⟩
  refine tc_n (D := 0) (fun d' _ => c_turns c1 (by rw [z1]; omega)) (by omega) ?_
  rintro M1 ⟨q1, q2, q3⟩
  rw [z1] at q1
  have hE1 : uE M M1 := uE_tr (uE_tr uE_4 uE_5) q3
  try simp (disch := decide) only [kb_X12_turned_0, w_ald_0, w_gf_14_8, tw_f, w_ild_2, w_la, w_lax, w_pf_14_4, w_gf_14_9, w_pf_14_5, w_iv0, tfr_0, tfr_1, tfr_2, tfr_3, tfr_4, w_gf_14_4, w_lst_3, tkl_n, tkl_i, tkl_l, tkl_r, w_gf_14_5, w_lst5, w_gf_14_6, w_gf_14_7, w_ild_1, w_lld_3, w_lld5, w_iv3, w_re, true_and, and_true, Nat.reduceAdd, Nat.reduceSub, eq_self, tshm_14, tshm_31, tshm_32, tykm_31, tykm_32, tykm_14, tci_14, tci_15, tci_960, tshm_667, tshm_668, tshm_669, tshm_670, tykm_33, tci_700, tU_nk, tU_ni, tU_eq]
  have e7 : M1 667 a = M 667 a := hE1 667 a (by omega)
  have e8 : M1 668 a = M 668 a := hE1 668 a (by omega)
  rw [e7, e8]
  have z2 : zb (tU (tU M1 664 4 (M 667 a)) 664 5 (M 668 a)) = zlo M a := by
    unfold zb zlo
    rw [u5_5, u5_4, u4_4]
  have c2 : cb (tU (tU M1 664 4 (M 667 a)) 664 5 (M 668 a)) := by
    unfold cb
    rw [u5_5, u5_4, u4_4]
    omega
  refine ⟨by omega, by omega, ?_⟩
  refine tc_n (D := 0) (fun d' _ => c_turns c2 (by rw [z2]; omega)) (by omega) ?_
  rintro M2 ⟨p1, p2, p3⟩
  rw [z2] at p1
  have hE2 : uE M M2 := uE_tr hE1 (uE_tr (uE_tr uE_4 uE_5) p3)
  try simp (disch := decide) only [kb_X12_turned_0, w_ald_0, w_gf_14_8, tw_f, w_ild_2, w_la, w_lax, w_pf_14_4, w_gf_14_9, w_pf_14_5, w_iv0, tfr_0, tfr_1, tfr_2, tfr_3, tfr_4, w_gf_14_4, w_lst_3, tkl_n, tkl_i, tkl_l, tkl_r, w_gf_14_5, w_lst5, w_gf_14_6, w_gf_14_7, w_ild_1, w_lld_3, w_lld5, w_iv3, w_re, true_and, and_true, Nat.reduceAdd, Nat.reduceSub, eq_self, tshm_14, tshm_31, tshm_32, tykm_31, tykm_32, tykm_14, tci_14, tci_15, tci_960, tshm_667, tshm_668, tshm_669, tshm_670, tykm_33, tci_700, tU_nk, tU_ni, tU_eq]
  refine tc_n (D := 0) (fun d' _ => c_low ht) (by omega) ?_
  rintro _ rfl
  try simp only [kb_X12_turned_0, w_ald_0, w_gf_14_8, tw_f, w_ild_2, w_la, w_lax, w_pf_14_4, w_gf_14_9, w_pf_14_5, w_iv0, tfr_0, tfr_1, tfr_2, tfr_3, tfr_4, w_gf_14_4, w_lst_3, tkl_n, tkl_i, tkl_l, tkl_r, w_gf_14_5, w_lst5, w_gf_14_6, w_gf_14_7, w_ild_1, w_lld_3, w_lld5, w_iv3, w_re, true_and, and_true, Nat.reduceAdd, Nat.reduceSub, eq_self, tshm_14, tshm_31, tshm_32, tykm_31, tykm_32, tykm_14, tci_14, tci_15, tci_960, tshm_667, tshm_668, tshm_669, tshm_670, tykm_33, tci_700]
  rw [sLo_k (fun q => nB q.1), sLo_k (fun q => nB q.1)]
  refine tc_n (D := 0) (fun d' _ => c_high ht) (by omega) ?_
  rintro _ rfl
  try simp only [kb_X12_turned_0, w_ald_0, w_gf_14_8, tw_f, w_ild_2, w_la, w_lax, w_pf_14_4, w_gf_14_9, w_pf_14_5, w_iv0, tfr_0, tfr_1, tfr_2, tfr_3, tfr_4, w_gf_14_4, w_lst_3, tkl_n, tkl_i, tkl_l, tkl_r, w_gf_14_5, w_lst5, w_gf_14_6, w_gf_14_7, w_ild_1, w_lld_3, w_lld5, w_iv3, w_re, true_and, and_true, Nat.reduceAdd, Nat.reduceSub, eq_self, tshm_14, tshm_31, tshm_32, tykm_31, tykm_32, tykm_14, tci_14, tci_15, tci_960, tshm_667, tshm_668, tshm_669, tshm_670, tykm_33, tci_700]
  obtain ⟨q7, q8⟩ := q2
  obtain ⟨p7, p8⟩ := p2
  unfold zb at q1 p1
  refine ⟨rfl, rfl, ?_, ?_, xE_tr (xE_u hE2) (xE_tr (sLo_xE rfl q7 (by omega)) (sHi_xE rfl p7 (by omega)))⟩
  · rw [sHi_lo, sLo_lo]
    exact q1
  · rw [sHi_hi]
    exact p1
theorem c_again {to a : Int} {D : Nat} (hdg : M 664 2 = (D : Int)) (hD : D ≤ 10) (ht : 0 ≤ to ∧ to < 700) (ha : 0 ≤ a ∧ a < 700) (hca : bcan M a) (hd : 2 ≤ d) :
    tC e d 3588 [.inr (.inr (.inl 664)), .inl to, .inl a] M n (tQi n (fun z M' => res z M' to (flo (uu D) (zlo M a)) (cei (uu D) (zhi M a)) ∧ xE (fun r => r = to) M M')) := by
  obtain ⟨⟨h1, h2⟩, h3, h4⟩ := hca
  have hh : zhi M a = M 669 a * 1000000000 + M 670 a := rfl
  have hl : zlo M a = M 667 a * 1000000000 + M 668 a := rfl
  refine tst_X12_again ?_
  refine tb_X12_again_0 (c := false) ?_
  simp (disch := decide) only [kb_X12_again_0, w_ald_0, w_gf_14_6, tw_f, w_ild_2, w_la, w_lax, w_pf_14_4, w_gf_14_7, w_pf_14_5, w_gf_14_2, w_ic, w_iv2, tfr_0, tfr_1, tfr_2, tfr_3, tfr_4, w_iv0, w_if_eq, w_ire, trg, true_and, and_true, Nat.reduceAdd, Nat.reduceSub, eq_self, tshm_14, tshm_31, tshm_32, tykm_31, tykm_32, tykm_14, tci_14, tci_15, tci_960, tshm_667, tshm_668, tshm_669, tshm_670, tykm_33, tci_700, tU_nk, tU_ni, tU_eq]
  have z1 : zb (tU (tU M 664 4 (M 667 a)) 664 5 (M 668 a)) = zlo M a := by
    unfold zb zlo
    rw [u5_5, u5_4, u4_4]
  have c1 : cb (tU (tU M 664 4 (M 667 a)) 664 5 (M 668 a)) := by
    unfold cb
    rw [u5_5, u5_4, u4_4]
    omega
  rw [hdg]
  refine ⟨by omega, by omega, ?_⟩
  refine tc_n (D := 1) (fun d' hd' => c_rounds (m := D) (up := 0) hD (Or.inl rfl) c1 (by rw [z1]; omega) hd') (by omega) ?_
  rintro M1 ⟨q1, q2, q3⟩
  rw [z1] at q1
  have q1 : zb M1 = flo (uu D) (zlo M a) := q1
  have hE1 : uE M M1 := uE_tr (uE_tr uE_4 uE_5) q3
  try simp only [kb_X12_again_0, w_ald_0, w_gf_14_6, tw_f, w_ild_2, w_la, w_lax, w_pf_14_4, w_gf_14_7, w_pf_14_5, w_gf_14_2, w_ic, w_iv2, tfr_0, tfr_1, tfr_2, tfr_3, tfr_4, w_iv0, w_if_eq, w_ire, trg, true_and, and_true, Nat.reduceAdd, Nat.reduceSub, eq_self, tshm_14, tshm_31, tshm_32, tykm_31, tykm_32, tykm_14, tci_14, tci_15, tci_960, tshm_667, tshm_668, tshm_669, tshm_670, tykm_33, tci_700]
  refine tc_i (D := 0) (fun d' _ => c_isTooGreat q2) (by omega) ?_
  rintro z _ ⟨q4, rfl⟩
  try simp only [kb_X12_again_0, w_ald_0, w_gf_14_6, tw_f, w_ild_2, w_la, w_lax, w_pf_14_4, w_gf_14_7, w_pf_14_5, w_gf_14_2, w_ic, w_iv2, tfr_0, tfr_1, tfr_2, tfr_3, tfr_4, w_iv0, w_if_eq, w_ire, trg, true_and, and_true, Nat.reduceAdd, Nat.reduceSub, eq_self, tshm_14, tshm_31, tshm_32, tykm_31, tykm_32, tykm_14, tci_14, tci_15, tci_960, tshm_667, tshm_668, tshm_669, tshm_670, tykm_33, tci_700]
  refine ⟨by omega, fun hz => ?_, fun hz => ?_⟩
  rotate_left
  · exact ⟨_, rfl, rfl, res_2, xE_u hE1⟩
  have q5 : ¬ far (zb M1) := by rcases q4 with ⟨q, -⟩ | ⟨-, q⟩; omega; exact q
  have q6 := nfar q5
  have e9 : M1 669 a = M 669 a := hE1 669 a (by omega)
  have e0 : M1 670 a = M 670 a := hE1 670 a (by omega)
  refine tb_X12_again_38 (c := false) ?_
  simp (disch := decide) only [kb_X12_again_38, w_ald_0, w_gf_14_4, tw_f, w_lst_3, tkl_n, tkl_i, tkl_l, tkl_r, w_gf_14_5, w_lst5, w_gf_14_8, w_ild_2, w_la, w_lax, w_pf_14_4, w_gf_14_9, w_pf_14_5, w_gf_14_2, w_ic, w_iv2, tfr_0, tfr_1, tfr_2, tfr_3, tfr_4, w_iv0, w_if_eq, w_ire, trg, true_and, and_true, Nat.reduceAdd, Nat.reduceSub, eq_self, tshm_14, tshm_31, tshm_32, tykm_31, tykm_32, tykm_14, tci_14, tci_15, tci_960, tshm_667, tshm_668, tshm_669, tshm_670, tykm_33, tci_700, tU_nk, tU_ni, tU_eq]
  rw [e9, e0, (uE_d hE1).trans hdg]
  have z2 : zb (tU (tU M1 664 4 (M 669 a)) 664 5 (M 670 a)) = zhi M a := by
    unfold zb zhi
    rw [u5_5, u5_4, u4_4]
  have c2 : cb (tU (tU M1 664 4 (M 669 a)) 664 5 (M 670 a)) := by
    unfold cb
    rw [u5_5, u5_4, u4_4]
    omega
  refine ⟨by omega, by omega, ?_⟩
  refine tc_n (D := 1) (fun d' hd' => c_rounds (m := D) (up := 1) hD (Or.inr rfl) c2 (by rw [z2]; omega) hd') (by omega) ?_
  rintro M2 ⟨p1, p2, p3⟩
  rw [z2] at p1
  have p1 : zb M2 = cei (uu D) (zhi M a) := p1
  have hE2 : uE M M2 := uE_tr hE1 (uE_tr (uE_tr uE_4 uE_5) p3)
  try simp only [kb_X12_again_38, w_ald_0, w_gf_14_4, tw_f, w_lst_3, tkl_n, tkl_i, tkl_l, tkl_r, w_gf_14_5, w_lst5, w_gf_14_8, w_ild_2, w_la, w_lax, w_pf_14_4, w_gf_14_9, w_pf_14_5, w_gf_14_2, w_ic, w_iv2, tfr_0, tfr_1, tfr_2, tfr_3, tfr_4, w_iv0, w_if_eq, w_ire, trg, true_and, and_true, Nat.reduceAdd, Nat.reduceSub, eq_self, tshm_14, tshm_31, tshm_32, tykm_31, tykm_32, tykm_14, tci_14, tci_15, tci_960, tshm_667, tshm_668, tshm_669, tshm_670, tykm_33, tci_700]
  refine tc_i (D := 0) (fun d' _ => c_isTooGreat p2) (by omega) ?_
  rintro z2 _ ⟨p4, rfl⟩
  try simp only [kb_X12_again_38, w_ald_0, w_gf_14_4, tw_f, w_lst_3, tkl_n, tkl_i, tkl_l, tkl_r, w_gf_14_5, w_lst5, w_gf_14_8, w_ild_2, w_la, w_lax, w_pf_14_4, w_gf_14_9, w_pf_14_5, w_gf_14_2, w_ic, w_iv2, tfr_0, tfr_1, tfr_2, tfr_3, tfr_4, w_iv0, w_if_eq, w_ire, trg, true_and, and_true, Nat.reduceAdd, Nat.reduceSub, eq_self, tshm_14, tshm_31, tshm_32, tykm_31, tykm_32, tykm_14, tci_14, tci_15, tci_960, tshm_667, tshm_668, tshm_669, tshm_670, tykm_33, tci_700]
  refine ⟨by omega, fun hz2 => ?_, fun hz2 => ?_⟩
  rotate_left
  · exact ⟨_, rfl, rfl, res_2, xE_u hE2⟩
  have p5 : ¬ far (zb M2) := by rcases p4 with ⟨q, -⟩ | ⟨-, q⟩; omega; exact q
  have p6 := nfar p5
  obtain ⟨q7, q8⟩ := q2
  obtain ⟨p7, p8⟩ := p2
  unfold zb at q1 q6 p1 p6
  refine tb_X12_again_87 (c := false) ?_
  simp only [kb_X12_again_87, w_ald_0, w_ild_1, w_lld_3, w_lld5, w_iv3, tfr_0, tfr_1, tfr_2, tfr_3, tfr_4, w_gf_14_4, tw_f, w_gf_14_5, w_ic, w_ire, trg, true_and, and_true, Nat.reduceAdd, Nat.reduceSub, eq_self, tshm_14, tshm_31, tshm_32, tykm_31, tykm_32, tykm_14, tci_14, tci_15, tci_960, tshm_667, tshm_668, tshm_669, tshm_670, tykm_33, tci_700]
  refine tc_n (D := 0) (fun d' _ => c_low ht) (by omega) ?_
  rintro _ rfl
  try simp only [kb_X12_again_87, w_ald_0, w_ild_1, w_lld_3, w_lld5, w_iv3, tfr_0, tfr_1, tfr_2, tfr_3, tfr_4, w_gf_14_4, tw_f, w_gf_14_5, w_ic, w_ire, trg, true_and, and_true, Nat.reduceAdd, Nat.reduceSub, eq_self, tshm_14, tshm_31, tshm_32, tykm_31, tykm_32, tykm_14, tci_14, tci_15, tci_960, tshm_667, tshm_668, tshm_669, tshm_670, tykm_33, tci_700]
  rw [sLo_k (fun q => nB q.1), sLo_k (fun q => nB q.1)]
  refine tc_n (D := 0) (fun d' _ => c_high ht) (by omega) ?_
  rintro _ rfl
  try simp only [kb_X12_again_87, w_ald_0, w_ild_1, w_lld_3, w_lld5, w_iv3, tfr_0, tfr_1, tfr_2, tfr_3, tfr_4, w_gf_14_4, tw_f, w_gf_14_5, w_ic, w_ire, trg, true_and, and_true, Nat.reduceAdd, Nat.reduceSub, eq_self, tshm_14, tshm_31, tshm_32, tykm_31, tykm_32, tykm_14, tci_14, tci_15, tci_960, tshm_667, tshm_668, tshm_669, tshm_670, tykm_33, tci_700]
  refine ⟨_, rfl, rfl, res_0 ?_ ?_ (by omega), xE_tr (xE_u hE2) (xE_tr (sLo_xE rfl q7 (by omega)) (sHi_xE rfl p7 (by omega)))⟩
  · rw [sHi_lo, sLo_lo]
    exact q1
  · rw [sHi_hi]
    exact p1
theorem c_negative {to a : Int} {D : Nat} (hdg : M 664 2 = (D : Int)) (hD : D ≤ 10) (ht : 0 ≤ to ∧ to < 700) (ha : 0 ≤ a ∧ a < 700) (hB : BI M) (hd : 3 ≤ d) :
    tC e d 3664 [.inr (.inr (.inl 664)), .inl to, .inl a] M n (tQi n (fun z M' => res z M' to (flo (uu D) (-zhi M a)) (cei (uu D) (-zlo M a)) ∧ xE (fun r => r = to) M M')) := by
  refine tst_X12_negative ?_
  refine tb_X12_negative_0 (c := false) ?_
  simp only [kb_X12_negative_0, w_ald_0, w_ild_1, w_ild_2, w_iv2, tfr_0, tfr_1, tfr_2, tfr_3, tfr_4, w_ire, trg, true_and, and_true, Nat.reduceAdd, Nat.reduceSub, eq_self, tshm_14, tshm_31, tshm_32, tykm_31, tykm_32, tykm_14, tci_14, tci_15, tci_960, tshm_667, tshm_668, tshm_669, tshm_670, tykm_33, tci_700]
  refine tc_n (D := 1) (fun d' hd' => c_turned ht ha (hB a ha.1 ha.2) hd') (by omega) ?_
  rintro M1 ⟨q1, q2, q3⟩
  try simp only [kb_X12_negative_0, w_ald_0, w_ild_1, w_ild_2, w_iv2, tfr_0, tfr_1, tfr_2, tfr_3, tfr_4, w_ire, trg, true_and, and_true, Nat.reduceAdd, Nat.reduceSub, eq_self, tshm_14, tshm_31, tshm_32, tykm_31, tykm_32, tykm_14, tci_14, tci_15, tci_960, tshm_667, tshm_668, tshm_669, tshm_670, tykm_33, tci_700]
  refine tc_i (D := 2) (fun d' hd' => c_again (D := D) ((xE_d q3).trans hdg) hD ht ht (xE_B q3 hB to ht.1 ht.2) hd') (by omega) ?_
  rintro z M2 ⟨p1, p2⟩
  try simp only [kb_X12_negative_0, w_ald_0, w_ild_1, w_ild_2, w_iv2, tfr_0, tfr_1, tfr_2, tfr_3, tfr_4, w_ire, trg, true_and, and_true, Nat.reduceAdd, Nat.reduceSub, eq_self, tshm_14, tshm_31, tshm_32, tykm_31, tykm_32, tykm_14, tci_14, tci_15, tci_960, tshm_667, tshm_668, tshm_669, tshm_670, tykm_33, tci_700]
  rw [q1, q2] at p1
  exact ⟨_, rfl, rfl, p1, xE_tr q3 p2⟩
/-- the boxes from a place on, and one more -/
abbrev toF (to f : Int) : Int → Prop := fun r => r = to ∨ f ≤ r
theorem c_difference {to a b f : Int} {D : Nat} (hdg : M 664 2 = (D : Int)) (hD : D ≤ 10) (hf : M 664 11 = f) (hf2 : 0 ≤ f ∧ f < 700) (ht : 0 ≤ to ∧ to < 700) (ha : 0 ≤ a ∧ a < f) (hb : 0 ≤ b ∧ b < 700) (hB : BI M) (hd : 4 ≤ d) :
    tC e d 3607 [.inr (.inr (.inl 664)), .inl to, .inl a, .inl b] M n (tQi n (fun z M' => res z M' to (flo (uu D) (zlo M a - zhi M b)) (cei (uu D) (zhi M a - zlo M b)) ∧ xE (toF to f) M M')) := by
  refine tst_X12_difference ?_
  refine tb_X12_difference_0 (c := false) ?_
  simp (disch := decide) only [kb_X12_difference_0, w_ald_0, w_gf_14_11, tw_f, w_ist4, tkl_n, tkl_i, tkl_l, tkl_r, w_dupi, w_dupr, w_ic, w_iadd, w_pf_14_11, w_ild4, w_ild_3, w_iv2, tfr_0, tfr_1, tfr_2, tfr_3, tfr_4, w_ild_1, w_ild_2, w_iv3, w_ist5, w_isub, w_ild5, w_ire, trg, true_and, and_true, Nat.reduceAdd, Nat.reduceSub, eq_self, tshm_14, tshm_31, tshm_32, tykm_31, tykm_32, tykm_14, tci_14, tci_15, tci_960, tshm_667, tshm_668, tshm_669, tshm_670, tykm_33, tci_700, tU_nk, tU_ni, tU_eq]
  rw [hf]
  have y0 : yE (fun _ => False) M (tU M 664 11 (f + 1)) := yE_free
  refine tc_n (D := 1) (fun d' hd' => c_turned (to := f) (a := b) hf2 hb (y0.2.2 hB b hb.1 hb.2) hd') (by omega) ?_
  rintro M1 ⟨q1, q2, q3⟩
  rw [yE_hi y0 id] at q1
  rw [yE_lo y0 id] at q2
  try simp only [kb_X12_difference_0, w_ald_0, w_gf_14_11, tw_f, w_ist4, tkl_n, tkl_i, tkl_l, tkl_r, w_dupi, w_dupr, w_ic, w_iadd, w_pf_14_11, w_ild4, w_ild_3, w_iv2, tfr_0, tfr_1, tfr_2, tfr_3, tfr_4, w_ild_1, w_ild_2, w_iv3, w_ist5, w_isub, w_ild5, w_ire, trg, true_and, and_true, Nat.reduceAdd, Nat.reduceSub, eq_self, tshm_14, tshm_31, tshm_32, tykm_31, tykm_32, tykm_14, tci_14, tci_15, tci_960, tshm_667, tshm_668, tshm_669, tshm_670, tykm_33, tci_700]
  have y1 : yE (toF to f) M M1 := yE_tr (yE_mono y0 (fun _ q => q.elim)) (yE_mono q3.1 (fun r hr => Or.inr (by omega)))
  have hB1 := y1.2.2 hB
  refine tc_i (D := 3) (fun d' hd' => c_sum (to := to) (a := a) (b := f) (D := D) ((yE_d y1).trans hdg) hD ht (by omega) hf2 (hB1 a (by omega) (by omega)) (hB1 f hf2.1 hf2.2) hd') (by omega) ?_
  rintro z M2 ⟨p1, p2⟩
  have e1 : zlo M1 a = zlo M a := by rw [xE_lo q3 (by omega), yE_lo y0 id]
  have e2 : zhi M1 a = zhi M a := by rw [xE_hi q3 (by omega), yE_hi y0 id]
  rw [e1, e2, q1, q2] at p1
  have hf3 : M2 664 11 = f + 1 := by rw [p2.2, q3.2, tU_eq]
  try simp only [kb_X12_difference_0, w_ald_0, w_gf_14_11, tw_f, w_ist4, tkl_n, tkl_i, tkl_l, tkl_r, w_dupi, w_dupr, w_ic, w_iadd, w_pf_14_11, w_ild4, w_ild_3, w_iv2, tfr_0, tfr_1, tfr_2, tfr_3, tfr_4, w_ild_1, w_ild_2, w_iv3, w_ist5, w_isub, w_ild5, w_ire, trg, true_and, and_true, Nat.reduceAdd, Nat.reduceSub, eq_self, tshm_14, tshm_31, tshm_32, tykm_31, tykm_32, tykm_14, tci_14, tci_15, tci_960, tshm_667, tshm_668, tshm_669, tshm_670, tykm_33, tci_700]
  rw [hf3, show f + 1 - 1 = f by omega]
  have y3 : yE (fun _ => False) M2 (tU M2 664 11 f) := yE_free
  refine ⟨_, rfl, rfl, ⟨p1.1, fun hz => ?_, p1.2.2⟩, yE_tr y1 (yE_tr (yE_mono p2.1 (fun r hr => Or.inl hr)) (yE_mono y3 (fun _ q => q.elim))), ?_⟩
  · rw [yE_lo y3 id, yE_hi y3 id]
    exact p1.2.1 hz
  · rw [tU_eq, hf]
def aLo (l h : Int) : Int := if h < 0 then -h else if l < 0 then 0 else l
def aHi (l h : Int) : Int := if h < 0 then -l else if l < 0 then (if h < -l then -l else h) else h
theorem c_unsigned {to a f : Int} {D : Nat} (hdg : M 664 2 = (D : Int)) (hD : D ≤ 10) (hf : M 664 11 = f) (hf2 : 0 ≤ f ∧ f < 700) (ht : 0 ≤ to ∧ to < 700) (ha : 0 ≤ a ∧ a < f) (hB : BI M) (hd : 4 ≤ d) :
    tC e d 3731 [.inr (.inr (.inl 664)), .inl to, .inl a] M n (tQi n (fun z M' => res z M' to (flo (uu D) (aLo (zlo M a) (zhi M a))) (cei (uu D) (aHi (zlo M a) (zhi M a))) ∧ xE (toF to f) M M')) := by
  have ha7 : 0 ≤ a ∧ a < 700 := by omega
  have hca := hB a ha7.1 ha7.2
  refine tst_X12_unsigned ?_
  refine tb_X12_unsigned_0 (c := false) ?_
  simp only [kb_X12_unsigned_0, w_ald_0, w_ild_2, w_iv1, tfr_0, tfr_1, tfr_2, tfr_3, tfr_4, w_if_eq, w_ild_1, w_iv2, w_ire, trg, true_and, and_true, Nat.reduceAdd, Nat.reduceSub, eq_self, tshm_14, tshm_31, tshm_32, tykm_31, tykm_32, tykm_14, tci_14, tci_15, tci_960, tshm_667, tshm_668, tshm_669, tshm_670, tykm_33, tci_700]
  refine tc_i (D := 0) (fun d' _ => c_isBelow0 ha7 hca) (by omega) ?_
  rintro z _ ⟨hz, rfl⟩
  try simp only [kb_X12_unsigned_0, w_ald_0, w_ild_2, w_iv1, tfr_0, tfr_1, tfr_2, tfr_3, tfr_4, w_if_eq, w_ild_1, w_iv2, w_ire, trg, true_and, and_true, Nat.reduceAdd, Nat.reduceSub, eq_self, tshm_14, tshm_31, tshm_32, tykm_31, tykm_32, tykm_14, tci_14, tci_15, tci_960, tshm_667, tshm_668, tshm_669, tshm_670, tykm_33, tci_700]
  refine ⟨by omega, fun h => ?_, fun h => ?_⟩
  rotate_left
  · have e1 : aLo (zlo M a) (zhi M a) = -zhi M a := by unfold aLo; rw [if_pos (by omega)]
    have e2 : aHi (zlo M a) (zhi M a) = -zlo M a := by unfold aHi; rw [if_pos (by omega)]
    rw [e1, e2]
    refine tc_i (D := 3) (fun d' hd' => c_negative (D := D) hdg hD ht ha7 hB hd') (by omega) ?_
    rintro z M2 ⟨p1, p2⟩
    try simp only [kb_X12_unsigned_0, w_ald_0, w_ild_2, w_iv1, tfr_0, tfr_1, tfr_2, tfr_3, tfr_4, w_if_eq, w_ild_1, w_iv2, w_ire, trg, true_and, and_true, Nat.reduceAdd, Nat.reduceSub, eq_self, tshm_14, tshm_31, tshm_32, tykm_31, tykm_32, tykm_14, tci_14, tci_15, tci_960, tshm_667, tshm_668, tshm_669, tshm_670, tykm_33, tci_700]
    exact ⟨_, rfl, rfl, p1, xE_mono p2 (fun r hr => Or.inl hr)⟩
  refine tb_X12_unsigned_15 (c := false) ?_
  simp only [kb_X12_unsigned_15, w_ald_0, w_ild_2, w_iv1, tfr_0, tfr_1, tfr_2, tfr_3, tfr_4, w_if_ne, w_ild_1, w_iv2, w_ire, trg, true_and, and_true, Nat.reduceAdd, Nat.reduceSub, eq_self, tshm_14, tshm_31, tshm_32, tykm_31, tykm_32, tykm_14, tci_14, tci_15, tci_960, tshm_667, tshm_668, tshm_669, tshm_670, tykm_33, tci_700]
  refine tc_i (D := 0) (fun d' _ => c_isBelow ha7 hca) (by omega) ?_
  rintro z2 _ ⟨hz2, rfl⟩
  try simp only [kb_X12_unsigned_15, w_ald_0, w_ild_2, w_iv1, tfr_0, tfr_1, tfr_2, tfr_3, tfr_4, w_if_ne, w_ild_1, w_iv2, w_ire, trg, true_and, and_true, Nat.reduceAdd, Nat.reduceSub, eq_self, tshm_14, tshm_31, tshm_32, tykm_31, tykm_32, tykm_14, tci_14, tci_15, tci_960, tshm_667, tshm_668, tshm_669, tshm_670, tykm_33, tci_700]
  refine ⟨by omega, fun h2 => ?_, fun h2 => ?_⟩
  rotate_left
  · have e1 : aLo (zlo M a) (zhi M a) = zlo M a := by unfold aLo; rw [if_neg (by omega), if_neg (by omega)]
    have e2 : aHi (zlo M a) (zhi M a) = zhi M a := by unfold aHi; rw [if_neg (by omega), if_neg (by omega)]
    rw [e1, e2]
    refine tc_i (D := 2) (fun d' hd' => c_again (D := D) hdg hD ht ha7 hca hd') (by omega) ?_
    rintro z M2 ⟨p1, p2⟩
    try simp only [kb_X12_unsigned_15, w_ald_0, w_ild_2, w_iv1, tfr_0, tfr_1, tfr_2, tfr_3, tfr_4, w_if_ne, w_ild_1, w_iv2, w_ire, trg, true_and, and_true, Nat.reduceAdd, Nat.reduceSub, eq_self, tshm_14, tshm_31, tshm_32, tykm_31, tykm_32, tykm_14, tci_14, tci_15, tci_960, tshm_667, tshm_668, tshm_669, tshm_670, tykm_33, tci_700]
    exact ⟨_, rfl, rfl, p1, xE_mono p2 (fun r hr => Or.inl hr)⟩
  have s1 : aLo (zlo M a) (zhi M a) = 0 := by unfold aLo; rw [if_neg (by omega), if_pos (by omega)]
  have s2 : aHi (zlo M a) (zhi M a) = (if zhi M a < -zlo M a then -zlo M a else zhi M a) := by unfold aHi; rw [if_neg (by omega), if_pos (by omega)]
  rw [s1, s2]
  refine tb_X12_unsigned_30 (c := false) ?_
  simp (disch := decide) only [kb_X12_unsigned_30, w_ald_0, w_gf_14_11, tw_f, w_ist_3, tkl_n, tkl_i, tkl_l, tkl_r, w_dupi, w_dupr, w_ic, w_iadd, w_pf_14_11, w_ild_3, w_ild_2, w_iv2, tfr_0, tfr_1, tfr_2, tfr_3, tfr_4, w_gf_14_8, w_la, w_lax, w_gf_14_9, w_is4, w_if_le, w_goto, true_and, and_true, Nat.reduceAdd, Nat.reduceSub, eq_self, tshm_14, tshm_31, tshm_32, tykm_31, tykm_32, tykm_14, tci_14, tci_15, tci_960, tshm_667, tshm_668, tshm_669, tshm_670, tykm_33, tci_700, tU_nk, tU_ni, tU_eq]
  rw [hf]
  have y0 : yE (fun _ => False) M (tU M 664 11 (f + 1)) := yE_free
  refine tc_n (D := 1) (fun d' hd' => c_turned (to := f) (a := a) hf2 ha7 (y0.2.2 hB a ha7.1 ha7.2) hd') (by omega) ?_
  rintro M1 ⟨q1, q2, q3⟩
  rw [yE_hi y0 id] at q1
  rw [yE_lo y0 id] at q2
  try simp only [kb_X12_unsigned_30, w_ald_0, w_gf_14_11, tw_f, w_ist_3, tkl_n, tkl_i, tkl_l, tkl_r, w_dupi, w_dupr, w_ic, w_iadd, w_pf_14_11, w_ild_3, w_ild_2, w_iv2, tfr_0, tfr_1, tfr_2, tfr_3, tfr_4, w_gf_14_8, w_la, w_lax, w_gf_14_9, w_is4, w_if_le, w_goto, true_and, and_true, Nat.reduceAdd, Nat.reduceSub, eq_self, tshm_14, tshm_31, tshm_32, tykm_31, tykm_32, tykm_14, tci_14, tci_15, tci_960, tshm_667, tshm_668, tshm_669, tshm_670, tykm_33, tci_700]
  have y1 : yE (toF to f) M M1 := yE_tr (yE_mono y0 (fun _ q => q.elim)) (yE_mono q3.1 (fun r hr => Or.inr (by omega)))
  have hB1 := y1.2.2 hB
  have hcf := hB1 f hf2.1 hf2.2
  have hca1 := hB1 a ha7.1 ha7.2
  have e1 : zlo M1 a = zlo M a := by rw [xE_lo q3 (by omega), yE_lo y0 id]
  have e2 : zhi M1 a = zhi M a := by rw [xE_hi q3 (by omega), yE_hi y0 id]
  have hcf2 := hcf
  obtain ⟨⟨h1, h2⟩, h3, h4⟩ := hcf
  obtain ⟨⟨g1, g2⟩, g3, g4⟩ := hca1
  refine ⟨by omega, by omega, by omega, by omega, ?_⟩
  refine tc_i (D := 0) (fun d' _ => c_order h2 g2 (by omega) (by omega)) (by omega) ?_
  rintro z3 _ ⟨hz3, rfl⟩
  have hz3 : z3 = cmpz (-zlo M a) (zhi M a) := by
    rw [hz3]
    show cmpz (zhi M1 f) (zhi M1 a) = _
    rw [q2, e2]
  have r3 := cmpz_r (-zlo M a) (zhi M a)
  have r4 := cmpz_gt (-zlo M a) (zhi M a)
  have hzl : zhi M1 f = M1 669 f * 1000000000 + M1 670 f := rfl
  have hza : zhi M1 a = M1 669 a * 1000000000 + M1 670 a := rfl
  have hfree : M1 664 11 = f + 1 := by rw [q3.2, tU_eq]
  have n130 : ∀ (u v : Int) (v4 v5 : Option tV), u * 1000000000 + v = (if zhi M a < -zlo M a then -zlo M a else zhi M a) → 0 ≤ v → v < 1000000000 → -30000000000000000000000 ≤ u * 1000000000 + v → u * 1000000000 + v ≤ 30000000000000000000000 → tT e d 3731 130 [some (.inr (.inr (.inl 664))), some (.inl to), some (.inl a), some (.inl f), v4, v5] [.inr (.inl v), .inr (.inl u), .inl f, .inr (.inr (.inl 664))] M1 n (tQi n (fun z M' => res z M' to (flo (uu D) 0) (cei (uu D) (if zhi M a < -zlo M a then -zlo M a else zhi M a)) ∧ xE (toF to f) M M')) := by
    intro u v v4 v5 k1 k2 k3 k4 k5
    refine tb_X12_unsigned_130 (c := false) ?_
    simp only [kb_X12_unsigned_130, w_iv3, tfr_0, tfr_1, tfr_2, tfr_3, tfr_4, w_ald_0, w_ild_3, w_lc0, w_ild_1, w_iv2, w_ist5, tkl_n, tkl_i, tkl_l, tkl_r, w_dupi, w_dupr, w_gf_14_11, tw_f, w_ic, w_isub, w_pf_14_11, w_ild5, w_ire, trg, true_and, and_true, Nat.reduceAdd, Nat.reduceSub, eq_self, tshm_14, tshm_31, tshm_32, tykm_31, tykm_32, tykm_14, tci_14, tci_15, tci_960, tshm_667, tshm_668, tshm_669, tshm_670, tykm_33, tci_700]
    refine tc_n (D := 0) (fun d' _ => c_high hf2) (by omega) ?_
    rintro _ rfl
    try simp only [kb_X12_unsigned_130, w_iv3, tfr_0, tfr_1, tfr_2, tfr_3, tfr_4, w_ald_0, w_ild_3, w_lc0, w_ild_1, w_iv2, w_ist5, tkl_n, tkl_i, tkl_l, tkl_r, w_dupi, w_dupr, w_gf_14_11, tw_f, w_ic, w_isub, w_pf_14_11, w_ild5, w_ire, trg, true_and, and_true, Nat.reduceAdd, Nat.reduceSub, eq_self, tshm_14, tshm_31, tshm_32, tykm_31, tykm_32, tykm_14, tci_14, tci_15, tci_960, tshm_667, tshm_668, tshm_669, tshm_670, tykm_33, tci_700]
    refine tc_n (D := 0) (fun d' _ => c_low hf2) (by omega) ?_
    rintro _ rfl
    try simp only [kb_X12_unsigned_130, w_iv3, tfr_0, tfr_1, tfr_2, tfr_3, tfr_4, w_ald_0, w_ild_3, w_lc0, w_ild_1, w_iv2, w_ist5, tkl_n, tkl_i, tkl_l, tkl_r, w_dupi, w_dupr, w_gf_14_11, tw_f, w_ic, w_isub, w_pf_14_11, w_ild5, w_ire, trg, true_and, and_true, Nat.reduceAdd, Nat.reduceSub, eq_self, tshm_14, tshm_31, tshm_32, tykm_31, tykm_32, tykm_14, tci_14, tci_15, tci_960, tshm_667, tshm_668, tshm_669, tshm_670, tykm_33, tci_700]
    have x4 : xE (fun r => r = f) M1 (sLo (sHi M1 f u v) f 0 0) := xE_tr (sHi_xE rfl ⟨k2, k3⟩ ⟨k4, k5⟩) (sLo_xE rfl ⟨by omega, by omega⟩ ⟨by omega, by omega⟩)
    have y4 : yE (toF to f) M (sLo (sHi M1 f u v) f 0 0) := yE_tr y1 (yE_mono x4.1 (fun r hr => Or.inr (by omega)))
    have l4 : zlo (sLo (sHi M1 f u v) f 0 0) f = 0 := by rw [sLo_lo]; rfl
    have h4 : zhi (sLo (sHi M1 f u v) f 0 0) f = u * 1000000000 + v := by rw [sLo_hi, sHi_hi]
    refine tc_i (D := 2) (fun d' hd' => c_again (to := to) (a := f) (D := D) ((yE_d y4).trans hdg) hD ht hf2 (y4.2.2 hB f hf2.1 hf2.2) hd') (by omega) ?_
    rintro z5 M5 ⟨p1, p2⟩
    rw [l4, h4, k1] at p1
    have hf3 : M5 664 11 = f + 1 := by rw [p2.2, x4.2, hfree]
    try simp (disch := decide) only [kb_X12_unsigned_130, w_iv3, tfr_0, tfr_1, tfr_2, tfr_3, tfr_4, w_ald_0, w_ild_3, w_lc0, w_ild_1, w_iv2, w_ist5, tkl_n, tkl_i, tkl_l, tkl_r, w_dupi, w_dupr, w_gf_14_11, tw_f, w_ic, w_isub, w_pf_14_11, w_ild5, w_ire, trg, true_and, and_true, Nat.reduceAdd, Nat.reduceSub, eq_self, tshm_14, tshm_31, tshm_32, tykm_31, tykm_32, tykm_14, tci_14, tci_15, tci_960, tshm_667, tshm_668, tshm_669, tshm_670, tykm_33, tci_700, tU_nk, tU_ni, tU_eq]
    rw [hf3, show f + 1 - 1 = f by omega]
    have y3 : yE (fun _ => False) M5 (tU M5 664 11 f) := yE_free
    refine ⟨_, rfl, rfl, ⟨p1.1, fun hz => ?_, p1.2.2⟩, yE_tr y4 (yE_tr (yE_mono p2.1 (fun r hr => Or.inl hr)) (yE_mono y3 (fun _ q => q.elim))), ?_⟩
    · rw [yE_lo y3 id, yE_hi y3 id]
      exact p1.2.1 hz
    · rw [tU_eq, hf]
  try simp only [kb_X12_unsigned_30, w_ald_0, w_gf_14_11, tw_f, w_ist_3, tkl_n, tkl_i, tkl_l, tkl_r, w_dupi, w_dupr, w_ic, w_iadd, w_pf_14_11, w_ild_3, w_ild_2, w_iv2, tfr_0, tfr_1, tfr_2, tfr_3, tfr_4, w_gf_14_8, w_la, w_lax, w_gf_14_9, w_is4, w_if_le, w_goto, true_and, and_true, Nat.reduceAdd, Nat.reduceSub, eq_self, tshm_14, tshm_31, tshm_32, tykm_31, tykm_32, tykm_14, tci_14, tci_15, tci_960, tshm_667, tshm_668, tshm_669, tshm_670, tykm_33, tci_700]
  refine ⟨by omega, fun h6 => ?_, fun h6 => ?_⟩
  · have hk : ¬ (zhi M a < -zlo M a) := by omega
    rw [if_neg hk] at n130 ⊢
    refine tb_X12_unsigned_85 (c := false) ?_
    simp only [kb_X12_unsigned_85, w_ic, w_nil, true_and, and_true, Nat.reduceAdd, Nat.reduceSub, eq_self]
    refine tb_X12_unsigned_86 (c := false) ?_
    simp only [kb_X12_unsigned_86, w_ist4, tkl_n, tkl_i, tkl_l, tkl_r, w_ald_0, w_ild_3, w_ild4, w_if_eq, w_gf_14_8, tw_f, w_la, w_lax, w_goto, true_and, and_true, Nat.reduceAdd, Nat.reduceSub, eq_self, tshm_14, tshm_31, tshm_32, tykm_31, tykm_32, tykm_14, tci_14, tci_15, tci_960, tshm_667, tshm_668, tshm_669, tshm_670, tykm_33, tci_700]
    refine ⟨by omega, fun _ => ?_, fun h => absurd trivial h⟩
    refine tb_X12_unsigned_104 (c := false) ?_
    simp only [kb_X12_unsigned_104, w_ald_0, w_gf_14_8, tw_f, w_ild_2, w_la, w_lax, w_nil, true_and, and_true, Nat.reduceAdd, Nat.reduceSub, eq_self, tshm_14, tshm_31, tshm_32, tykm_31, tykm_32, tykm_14, tci_14, tci_15, tci_960, tshm_667, tshm_668, tshm_669, tshm_670, tykm_33, tci_700]
    refine ⟨by omega, ?_⟩
    refine tb_X12_unsigned_110 (c := false) ?_
    simp only [kb_X12_unsigned_110, w_ild4, w_if_eq, w_ald_0, w_gf_14_9, tw_f, w_ild_3, w_la, w_lax, w_goto, true_and, and_true, Nat.reduceAdd, Nat.reduceSub, eq_self, tshm_14, tshm_31, tshm_32, tykm_31, tykm_32, tykm_14, tci_14, tci_15, tci_960, tshm_667, tshm_668, tshm_669, tshm_670, tykm_33, tci_700]
    refine ⟨by omega, fun _ => ?_, fun h => absurd trivial h⟩
    refine tb_X12_unsigned_124 (c := false) ?_
    simp only [kb_X12_unsigned_124, w_ald_0, w_gf_14_9, tw_f, w_ild_2, w_la, w_lax, w_nil, true_and, and_true, Nat.reduceAdd, Nat.reduceSub, eq_self, tshm_14, tshm_31, tshm_32, tykm_31, tykm_32, tykm_14, tci_14, tci_15, tci_960, tshm_667, tshm_668, tshm_669, tshm_670, tykm_33, tci_700]
    refine ⟨by omega, ?_⟩
    exact n130 _ _ _ _ (by rw [← hza]; exact e2) g2.1 g2.2 (by omega) (by omega)
  · have hk : zhi M a < -zlo M a := by omega
    rw [if_pos hk] at n130 ⊢
    refine tb_X12_unsigned_86 (c := false) ?_
    simp only [kb_X12_unsigned_86, w_ist4, tkl_n, tkl_i, tkl_l, tkl_r, w_ald_0, w_ild_3, w_ild4, w_if_eq, w_gf_14_8, tw_f, w_la, w_lax, w_goto, true_and, and_true, Nat.reduceAdd, Nat.reduceSub, eq_self, tshm_14, tshm_31, tshm_32, tykm_31, tykm_32, tykm_14, tci_14, tci_15, tci_960, tshm_667, tshm_668, tshm_669, tshm_670, tykm_33, tci_700]
    refine ⟨by omega, fun h => by omega, fun _ => ⟨by omega, ?_⟩⟩
    refine tb_X12_unsigned_110 (c := false) ?_
    simp only [kb_X12_unsigned_110, w_ild4, w_if_eq, w_ald_0, w_gf_14_9, tw_f, w_ild_3, w_la, w_lax, w_goto, true_and, and_true, Nat.reduceAdd, Nat.reduceSub, eq_self, tshm_14, tshm_31, tshm_32, tykm_31, tykm_32, tykm_14, tci_14, tci_15, tci_960, tshm_667, tshm_668, tshm_669, tshm_670, tykm_33, tci_700]
    refine ⟨by omega, fun h => by omega, fun _ => ⟨by omega, ?_⟩⟩
    exact n130 _ _ _ _ (by rw [← hzl]; exact q2) h2.1 h2.2 (by omega) (by omega)
end MODEL
