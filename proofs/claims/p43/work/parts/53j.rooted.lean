/-! THE MODEL: roots of boxes, numbers. -/
section MODEL
variable {e : tE} {d n : Nat} {M : tM}
theorem rtb_nn (up : Int) (D b a : Nat) : 0 ≤ rtb up D b a := by
  unfold rtb
  omega
theorem c_rooted {to a : Int} {b D : Nat} (hdg : M 664 2 = (D : Int)) (hD : D ≤ 10) (ht : 0 ≤ to ∧ to < 700) (ha : 0 ≤ a ∧ a < 700) (hca : bcan M a) (hle : zlo M a ≤ zhi M a) (hb : 2 ≤ b ∧ b ≤ 9) (hd : 5 ≤ d) :
    tC e d 3695 [.inr (.inr (.inl 664)), .inl to, .inl a, .inl (b : Int)] M n (tQi n (fun z M' => res z M' to (rtb 0 D b (zlo M a).toNat) (rtb 1 D b (zhi M a).toNat) ∧ (z = 0 → 0 ≤ zlo M a) ∧ xE (fun r => r = to) M M')) := by
  have hca0 := hca
  obtain ⟨⟨h1, h2⟩, h3, h4⟩ := hca
  have hza : zlo M a = M 667 a * 1000000000 + M 668 a := rfl
  have hzb : zhi M a = M 669 a * 1000000000 + M 670 a := rfl
  refine tst_X12_rooted ?_
  refine tb_X12_rooted_0 (c := false) ?_
  simp only [kb_X12_rooted_0, w_ald_0, w_ild_2, w_iv1, tfr_0, tfr_1, tfr_2, tfr_3, tfr_4, w_if_eq, w_ic, w_ire, trg, true_and, and_true, Nat.reduceAdd, Nat.reduceSub, eq_self, tshm_14, tshm_31, tshm_32, tykm_31, tykm_32, tykm_14, tci_14, tci_15, tci_960, tshm_667, tshm_668, tshm_669, tshm_670, tykm_33, tci_700]
  refine tc_i (D := 0) (fun d' _ => c_isBelow ha hca0) (by omega) ?_
  rintro z _ ⟨hz, rfl⟩
  try simp only [kb_X12_rooted_0, w_ald_0, w_ild_2, w_iv1, tfr_0, tfr_1, tfr_2, tfr_3, tfr_4, w_if_eq, w_ic, w_ire, trg, true_and, and_true, Nat.reduceAdd, Nat.reduceSub, eq_self, tshm_14, tshm_31, tshm_32, tykm_31, tykm_32, tykm_14, tci_14, tci_15, tci_960, tshm_667, tshm_668, tshm_669, tshm_670, tykm_33, tci_700]
  refine ⟨by omega, fun h => ?_, fun h => ?_⟩
  · have hz0 : 0 ≤ zlo M a := by omega
    have r0 : ¬ rRt 11 ∧ ¬ rRt 12 ∧ ¬ rRt 13 := by unfold rRt; omega
    refine tb_X12_rooted_10 (c := false) ?_
    simp only [kb_X12_rooted_10, w_ald_0, w_gf_14_6, tw_f, w_ild_2, w_la, w_lax, w_gf_14_7, w_ild_3, w_ic, w_iv4, tfr_0, tfr_1, tfr_2, tfr_3, tfr_4, w_if_ne, w_ire, trg, true_and, and_true, Nat.reduceAdd, Nat.reduceSub, eq_self, tshm_14, tshm_31, tshm_32, tykm_31, tykm_32, tykm_14, tci_14, tci_15, tci_960, tshm_667, tshm_668, tshm_669, tshm_670, tykm_33, tci_700]
    refine ⟨by omega, by omega, ?_⟩
    rw [hza] at hz0 ⊢
    rw [hzb]
    refine tc_i (D := 4) (fun d' hd' => c_roots (up := 0) hdg hD h1 ⟨hz0, by omega⟩ hb (Or.inl rfl) hd') (by omega) ?_
    rintro z1 M1 ⟨p1, p2⟩
    have g7 : M1 669 a = M 669 a := p2.1 669 a (by decide) (by decide) (by omega)
    have g8 : M1 670 a = M 670 a := p2.1 670 a (by decide) (by decide) (by omega)
    have hdg1 := (rU_d p2).trans hdg
    try simp only [kb_X12_rooted_10, w_ald_0, w_gf_14_6, tw_f, w_ild_2, w_la, w_lax, w_gf_14_7, w_ild_3, w_ic, w_iv4, tfr_0, tfr_1, tfr_2, tfr_3, tfr_4, w_if_ne, w_ire, trg, true_and, and_true, Nat.reduceAdd, Nat.reduceSub, eq_self, tshm_14, tshm_31, tshm_32, tykm_31, tykm_32, tykm_14, tci_14, tci_15, tci_960, tshm_667, tshm_668, tshm_669, tshm_670, tykm_33, tci_700]
    refine ⟨by omega, fun h => ?_, fun h => ?_⟩
    rotate_left
    · exact ⟨_, rfl, rfl, res_2, fun q => absurd q (by decide), xE_U p2 r0.1 r0.2.1 r0.2.2⟩
    · obtain ⟨p3, p4, p5, p6⟩ : z1 = 1 ∧ _ ∧ _ ∧ _ := by
        rcases p1 with q | q
        · exact q
        · exact absurd q h
      have q6 := p6.1
      unfold zb at p4
      have nn0 := rtb_nn 0 D b (M 667 a * 1000000000 + M 668 a).toNat
      refine tb_X12_rooted_33 (c := false) ?_
      simp only [kb_X12_rooted_33, w_ald_0, w_gf_14_4, tw_f, w_lst4, tkl_n, tkl_i, tkl_l, tkl_r, w_gf_14_5, w_lst6, w_gf_14_8, w_ild_2, w_la, w_lax, w_gf_14_9, w_ild_3, w_ic, w_iv4, tfr_0, tfr_1, tfr_2, tfr_3, tfr_4, w_if_ne, w_ire, trg, true_and, and_true, Nat.reduceAdd, Nat.reduceSub, eq_self, tshm_14, tshm_31, tshm_32, tykm_31, tykm_32, tykm_14, tci_14, tci_15, tci_960, tshm_667, tshm_668, tshm_669, tshm_670, tykm_33, tci_700, g7, g8]
      refine ⟨by omega, by omega, ?_⟩
      refine tc_i (D := 4) (fun d' hd' => c_roots (u := M 669 a) (l := M 670 a) (up := 1) hdg1 hD h2 ⟨by omega, by omega⟩ hb (Or.inr rfl) hd') (by omega) ?_
      rintro z2 M2 ⟨s1, s2⟩
      try simp only [kb_X12_rooted_33, w_ald_0, w_gf_14_4, tw_f, w_lst4, tkl_n, tkl_i, tkl_l, tkl_r, w_gf_14_5, w_lst6, w_gf_14_8, w_ild_2, w_la, w_lax, w_gf_14_9, w_ild_3, w_ic, w_iv4, tfr_0, tfr_1, tfr_2, tfr_3, tfr_4, w_if_ne, w_ire, trg, true_and, and_true, Nat.reduceAdd, Nat.reduceSub, eq_self, tshm_14, tshm_31, tshm_32, tykm_31, tykm_32, tykm_14, tci_14, tci_15, tci_960, tshm_667, tshm_668, tshm_669, tshm_670, tykm_33, tci_700]
      refine ⟨by omega, fun h => ?_, fun h => ?_⟩
      rotate_left
      · exact ⟨_, rfl, rfl, res_2, fun q => absurd q (by decide), xE_U (rU_tr p2 s2) r0.1 r0.2.1 r0.2.2⟩
      · obtain ⟨s3, s4, s5, s6⟩ : z2 = 1 ∧ _ ∧ _ ∧ _ := by
          rcases s1 with q | q
          · exact q
          · exact absurd q h
        have u6 := s6.1
        unfold zb at s4
        have nn1 := rtb_nn 1 D b (M 669 a * 1000000000 + M 670 a).toNat
        refine tb_X12_rooted_68 (c := false) ?_
        simp only [kb_X12_rooted_68, w_ald_0, w_ild_1, w_lld4, w_lld6, w_iv3, tfr_0, tfr_1, tfr_2, tfr_3, tfr_4, w_gf_14_4, tw_f, w_gf_14_5, w_ic, w_ire, trg, true_and, and_true, Nat.reduceAdd, Nat.reduceSub, eq_self, tshm_14, tshm_31, tshm_32, tykm_31, tykm_32, tykm_14, tci_14, tci_15, tci_960, tshm_667, tshm_668, tshm_669, tshm_670, tykm_33, tci_700]
        refine tc_n (D := 0) (fun d' _ => c_low ht) (by omega) ?_
        rintro _ rfl
        have k4 : sLo M2 to (M1 664 4) (M1 664 5) 664 4 = M2 664 4 := sLo_k (fun q => absurd q.1 (by unfold isB; decide))
        have k5 : sLo M2 to (M1 664 4) (M1 664 5) 664 5 = M2 664 5 := sLo_k (fun q => absurd q.1 (by unfold isB; decide))
        try simp only [kb_X12_rooted_68, w_ald_0, w_ild_1, w_lld4, w_lld6, w_iv3, tfr_0, tfr_1, tfr_2, tfr_3, tfr_4, w_gf_14_4, tw_f, w_gf_14_5, w_ic, w_ire, trg, true_and, and_true, Nat.reduceAdd, Nat.reduceSub, eq_self, tshm_14, tshm_31, tshm_32, tykm_31, tykm_32, tykm_14, tci_14, tci_15, tci_960, tshm_667, tshm_668, tshm_669, tshm_670, tykm_33, tci_700, k4, k5]
        refine tc_n (D := 0) (fun d' _ => c_high ht) (by omega) ?_
        rintro _ rfl
        try simp only [kb_X12_rooted_68, w_ald_0, w_ild_1, w_lld4, w_lld6, w_iv3, tfr_0, tfr_1, tfr_2, tfr_3, tfr_4, w_gf_14_4, tw_f, w_gf_14_5, w_ic, w_ire, trg, true_and, and_true, Nat.reduceAdd, Nat.reduceSub, eq_self, tshm_14, tshm_31, tshm_32, tykm_31, tykm_32, tykm_14, tci_14, tci_15, tci_960, tshm_667, tshm_668, tshm_669, tshm_670, tykm_33, tci_700]
        refine ⟨_, rfl, rfl, res_0 ?_ ?_ (by omega), fun _ => hz0, xE_tr (xE_U (rU_tr p2 s2) r0.1 r0.2.1 r0.2.2) (xE_tr (sLo_xE rfl q6 (by omega)) (sHi_xE rfl u6 (by omega)))⟩
        · rw [sHi_lo, sLo_lo]
          exact p4
        · rw [sHi_hi]
          exact s4
  · exact ⟨_, rfl, rfl, res_1, fun q => absurd q (by decide), xE_refl⟩
theorem rtb_le {D b x y : Nat} (hb : b ≠ 0) (h : x ≤ y) : rtb 0 D b x ≤ rtb 1 D b y := by
  unfold rtb
  have h1 : rxv D b x ≤ rxv D b y := by
    unfold rxv
    split
    · exact Nat.mul_le_mul_right _ h
    · exact Nat.div_le_div_right h
  have h2 : rtv b (rxv D b x) ≤ rtv b (rxv D b y) := (rtv_sp b _ hb).2.2 _ (rtv_sp b _ hb).1 (Nat.le_trans (rtv_sp b _ hb).2.1 h1)
  have h3 : tlu (rtv b (rxv D b x)) (rth D b x) 0 0 ≤ tlu (rtv b (rxv D b y)) (rth D b y) 0 1 := by
    unfold tlu
    rw [if_neg (by omega)]
    omega
  have := Nat.mul_le_mul_right (tn (10 - D)) h3
  omega
/-- What a numeral of x with s places answers. -/
noncomputable def nbt (D s x : Nat) : Nat := if s ≤ D then x * tn (D - s) else x / tn (s - D)
noncomputable def nbf (D s x : Nat) : Int := if s ≤ D then 0 else if x % tn (s - D) = 0 then 0 else 1
noncomputable def nbv (up : Int) (D s x : Nat) (ib : Int) : Int := if ib = 1 then -((tlu (nbt D s x) (nbf D s x) ib up * tn (10 - D) : Nat) : Int) else ((tlu (nbt D s x) (nbf D s x) ib up * tn (10 - D) : Nat) : Int)
theorem nbv_le (D s x : Nat) {ib : Int} (hib : ib = 0 ∨ ib = 1) : nbv 0 D s x ib ≤ nbv 1 D s x ib := by
  unfold nbv
  rcases hib with rfl | rfl
  · rw [if_neg (by omega), if_neg (by omega)]
    have h3 : tlu (nbt D s x) (nbf D s x) 0 0 ≤ tlu (nbt D s x) (nbf D s x) 0 1 := by
      unfold tlu
      rw [if_neg (by omega)]
      omega
    have := Nat.mul_le_mul_right (tn (10 - D)) h3
    omega
  · rw [if_pos rfl, if_pos rfl]
    have h3 : tlu (nbt D s x) (nbf D s x) 1 1 ≤ tlu (nbt D s x) (nbf D s x) 1 0 := by
      unfold tlu
      rw [if_neg (show ¬ (nbf D s x = 1 ∧ (1 : Int) ≠ 1) by omega)]
      omega
    have := Nat.mul_le_mul_right (tn (10 - D)) h3
    omega
def rNb : Int → Prop := fun r => r = 0 ∨ r = 4 ∨ r = 8 ∨ r = 14
theorem c_number {to row ib : Int} {s x D : Nat} (hdg : M 664 2 = (D : Int)) (hD : D ≤ 10) (ht : 0 ≤ to ∧ to < 700) (hr : 0 < row ∧ row < 15) (hr8 : row ≠ 8) (hV : Vr M row x) (hx : x < tn 60) (hs : s ≤ 60) (hib : ib = 0 ∨ ib = 1) (hd : 5 ≤ d) :
    tC e d 3669 [.inr (.inr (.inl 664)), .inl to, .inl row, .inl (s : Int), .inl ib] M n (tQi n (fun z M' => res z M' to (nbv 0 D s x ib) (nbv 1 D s x ib) ∧ xE (fun r => r = to) M M')) := by
  have r0 : ¬ rNb 11 ∧ ¬ rNb 12 ∧ ¬ rNb 13 := by unfold rNb; omega
  have hf : nbf D s x = 0 ∨ nbf D s x = 1 := by
    unfold nbf
    split
    · exact Or.inl rfl
    · split
      · exact Or.inl rfl
      · exact Or.inr rfl
  have ht6 : nbt D s x < tn 70 := by
    unfold nbt
    split
    · have h3 : x * tn (D - s) ≤ x * tn 10 := Nat.mul_le_mul_left x (tn_mono (by omega))
      have h4 : x * tn 10 < tn 60 * tn 10 := Nat.mul_lt_mul_of_pos_right hx (tn_pos 10)
      rw [← tn_add] at h4
      exact Nat.lt_of_le_of_lt h3 h4
    · exact Nat.lt_of_le_of_lt (Nat.div_le_self _ _) (Nat.lt_trans hx (tn_lt (by omega)))
  have hs1 : (nbt D s x + 1) * tn 10 < pw 60 := by
    have h3 : (nbt D s x + 1) * tn 10 ≤ tn 70 * tn 10 := Nat.mul_le_mul_right _ ht6
    rw [← tn_add] at h3
    exact Nat.lt_of_le_of_lt h3 (tn_pw (by omega))
  have val : ∀ (up : Int) (M1 : tM), zb M1 = (if ib = 1 then -((tlu (nbt D s x) (nbf D s x) ib up * tn (10 - D) : Nat) : Int) else ((tlu (nbt D s x) (nbf D s x) ib up * tn (10 - D) : Nat) : Int)) → zb M1 = nbv up D s x ib := fun up M1 h => h
  have bnd : ∀ (up : Int), tlu (nbt D s x) (nbf D s x) ib up * tn (10 - D) < 10000000000000000000000 → -30000000000000000000000 ≤ nbv up D s x ib ∧ nbv up D s x ib ≤ 30000000000000000000000 := by
    intro up h
    unfold nbv
    split <;> omega
  have ct : ∀ (M1 : tM) (d' : Nat), Vr M1 0 x → 2 ≤ d' → tC e d' 3722 [.inr (.inr (.inl 664)), .inl 0, .inl ((D : Int) - (s : Int))] M1 n (tQi n (fun z M' => z = nbf D s x ∧ Vr M' 0 (nbt D s x) ∧ rE (fun r => r = 0) M1 M')) := by
    intro M1 d' q1 q2
    unfold nbt nbf
    by_cases h : s ≤ D
    · rw [if_pos h, if_pos h, show (D : Int) - (s : Int) = ((D - s : Nat) : Int) by omega]
      refine c_tens (by omega) q1 (by omega) ?_ q2
      have h3 : x * tn (D - s) ≤ x * tn 10 := Nat.mul_le_mul_left x (tn_mono (by omega))
      have h4 : x * tn 10 < tn 60 * tn 10 := Nat.mul_lt_mul_of_pos_right hx (tn_pos 10)
      rw [← tn_add] at h4
      exact Nat.lt_of_le_of_lt h3 (Nat.lt_trans h4 (tn_pw (by omega)))
    · rw [if_neg h, if_neg h, show (D : Int) - (s : Int) = -((s - D : Nat) : Int) by omega]
      exact c_tensd (by omega) q1 (by omega) q2
  refine tst_X12_number ?_
  refine tb_X12_number_0 (c := false) ?_
  simp only [kb_X12_number_0, w_ald_0, w_ild_2, w_ic, w_iv2, tfr_0, tfr_1, tfr_2, tfr_3, tfr_4, w_gf_14_2, tw_f, w_ild_3, w_isub, w_ist5, tkl_n, tkl_i, tkl_l, tkl_r, w_bi, w_ild5, w_ild4, w_iv4, w_if_ne, w_ire, trg, true_and, and_true, Nat.reduceAdd, Nat.reduceSub, eq_self, tshm_14, tshm_31, tshm_32, tykm_31, tykm_32, tykm_14, tci_14, tci_15, tci_960, tshm_667, tshm_668, tshm_669, tshm_670, tykm_33, tci_700]
  refine tc_n (D := 1) (fun d' hd' => c_copies (a := row) (b := 0) (x := x) (by omega) (by omega) (by omega) hV hd') (by omega) ?_
  rintro M1 ⟨p1, p2⟩
  have hdg1 : M1 664 2 = (D : Int) := (rE_d p2).trans hdg
  try simp only [kb_X12_number_0, w_ald_0, w_ild_2, w_ic, w_iv2, tfr_0, tfr_1, tfr_2, tfr_3, tfr_4, w_gf_14_2, tw_f, w_ild_3, w_isub, w_ist5, tkl_n, tkl_i, tkl_l, tkl_r, w_bi, w_ild5, w_ild4, w_iv4, w_if_ne, w_ire, trg, true_and, and_true, Nat.reduceAdd, Nat.reduceSub, eq_self, tshm_14, tshm_31, tshm_32, tykm_31, tykm_32, tykm_14, tci_14, tci_15, tci_960, tshm_667, tshm_668, tshm_669, tshm_670, tykm_33, tci_700, hdg1]
  refine tc_i (D := 2) (fun d' hd' => ct M1 d' p1 hd') (by omega) ?_
  rintro z M2 ⟨rfl, p3, p4⟩
  try simp only [kb_X12_number_0, w_ald_0, w_ild_2, w_ic, w_iv2, tfr_0, tfr_1, tfr_2, tfr_3, tfr_4, w_gf_14_2, tw_f, w_ild_3, w_isub, w_ist5, tkl_n, tkl_i, tkl_l, tkl_r, w_bi, w_ild5, w_ild4, w_iv4, w_if_ne, w_ire, trg, true_and, and_true, Nat.reduceAdd, Nat.reduceSub, eq_self, tshm_14, tshm_31, tshm_32, tykm_31, tykm_32, tykm_14, tci_14, tci_15, tci_960, tshm_667, tshm_668, tshm_669, tshm_670, tykm_33, tci_700]
  refine tc_n (D := 1) (fun d' hd' => c_copies (a := 0) (b := 8) (x := nbt D s x) (by omega) (by omega) (by omega) p3 hd') (by omega) ?_
  rintro M3 ⟨p5, p6⟩
  have hdg3 : M3 664 2 = (D : Int) := (rE_d p6).trans ((rE_d p4).trans hdg1)
  have q3 : rU rNb M M3 := rU_tr (rU_rm p2 (fun r hr => by unfold rNb; omega)) (rU_tr (rU_rm p4 (fun r hr => by unfold rNb; omega)) (rU_rm p6 (fun r hr => by unfold rNb; omega)))
  try simp only [kb_X12_number_0, w_ald_0, w_ild_2, w_ic, w_iv2, tfr_0, tfr_1, tfr_2, tfr_3, tfr_4, w_gf_14_2, tw_f, w_ild_3, w_isub, w_ist5, tkl_n, tkl_i, tkl_l, tkl_r, w_bi, w_ild5, w_ild4, w_iv4, w_if_ne, w_ire, trg, true_and, and_true, Nat.reduceAdd, Nat.reduceSub, eq_self, tshm_14, tshm_31, tshm_32, tykm_31, tykm_32, tykm_14, tci_14, tci_15, tci_960, tshm_667, tshm_668, tshm_669, tshm_670, tykm_33, tci_700]
  refine tc_i (D := 3) (fun d' hd' => c_tells (t := nbt D s x) (D := D) (up := 0) (by omega) (Vr_E p3 p6 (by omega)) hdg3 hD hf hib (Or.inl rfl) hs1 hd') (by omega) ?_
  rintro z1 M4 ⟨s1, s2⟩
  have hdg4 : M4 664 2 = (D : Int) := (rU_d s2).trans hdg3
  have q4 : rU rNb M M4 := rU_tr q3 (rU_mono s2 (fun r hr => by unfold rNb; omega))
  try simp only [kb_X12_number_0, w_ald_0, w_ild_2, w_ic, w_iv2, tfr_0, tfr_1, tfr_2, tfr_3, tfr_4, w_gf_14_2, tw_f, w_ild_3, w_isub, w_ist5, tkl_n, tkl_i, tkl_l, tkl_r, w_bi, w_ild5, w_ild4, w_iv4, w_if_ne, w_ire, trg, true_and, and_true, Nat.reduceAdd, Nat.reduceSub, eq_self, tshm_14, tshm_31, tshm_32, tykm_31, tykm_32, tykm_14, tci_14, tci_15, tci_960, tshm_667, tshm_668, tshm_669, tshm_670, tykm_33, tci_700]
  refine ⟨by omega, fun h => ?_, fun h => ⟨_, rfl, rfl, res_2, xE_U q4 r0.1 r0.2.1 r0.2.2⟩⟩
  obtain ⟨s3, s4, s5, s6⟩ : z1 = 1 ∧ _ ∧ _ ∧ _ := by
    rcases s1 with q | q
    · exact q
    · exact absurd q.1 h
  have b1 := bnd 0 s4
  have v1 := val 0 M4 s5
  have u1 := s6.1
  unfold zb at v1
  refine tb_X12_number_41 (c := false) ?_
  simp only [kb_X12_number_41, w_ald_0, w_gf_14_4, tw_f, w_lst6, tkl_n, tkl_i, tkl_l, tkl_r, w_gf_14_5, w_lst8, w_bi, w_ild5, w_ild4, w_ic, w_iv4, tfr_0, tfr_1, tfr_2, tfr_3, tfr_4, w_if_ne, w_ire, trg, true_and, and_true, Nat.reduceAdd, Nat.reduceSub, eq_self, tshm_14, tshm_31, tshm_32, tykm_31, tykm_32, tykm_14, tci_14, tci_15, tci_960, tshm_667, tshm_668, tshm_669, tshm_670, tykm_33, tci_700]
  refine tc_i (D := 3) (fun d' hd' => c_tells (t := nbt D s x) (D := D) (up := 1) (by omega) (Vr_U p5 s2 (by omega)) hdg4 hD hf hib (Or.inr rfl) hs1 hd') (by omega) ?_
  rintro z2 M5 ⟨s7, s8⟩
  have q5 : rU rNb M M5 := rU_tr q4 (rU_mono s8 (fun r hr => by unfold rNb; omega))
  try simp only [kb_X12_number_41, w_ald_0, w_gf_14_4, tw_f, w_lst6, tkl_n, tkl_i, tkl_l, tkl_r, w_gf_14_5, w_lst8, w_bi, w_ild5, w_ild4, w_ic, w_iv4, tfr_0, tfr_1, tfr_2, tfr_3, tfr_4, w_if_ne, w_ire, trg, true_and, and_true, Nat.reduceAdd, Nat.reduceSub, eq_self, tshm_14, tshm_31, tshm_32, tykm_31, tykm_32, tykm_14, tci_14, tci_15, tci_960, tshm_667, tshm_668, tshm_669, tshm_670, tykm_33, tci_700]
  refine ⟨by omega, fun h => ?_, fun h => ⟨_, rfl, rfl, res_2, xE_U q5 r0.1 r0.2.1 r0.2.2⟩⟩
  obtain ⟨s9, s10, s11, s12⟩ : z2 = 1 ∧ _ ∧ _ ∧ _ := by
    rcases s7 with q | q
    · exact q
    · exact absurd q.1 h
  have b2 := bnd 1 s10
  have v2 := val 1 M5 s11
  have u2 := s12.1
  unfold zb at v2
  refine tb_X12_number_69 (c := false) ?_
  simp only [kb_X12_number_69, w_ald_0, w_ild_1, w_lld6, w_lld8, w_iv3, tfr_0, tfr_1, tfr_2, tfr_3, tfr_4, w_gf_14_4, tw_f, w_gf_14_5, w_ic, w_ire, trg, true_and, and_true, Nat.reduceAdd, Nat.reduceSub, eq_self, tshm_14, tshm_31, tshm_32, tykm_31, tykm_32, tykm_14, tci_14, tci_15, tci_960, tshm_667, tshm_668, tshm_669, tshm_670, tykm_33, tci_700]
  refine tc_n (D := 0) (fun d' _ => c_low ht) (by omega) ?_
  rintro _ rfl
  have k4 : sLo M5 to (M4 664 4) (M4 664 5) 664 4 = M5 664 4 := sLo_k (fun q => absurd q.1 (by unfold isB; decide))
  have k5 : sLo M5 to (M4 664 4) (M4 664 5) 664 5 = M5 664 5 := sLo_k (fun q => absurd q.1 (by unfold isB; decide))
  try simp only [kb_X12_number_69, w_ald_0, w_ild_1, w_lld6, w_lld8, w_iv3, tfr_0, tfr_1, tfr_2, tfr_3, tfr_4, w_gf_14_4, tw_f, w_gf_14_5, w_ic, w_ire, trg, true_and, and_true, Nat.reduceAdd, Nat.reduceSub, eq_self, tshm_14, tshm_31, tshm_32, tykm_31, tykm_32, tykm_14, tci_14, tci_15, tci_960, tshm_667, tshm_668, tshm_669, tshm_670, tykm_33, tci_700, k4, k5]
  refine tc_n (D := 0) (fun d' _ => c_high ht) (by omega) ?_
  rintro _ rfl
  try simp only [kb_X12_number_69, w_ald_0, w_ild_1, w_lld6, w_lld8, w_iv3, tfr_0, tfr_1, tfr_2, tfr_3, tfr_4, w_gf_14_4, tw_f, w_gf_14_5, w_ic, w_ire, trg, true_and, and_true, Nat.reduceAdd, Nat.reduceSub, eq_self, tshm_14, tshm_31, tshm_32, tykm_31, tykm_32, tykm_14, tci_14, tci_15, tci_960, tshm_667, tshm_668, tshm_669, tshm_670, tykm_33, tci_700]
  refine ⟨_, rfl, rfl, res_0 ?_ ?_ (by unfold zb at s5 s11; omega), xE_tr (xE_U q5 r0.1 r0.2.1 r0.2.2) (xE_tr (sLo_xE rfl u1 (by omega)) (sHi_xE rfl u2 (by omega)))⟩
  · rw [sHi_lo, sLo_lo]
    exact v1
  · rw [sHi_hi]
    exact v2
end MODEL
