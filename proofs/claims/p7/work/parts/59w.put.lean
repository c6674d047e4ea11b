
/-! THE MODEL, exactly: numbers told, put. -/
/-- whether a number told is too great -/
def GN (z : Int) (D s x : Nat) (ib : Int) : Prop := (z = 0 ∧ ¬ FZ (nbv 0 D s x ib) ∧ ¬ FZ (nbv 1 D s x ib)) ∨ (z = 2 ∧ (FZ (nbv 0 D s x ib) ∨ FZ (nbv 1 D s x ib)))
theorem tz_sg {x : Int} : (0 ≤ x → 0 ≤ x.tdiv 1000000000 ∧ 0 ≤ x.tmod 1000000000) ∧ (x < 0 → x.tdiv 1000000000 ≤ 0 ∧ x.tmod 1000000000 ≤ 0) := by
  refine ⟨fun h => ?_, fun h => ?_⟩
  · rw [Int.tdiv_eq_ediv_of_nonneg h, Int.tmod_eq_emod_of_nonneg h]
    omega
  · obtain ⟨y, hy⟩ : ∃ y : Int, y = -x := ⟨_, rfl⟩
    have hx : x = -y := by omega
    have hy0 : 0 ≤ y := by omega
    rw [hx, Int.neg_tdiv, Int.neg_tmod, Int.tdiv_eq_ediv_of_nonneg hy0, Int.tmod_eq_emod_of_nonneg hy0]
    omega
section MODEL
variable {e : tE} {d n D : Nat} {M : tM}
theorem c_number_x {to row ib : Int} {s x D : Nat} (hdg : M 664 2 = (D : Int)) (hD : D ≤ 10) (ht : 0 ≤ to ∧ to < 700) (hr : 0 < row ∧ row < 15) (hr8 : row ≠ 8) (hV : Vr M row x) (hx : x < tn 60) (hs : s ≤ 60) (hib : ib = 0 ∨ ib = 1) (hd : 5 ≤ d) :
    tC e d 3669 [.inr (.inr (.inl 664)), .inl to, .inl row, .inl (s : Int), .inl ib] M n (tQi n (fun z M' => (res z M' to (nbv 0 D s x ib) (nbv 1 D s x ib) ∧ GN z D s x ib) ∧ xE (fun r => r = to) M M')) := by
  have r0 : ¬ rNb 11 ∧ ¬ rNb 12 ∧ ¬ rNb 13 := by unfold rNb; omega
  have hf : nbf D s x = 0 ∨ nbf D s x = 1 := by
    unfold nbf
    split
    · exact Or.inl rfl
    · split
      · exact Or.inl rfl
      · exact Or.inr rfl
  have ht6 : nbt D s x < tn 70 := by
    unfold nbt
    split
    · have h3 : x * tn (D - s) ≤ x * tn 10 := Nat.mul_le_mul_left x (tn_mono (by omega))
      have h4 : x * tn 10 < tn 60 * tn 10 := Nat.mul_lt_mul_of_pos_right hx (tn_pos 10)
      rw [← tn_add] at h4
      exact Nat.lt_of_le_of_lt h3 h4
    · exact Nat.lt_of_le_of_lt (Nat.div_le_self _ _) (Nat.lt_trans hx (tn_lt (by omega)))
  have hs1 : (nbt D s x + 1) * tn 10 < pw 60 := by
    have h3 : (nbt D s x + 1) * tn 10 ≤ tn 70 * tn 10 := Nat.mul_le_mul_right _ ht6
    rw [← tn_add] at h3
    exact Nat.lt_of_le_of_lt h3 (tn_pw (by omega))
  have val : ∀ (up : Int) (M1 : tM), zb M1 = (if ib = 1 then -((tlu (nbt D s x) (nbf D s x) ib up * tn (10 - D) : Nat) : Int) else ((tlu (nbt D s x) (nbf D s x) ib up * tn (10 - D) : Nat) : Int)) → zb M1 = nbv up D s x ib := fun up M1 h => h
  have bnd : ∀ (up : Int), tlu (nbt D s x) (nbf D s x) ib up * tn (10 - D) < 10000000000000000000000 → -30000000000000000000000 ≤ nbv up D s x ib ∧ nbv up D s x ib ≤ 30000000000000000000000 := by
    intro up h
    unfold nbv
    split <;> omega
  have ct : ∀ (M1 : tM) (d' : Nat), Vr M1 0 x → 2 ≤ d' → tC e d' 3722 [.inr (.inr (.inl 664)), .inl 0, .inl ((D : Int) - (s : Int))] M1 n (tQi n (fun z M' => z = nbf D s x ∧ Vr M' 0 (nbt D s x) ∧ rE (fun r => r = 0) M1 M')) := by
    intro M1 d' q1 q2
    unfold nbt nbf
    by_cases h : s ≤ D
    · rw [if_pos h, if_pos h, show (D : Int) - (s : Int) = ((D - s : Nat) : Int) by omega]
      refine c_tens (by omega) q1 (by omega) ?_ q2
      have h3 : x * tn (D - s) ≤ x * tn 10 := Nat.mul_le_mul_left x (tn_mono (by omega))
      have h4 : x * tn 10 < tn 60 * tn 10 := Nat.mul_lt_mul_of_pos_right hx (tn_pos 10)
      rw [← tn_add] at h4
      exact Nat.lt_of_le_of_lt h3 (Nat.lt_trans h4 (tn_pw (by omega)))
    · rw [if_neg h, if_neg h, show (D : Int) - (s : Int) = -((s - D : Nat) : Int) by omega]
      exact c_tensd (by omega) q1 (by omega) q2
  refine tst_X12_number ?_
  refine tb_X12_number_0 (c := false) ?_
  simp only [kb_X12_number_0, w_ald_0, w_ild_2, w_ic, w_iv2, tfr_0, tfr_1, tfr_2, tfr_3, tfr_4, w_gf_14_2, tw_f, w_ild_3, w_isub, w_ist5, tkl_n, tkl_i, tkl_l, tkl_r, w_bi, w_ild5, w_ild4, w_iv4, w_if_ne, w_ire, trg, true_and, and_true, Nat.reduceAdd, Nat.reduceSub, eq_self, tshm_14, tshm_31, tshm_32, tykm_31, tykm_32, tykm_14, tci_14, tci_15, tci_960, tshm_667, tshm_668, tshm_669, tshm_670, tykm_33, tci_700]
  refine tc_n (D := 1) (fun d' hd' => c_copies (a := row) (b := 0) (x := x) (by omega) (by omega) (by omega) hV hd') (by omega) ?_
  rintro M1 ⟨p1, p2⟩
  have hdg1 : M1 664 2 = (D : Int) := (rE_d p2).trans hdg
  try simp only [kb_X12_number_0, w_ald_0, w_ild_2, w_ic, w_iv2, tfr_0, tfr_1, tfr_2, tfr_3, tfr_4, w_gf_14_2, tw_f, w_ild_3, w_isub, w_ist5, tkl_n, tkl_i, tkl_l, tkl_r, w_bi, w_ild5, w_ild4, w_iv4, w_if_ne, w_ire, trg, true_and, and_true, Nat.reduceAdd, Nat.reduceSub, eq_self, tshm_14, tshm_31, tshm_32, tykm_31, tykm_32, tykm_14, tci_14, tci_15, tci_960, tshm_667, tshm_668, tshm_669, tshm_670, tykm_33, tci_700, hdg1]
  refine tc_i (D := 2) (fun d' hd' => ct M1 d' p1 hd') (by omega) ?_
  rintro z M2 ⟨rfl, p3, p4⟩
  try simp only [kb_X12_number_0, w_ald_0, w_ild_2, w_ic, w_iv2, tfr_0, tfr_1, tfr_2, tfr_3, tfr_4, w_gf_14_2, tw_f, w_ild_3, w_isub, w_ist5, tkl_n, tkl_i, tkl_l, tkl_r, w_bi, w_ild5, w_ild4, w_iv4, w_if_ne, w_ire, trg, true_and, and_true, Nat.reduceAdd, Nat.reduceSub, eq_self, tshm_14, tshm_31, tshm_32, tykm_31, tykm_32, tykm_14, tci_14, tci_15, tci_960, tshm_667, tshm_668, tshm_669, tshm_670, tykm_33, tci_700]
  refine tc_n (D := 1) (fun d' hd' => c_copies (a := 0) (b := 8) (x := nbt D s x) (by omega) (by omega) (by omega) p3 hd') (by omega) ?_
  rintro M3 ⟨p5, p6⟩
  have hdg3 : M3 664 2 = (D : Int) := (rE_d p6).trans ((rE_d p4).trans hdg1)
  have q3 : rU rNb M M3 := rU_tr (rU_rm p2 (fun r hr => by unfold rNb; omega)) (rU_tr (rU_rm p4 (fun r hr => by unfold rNb; omega)) (rU_rm p6 (fun r hr => by unfold rNb; omega)))
  try simp only [kb_X12_number_0, w_ald_0, w_ild_2, w_ic, w_iv2, tfr_0, tfr_1, tfr_2, tfr_3, tfr_4, w_gf_14_2, tw_f, w_ild_3, w_isub, w_ist5, tkl_n, tkl_i, tkl_l, tkl_r, w_bi, w_ild5, w_ild4, w_iv4, w_if_ne, w_ire, trg, true_and, and_true, Nat.reduceAdd, Nat.reduceSub, eq_self, tshm_14, tshm_31, tshm_32, tykm_31, tykm_32, tykm_14, tci_14, tci_15, tci_960, tshm_667, tshm_668, tshm_669, tshm_670, tykm_33, tci_700]
  refine tc_i (D := 3) (fun d' hd' => c_tells (t := nbt D s x) (D := D) (up := 0) (by omega) (Vr_E p3 p6 (by omega)) hdg3 hD hf hib (Or.inl rfl) hs1 hd') (by omega) ?_
  rintro z1 M4 ⟨s1, s2⟩
  have hdg4 : M4 664 2 = (D : Int) := (rU_d s2).trans hdg3
  have q4 : rU rNb M M4 := rU_tr q3 (rU_mono s2 (fun r hr => by unfold rNb; omega))
  try simp only [kb_X12_number_0, w_ald_0, w_ild_2, w_ic, w_iv2, tfr_0, tfr_1, tfr_2, tfr_3, tfr_4, w_gf_14_2, tw_f, w_ild_3, w_isub, w_ist5, tkl_n, tkl_i, tkl_l, tkl_r, w_bi, w_ild5, w_ild4, w_iv4, w_if_ne, w_ire, trg, true_and, and_true, Nat.reduceAdd, Nat.reduceSub, eq_self, tshm_14, tshm_31, tshm_32, tykm_31, tykm_32, tykm_14, tci_14, tci_15, tci_960, tshm_667, tshm_668, tshm_669, tshm_670, tykm_33, tci_700]
  refine ⟨by omega, fun h => ?_, fun h => ⟨_, rfl, rfl, ⟨res_2, Or.inr ⟨rfl, Or.inl (nb_far.mp (by rcases s1 with q | q; exact absurd (show ¬ z1 = 0 by omega) h; exact q.2))⟩⟩, xE_U q4 r0.1 r0.2.1 r0.2.2⟩⟩
  obtain ⟨s3, s4, s5, s6⟩ : z1 = 1 ∧ _ ∧ _ ∧ _ := by
    rcases s1 with q | q
    · exact q
    · exact absurd q.1 h
  have b1 := bnd 0 s4
  have v1 := val 0 M4 s5
  have u1 := s6.1
  unfold zb at v1
  refine tb_X12_number_41 (c := false) ?_
  simp only [kb_X12_number_41, w_ald_0, w_gf_14_4, tw_f, w_lst6, tkl_n, tkl_i, tkl_l, tkl_r, w_gf_14_5, w_lst8, w_bi, w_ild5, w_ild4, w_ic, w_iv4, tfr_0, tfr_1, tfr_2, tfr_3, tfr_4, w_if_ne, w_ire, trg, true_and, and_true, Nat.reduceAdd, Nat.reduceSub, eq_self, tshm_14, tshm_31, tshm_32, tykm_31, tykm_32, tykm_14, tci_14, tci_15, tci_960, tshm_667, tshm_668, tshm_669, tshm_670, tykm_33, tci_700]
  refine tc_i (D := 3) (fun d' hd' => c_tells (t := nbt D s x) (D := D) (up := 1) (by omega) (Vr_U p5 s2 (by omega)) hdg4 hD hf hib (Or.inr rfl) hs1 hd') (by omega) ?_
  rintro z2 M5 ⟨s7, s8⟩
  have q5 : rU rNb M M5 := rU_tr q4 (rU_mono s8 (fun r hr => by unfold rNb; omega))
  try simp only [kb_X12_number_41, w_ald_0, w_gf_14_4, tw_f, w_lst6, tkl_n, tkl_i, tkl_l, tkl_r, w_gf_14_5, w_lst8, w_bi, w_ild5, w_ild4, w_ic, w_iv4, tfr_0, tfr_1, tfr_2, tfr_3, tfr_4, w_if_ne, w_ire, trg, true_and, and_true, Nat.reduceAdd, Nat.reduceSub, eq_self, tshm_14, tshm_31, tshm_32, tykm_31, tykm_32, tykm_14, tci_14, tci_15, tci_960, tshm_667, tshm_668, tshm_669, tshm_670, tykm_33, tci_700]
  refine ⟨by omega, fun h => ?_, fun h => ⟨_, rfl, rfl, ⟨res_2, Or.inr ⟨rfl, Or.inr (nb_far.mp (by rcases s7 with q | q; exact absurd (show ¬ z2 = 0 by omega) h; exact q.2))⟩⟩, xE_U q5 r0.1 r0.2.1 r0.2.2⟩⟩
  obtain ⟨s9, s10, s11, s12⟩ : z2 = 1 ∧ _ ∧ _ ∧ _ := by
    rcases s7 with q | q
    · exact q
    · exact absurd q.1 h
  have b2 := bnd 1 s10
  have v2 := val 1 M5 s11
  have u2 := s12.1
  unfold zb at v2
  refine tb_X12_number_69 (c := false) ?_
  simp only [kb_X12_number_69, w_ald_0, w_ild_1, w_lld6, w_lld8, w_iv3, tfr_0, tfr_1, tfr_2, tfr_3, tfr_4, w_gf_14_4, tw_f, w_gf_14_5, w_ic, w_ire, trg, true_and, and_true, Nat.reduceAdd, Nat.reduceSub, eq_self, tshm_14, tshm_31, tshm_32, tykm_31, tykm_32, tykm_14, tci_14, tci_15, tci_960, tshm_667, tshm_668, tshm_669, tshm_670, tykm_33, tci_700]
  refine tc_n (D := 0) (fun d' _ => c_low ht) (by omega) ?_
  rintro _ rfl
  have k4 : sLo M5 to (M4 664 4) (M4 664 5) 664 4 = M5 664 4 := sLo_k (fun q => absurd q.1 (by unfold isB; decide))
  have k5 : sLo M5 to (M4 664 4) (M4 664 5) 664 5 = M5 664 5 := sLo_k (fun q => absurd q.1 (by unfold isB; decide))
  try simp only [kb_X12_number_69, w_ald_0, w_ild_1, w_lld6, w_lld8, w_iv3, tfr_0, tfr_1, tfr_2, tfr_3, tfr_4, w_gf_14_4, tw_f, w_gf_14_5, w_ic, w_ire, trg, true_and, and_true, Nat.reduceAdd, Nat.reduceSub, eq_self, tshm_14, tshm_31, tshm_32, tykm_31, tykm_32, tykm_14, tci_14, tci_15, tci_960, tshm_667, tshm_668, tshm_669, tshm_670, tykm_33, tci_700, k4, k5]
  refine tc_n (D := 0) (fun d' _ => c_high ht) (by omega) ?_
  rintro _ rfl
  try simp only [kb_X12_number_69, w_ald_0, w_ild_1, w_lld6, w_lld8, w_iv3, tfr_0, tfr_1, tfr_2, tfr_3, tfr_4, w_gf_14_4, tw_f, w_gf_14_5, w_ic, w_ire, trg, true_and, and_true, Nat.reduceAdd, Nat.reduceSub, eq_self, tshm_14, tshm_31, tshm_32, tykm_31, tykm_32, tykm_14, tci_14, tci_15, tci_960, tshm_667, tshm_668, tshm_669, tshm_670, tykm_33, tci_700]
  have f0 : ¬ FZ (nbv 0 D s x ib) := fun q => by have := nb_far.mpr q; omega
  have f1 : ¬ FZ (nbv 1 D s x ib) := fun q => by have := nb_far.mpr q; omega
  refine ⟨_, rfl, rfl, ⟨res_0 ?_ ?_ (by unfold zb at s5 s11; omega), Or.inl ⟨rfl, f0, f1⟩⟩, xE_tr (xE_U q5 r0.1 r0.2.1 r0.2.2) (xE_tr (sLo_xE rfl u1 (by omega)) (sHi_xE rfl u2 (by omega)))⟩
  · rw [sHi_lo, sLo_lo]
    exact v1
  · rw [sHi_hi]
    exact v2
/-- what put answers, and what it throws -/
def OP (D : Nat) (x1 X x3 : Int) (z : Int) (M' : tM) : Prop := (¬ (0 ≤ x1 ∧ x1 ≤ 9) ∧ M' 664 3 = 1) ∨ (((0 ≤ x1 ∧ x1 ≤ 9) ∧ ¬ (0 ≤ x3 ∧ x3 ≤ 18)) ∧ M' 664 3 = 2) ∨ (((0 ≤ x1 ∧ x1 ≤ 9) ∧ (0 ≤ x3 ∧ x3 ≤ 18)) ∧ (FZ (nlo D x3.toNat X) ∨ FZ (nhi D x3.toNat X)) ∧ M' 664 3 = 3) ∨ (((0 ≤ x1 ∧ x1 ≤ 9) ∧ (0 ≤ x3 ∧ x3 ≤ 18)) ∧ ¬ (FZ (nlo D x3.toNat X) ∨ FZ (nhi D x3.toNat X)) ∧ M' 664 3 = 0 ∧ ((z = 1 ∧ nlo D x3.toNat X = nhi D x3.toNat X) ∨ (z = 0 ∧ ¬ nlo D x3.toNat X = nhi D x3.toNat X)))
theorem o_put_x {x1 x2 x3 : Int} (hP : MF M D) (h1 : (-2147483648 ≤ x1 ∧ x1 < 2147483648)) (h2 : -9223372036854775808 ≤ x2 ∧ x2 < 9223372036854775808) (h3 : (-2147483648 ≤ x3 ∧ x3 < 2147483648)) (hd : 6 ≤ d) : tC e d 3683 [.inr (.inr (.inl 664)), .inl x1, .inr (.inl x2), .inl x3] M n (tQi n (fun z M' => OP D x1 x2 x3 z M' ∧ MF M' D ∧ MC M M')) := by
  refine tst_X12_put ?_
  have n138 : ∀ (L : tL) (M1 : tM), OP D x1 x2 x3 0 M1 → MF M1 D ∧ MC M M1 → tT e d 3683 138 (some (.inr (.inr (.inl 664))) :: L) [] M1 n (tQi n (fun z M' => OP D x1 x2 x3 z M' ∧ MF M' D ∧ MC M M')) := by
    intro L M1 o q
    refine tb_X12_put_138 (c := false) ?_
    simp only [kb_X12_put_138, w_ic, w_nil, true_and, and_true, Nat.reduceAdd, Nat.reduceSub, eq_self]
    refine tb_X12_put_139 (c := false) ?_
    simp only [kb_X12_put_139, w_ire, trg, true_and, and_true, Nat.reduceAdd, Nat.reduceSub, eq_self]
    exact ⟨by omega, 0, rfl, rfl, o, q⟩
  have n118 : ∀ (A B C E : Option tV) (M1 : tM) (v : Int), MF M1 D ∧ MC M M1 → (0 ≤ x1 ∧ x1 ≤ 9) → (0 ≤ x3 ∧ x3 ≤ 18) → ((v = 0 ∧ ¬ (FZ (nlo D x3.toNat x2) ∨ FZ (nhi D x3.toNat x2)) ∧ zlo M1 60 = nlo D x3.toNat x2 ∧ zhi M1 60 = nhi D x3.toNat x2 ∧ OB M1 60) ∨ (v = 3 ∧ (FZ (nlo D x3.toNat x2) ∨ FZ (nhi D x3.toNat x2)))) → tT e d 3683 118 [some (.inr (.inr (.inl 664))), some (.inl (x1)), some (.inr (.inl (x2))), none, some (.inl (x3)), A, B, C, E] [.inl v, .inr (.inr (.inl 664))] M1 n (tQi n (fun z M' => OP D x1 x2 x3 z M' ∧ MF M' D ∧ MC M M')) := by
    intro A B C E M1 v q g1 g3 hv
    refine tb_X12_put_118 (c := false) ?_
    simp only [kb_X12_put_118, w_iv1, tfr_0, tfr_1, tfr_2, tfr_3, tfr_4, w_if_ne, w_ald_0, w_ild_1, w_bi, w_iv2, w_if_eq, w_ic, w_goto, true_and, and_true, Nat.reduceAdd, Nat.reduceSub, eq_self, tshm_14, tshm_31, tshm_32, tykm_31, tykm_32, tci_15, tci_960, tykm_14, tci_14, tshm_667, tshm_668, tshm_669, tshm_670, tykm_33, tci_700, tsn_671, tyn_17, tcn_10, tzs_672, tzs_673, tzs_680, tzs_681, tzs_682, tzs_683, tzs_684, tzs_685, tzs_686, tzs_687, tzs_688, tzs_689, tzy_15, tzy_35, tzy_36, tzy_37, tzy_38, tzy_39, tzy_40, tzc_60, tzc_320, tzc_5, tzc_4, tzc_8]
    refine tc_i (D := 0) (fun d' hd' => o_fails (by omega)) (by omega) ?_
    rintro z M2 ⟨q2, rfl⟩
    try simp only [kb_X12_put_118, w_iv1, tfr_0, tfr_1, tfr_2, tfr_3, tfr_4, w_if_ne, w_ald_0, w_ild_1, w_bi, w_iv2, w_if_eq, w_ic, w_goto, true_and, and_true, Nat.reduceAdd, Nat.reduceSub, eq_self, tshm_14, tshm_31, tshm_32, tykm_31, tykm_32, tci_15, tci_960, tykm_14, tci_14, tshm_667, tshm_668, tshm_669, tshm_670, tykm_33, tci_700, tsn_671, tyn_17, tcn_10, tzs_672, tzs_673, tzs_680, tzs_681, tzs_682, tzs_683, tzs_684, tzs_685, tzs_686, tzs_687, tzs_688, tzs_689, tzy_15, tzy_35, tzy_36, tzy_37, tzy_38, tzy_39, tzy_40, tzc_60, tzc_320, tzc_5, tzc_4, tzc_8]
    have h4 := MF_3 (v := v) q.1
    have e3 : tU M1 664 3 v 664 3 = v := tU_eq ..
    rcases hv with ⟨rfl, hf, hlo, hhi, hO⟩ | ⟨rfl, hf⟩
    · have sm : ∀ k : Nat, isB k → tU M1 664 3 0 k 60 = M1 k 60 := fun k g => tU_nk (by unfold isB at g; omega)
      have zl : zlo (tU M1 664 3 0) 60 = nlo D x3.toNat x2 := by rw [← hlo]; unfold zlo; rw [sm 667 (Or.inl rfl), sm 668 (Or.inr (Or.inl rfl))]
      have zh : zhi (tU M1 664 3 0) 60 = nhi D x3.toNat x2 := by rw [← hhi]; unfold zhi; rw [sm 669 (Or.inr (Or.inr (Or.inl rfl))), sm 670 (Or.inr (Or.inr (Or.inr rfl)))]
      refine ⟨by omega, fun h => absurd h (by omega), fun h => ?_⟩
      refine tc_i (D := 2) (fun d' hd' => o_becomes_t h4.1.1 g1 (by omega) (OB_same sm hO) hd') (by omega) ?_
      rintro z3 M3 ⟨r1, r2, r3, r4⟩
      try simp only [kb_X12_put_118, w_iv1, tfr_0, tfr_1, tfr_2, tfr_3, tfr_4, w_if_ne, w_ald_0, w_ild_1, w_bi, w_iv2, w_if_eq, w_ic, w_goto, true_and, and_true, Nat.reduceAdd, Nat.reduceSub, eq_self, tshm_14, tshm_31, tshm_32, tykm_31, tykm_32, tci_15, tci_960, tykm_14, tci_14, tshm_667, tshm_668, tshm_669, tshm_670, tykm_33, tci_700, tsn_671, tyn_17, tcn_10, tzs_672, tzs_673, tzs_680, tzs_681, tzs_682, tzs_683, tzs_684, tzs_685, tzs_686, tzs_687, tzs_688, tzs_689, tzy_15, tzy_35, tzy_36, tzy_37, tzy_38, tzy_39, tzy_40, tzc_60, tzc_320, tzc_5, tzc_4, tzc_8]
      rw [zl, zh] at r1
      obtain ⟨f2, m2⟩ := MF_me h4.1 r2 r3
      have h5 := MC_tr (MC_tr q.2 h4.2) m2
      have o0 : ∀ w : Int, w = z3 → OP D x1 x2 x3 w M3 := fun w hw => Or.inr (Or.inr (Or.inr ⟨⟨g1, g3⟩, hf, r4.trans e3, by rw [hw]; exact r1⟩))
      refine ⟨by omega, fun h => n138 _ _ (o0 0 (by omega)) ⟨f2, h5⟩, fun h => ?_⟩
      refine tb_X12_put_139 (c := false) ?_
      simp only [kb_X12_put_139, w_ire, trg, true_and, and_true, Nat.reduceAdd, Nat.reduceSub, eq_self]
      exact ⟨by omega, 1, rfl, rfl, o0 1 (by omega), f2, h5⟩
    · exact ⟨by omega, fun h => n138 _ _ (Or.inr (Or.inr (Or.inl ⟨⟨g1, g3⟩, hf, e3⟩))) ⟨h4.1, MC_tr q.2 h4.2⟩, fun h => absurd h (by omega)⟩
  have n107 : ∀ (A B C E : Option tV) (M1 : tM) (v : Int) (x s : Nat), MF M1 D ∧ MC M M1 → (0 ≤ x1 ∧ x1 ≤ 9) → ((v = 0 ∧ x2 = (x : Int)) ∨ (v = 1 ∧ x2 = -(x : Int))) → Vr M1 9 x → x < tn 60 → x3 = (s : Int) → s ≤ 18 → tT e d 3683 107 [some (.inr (.inr (.inl 664))), some (.inl (x1)), some (.inr (.inl (x2))), none, some (.inl (x3)), A, B, C, E] [.inl v, .inl x3, .inl 9, .inl 60, .inr (.inr (.inl 664)), .inr (.inr (.inl 664))] M1 n (tQi n (fun z M' => OP D x1 x2 x3 z M' ∧ MF M' D ∧ MC M M')) := by
    intro A B C E M1 v x s q g1 hv hV hx hs hs2
    subst hs
    have nb := nb_lo (D := D) (s := s) q.1.1.1.2.1 hv
    have hr : ((s : Nat) : Int).toNat = s := Int.toNat_natCast s
    rw [hr] at n118
    refine tb_X12_put_107 (c := false) ?_
    simp only [kb_X12_put_107, w_iv4, tfr_0, tfr_1, tfr_2, tfr_3, tfr_4, w_if_le, w_ic, w_goto, true_and, and_true, Nat.reduceAdd, Nat.reduceSub, eq_self, tshm_14, tshm_31, tshm_32, tykm_31, tykm_32, tci_15, tci_960, tykm_14, tci_14, tshm_667, tshm_668, tshm_669, tshm_670, tykm_33, tci_700, tsn_671, tyn_17, tcn_10, tzs_672, tzs_673, tzs_680, tzs_681, tzs_682, tzs_683, tzs_684, tzs_685, tzs_686, tzs_687, tzs_688, tzs_689, tzy_15, tzy_35, tzy_36, tzy_37, tzy_38, tzy_39, tzy_40, tzc_60, tzc_320, tzc_5, tzc_4, tzc_8]
    refine tc_i (D := 5) (fun d' hd' => c_number_x q.1.1.1.1 q.1.1.1.2.1 (by omega) (by omega) (by omega) hV hx (by omega) (by omega) hd') (by omega) ?_
    rintro z M2 ⟨⟨p1, pg⟩, p2⟩
    try simp only [kb_X12_put_107, w_iv4, tfr_0, tfr_1, tfr_2, tfr_3, tfr_4, w_if_le, w_ic, w_goto, true_and, and_true, Nat.reduceAdd, Nat.reduceSub, eq_self, tshm_14, tshm_31, tshm_32, tykm_31, tykm_32, tci_15, tci_960, tykm_14, tci_14, tshm_667, tshm_668, tshm_669, tshm_670, tykm_33, tci_700, tsn_671, tyn_17, tcn_10, tzs_672, tzs_673, tzs_680, tzs_681, tzs_682, tzs_683, tzs_684, tzs_685, tzs_686, tzs_687, tzs_688, tzs_689, tzy_15, tzy_35, tzy_36, tzy_37, tzy_38, tzy_39, tzy_40, tzc_60, tzc_320, tzc_5, tzc_4, tzc_8]
    have h4 := MF_x q.1 (xE_to p2)
    rw [nb.1, nb.2] at p1
    unfold GN at pg
    rw [nb.1, nb.2] at pg
    rcases pg with ⟨rfl, f0, f1⟩ | ⟨rfl, hf⟩
    · refine ⟨by omega, fun h => ?_, fun h => absurd (by omega) h⟩
      refine tb_X12_put_117 (c := false) ?_
      simp only [kb_X12_put_117, w_ic, w_nil, true_and, and_true, Nat.reduceAdd, Nat.reduceSub, eq_self]
      refine n118 _ _ _ _ M2 0 ⟨h4.1, MC_tr q.2 h4.2⟩ g1 (by omega) (Or.inl ⟨rfl, fun q => q.elim f0 f1, (p1.2.1 rfl).1, (p1.2.1 rfl).2, ?_⟩)
      unfold OB
      rw [(p1.2.1 rfl).1, (p1.2.1 rfl).2, ← nb.1, ← nb.2]
      rw [← nb.1, ← nb.2] at p1
      exact ⟨nbv_le D s x (by omega), p1.2.2 rfl⟩
    · exact ⟨by omega, fun h => absurd h (by omega), fun h => n118 _ _ _ _ M2 3 ⟨h4.1, MC_tr q.2 h4.2⟩ g1 (by omega) (Or.inr ⟨rfl, hf⟩)⟩
  have n85 : ∀ (A B C E : Option tV) (M1 : tM) (a b : Int), MF M1 D ∧ MC M M1 → (0 ≤ x1 ∧ x1 ≤ 9) → (0 ≤ x3 ∧ x3 ≤ 18) → (0 ≤ a ∧ a ≤ 9223372037) → (0 ≤ b ∧ b < 1000000000) → (0 ≤ x2 → x2 = a * 1000000000 + b) → (x2 < 0 → x2 = -(a * 1000000000 + b)) → tT e d 3683 85 [some (.inr (.inr (.inl 664))), some (.inl (x1)), some (.inr (.inl (x2))), none, some (.inl (x3)), A, B, C, E] [.inr (.inl b), .inr (.inl a), .inl 9, .inr (.inr (.inl 664))] M1 n (tQi n (fun z M' => OP D x1 x2 x3 z M' ∧ MF M' D ∧ MC M M')) := by
    intro A B C E M1 a b q g1 g3 ha hb u1 u2
    obtain ⟨a', rfl⟩ : ∃ a' : Nat, a = (a' : Int) := ⟨a.toNat, by omega⟩
    obtain ⟨b', rfl⟩ : ∃ b' : Nat, b = (b' : Int) := ⟨b.toNat, by omega⟩
    refine tb_X12_put_85 (c := false) ?_
    simp only [kb_X12_put_85, w_iv3, tfr_0, tfr_1, tfr_2, tfr_3, tfr_4, w_ald_0, w_bi, w_ild4, w_lld_2, w_lc0, w_lcmp, ne_eq, tlc_r, tlc_eq, tlc_lt, tlc_ge, tlc_gt, tlc_le, w_if_ge, w_ic, w_goto, true_and, and_true, Nat.reduceAdd, Nat.reduceSub, eq_self, tshm_14, tshm_31, tshm_32, tykm_31, tykm_32, tci_15, tci_960, tykm_14, tci_14, tshm_667, tshm_668, tshm_669, tshm_670, tykm_33, tci_700, tsn_671, tyn_17, tcn_10, tzs_672, tzs_673, tzs_680, tzs_681, tzs_682, tzs_683, tzs_684, tzs_685, tzs_686, tzs_687, tzs_688, tzs_689, tzy_15, tzy_35, tzy_36, tzy_37, tzy_38, tzy_39, tzy_40, tzc_60, tzc_320, tzc_5, tzc_4, tzc_8]
    refine tc_n (D := 1) (fun d' hd' => c_sets (by omega) (by omega) (by omega) hd') (by omega) ?_
    rintro M2 ⟨p1, p2⟩
    have h4 := MF_r q.1 p2 (by omega) (by omega) (by omega)
    have hx : a' * 1000000000 + b' < tn 60 := Nat.lt_of_lt_of_le (by rw [tz_t20]; omega) (tn_mono (show 20 ≤ 60 by omega))
    obtain ⟨s, hs⟩ : ∃ s : Nat, x3 = (s : Int) := ⟨x3.toNat, by omega⟩
    try simp only [kb_X12_put_85, w_iv3, tfr_0, tfr_1, tfr_2, tfr_3, tfr_4, w_ald_0, w_bi, w_ild4, w_lld_2, w_lc0, w_lcmp, ne_eq, tlc_r, tlc_eq, tlc_lt, tlc_ge, tlc_gt, tlc_le, w_if_ge, w_ic, w_goto, true_and, and_true, Nat.reduceAdd, Nat.reduceSub, eq_self, tshm_14, tshm_31, tshm_32, tykm_31, tykm_32, tci_15, tci_960, tykm_14, tci_14, tshm_667, tshm_668, tshm_669, tshm_670, tykm_33, tci_700, tsn_671, tyn_17, tcn_10, tzs_672, tzs_673, tzs_680, tzs_681, tzs_682, tzs_683, tzs_684, tzs_685, tzs_686, tzs_687, tzs_688, tzs_689, tzy_15, tzy_35, tzy_36, tzy_37, tzy_38, tzy_39, tzy_40, tzc_60, tzc_320, tzc_5, tzc_4, tzc_8]
    refine ⟨by omega, fun h => ?_, fun h => ?_⟩
    · refine tb_X12_put_106 (c := false) ?_
      simp only [kb_X12_put_106, w_ic, w_nil, true_and, and_true, Nat.reduceAdd, Nat.reduceSub, eq_self]
      exact n107 _ _ _ _ M2 0 _ s ⟨h4.1, MC_tr q.2 h4.2⟩ g1 (Or.inl ⟨rfl, by omega⟩) p1 hx hs (by omega)
    · exact n107 _ _ _ _ M2 1 _ s ⟨h4.1, MC_tr q.2 h4.2⟩ g1 (Or.inr ⟨rfl, by omega⟩) p1 hx hs (by omega)
  have n38 : ∀ (A B C E : Option tV) (M1 : tM), MF M1 D ∧ MC M M1 → (0 ≤ x1 ∧ x1 ≤ 9) → (0 ≤ x3 ∧ x3 ≤ 18) → tT e d 3683 38 [some (.inr (.inr (.inl 664))), some (.inl (x1)), some (.inr (.inl (x2))), none, some (.inl (x3)), A, B, C, E] [] M1 n (tQi n (fun z M' => OP D x1 x2 x3 z M' ∧ MF M' D ∧ MC M M')) := by
    intro A B C E M1 q g1 g3
    have f := tz_dN h2
    have ft := Int.tmod_add_mul_tdiv x2 1000000000
    have fs := tz_sg (x := x2)
    generalize hh : x2.tdiv 1000000000 = h at f ft fs
    generalize hr : x2.tmod 1000000000 = r at f ft fs
    have n70 : ∀ a : Int, (0 ≤ a ∧ a ≤ 9223372037) → (a = h ∧ 0 ≤ h ∨ a = -h ∧ h < 0) → tT e d 3683 70 [some (.inr (.inr (.inl 664))), some (.inl (x1)), some (.inr (.inl (x2))), none, some (.inl (x3)), some (.inr (.inl (h))), none, some (.inr (.inl (r))), none] [.inr (.inl a), .inl 9, .inr (.inr (.inl 664))] M1 n (tQi n (fun z M' => OP D x1 x2 x3 z M' ∧ MF M' D ∧ MC M M')) := by
      intro a ha hah
      refine tb_X12_put_70 (c := false) ?_
      simp only [kb_X12_put_70, w_lld7, w_lc0, w_lcmp, ne_eq, tlc_r, tlc_eq, tlc_lt, tlc_ge, tlc_gt, tlc_le, w_if_ge, w_lneg, tw_f, w_goto, true_and, and_true, Nat.reduceAdd, Nat.reduceSub, eq_self]
      refine ⟨by omega, fun g => ?_, fun g => n85 _ _ _ _ M1 a (-r) q g1 g3 ha (by omega) (by omega) (by omega)⟩
      refine tb_X12_put_83 (c := false) ?_
      simp only [kb_X12_put_83, w_lld7, w_nil, true_and, and_true, Nat.reduceAdd, Nat.reduceSub, eq_self]
      exact n85 _ _ _ _ M1 a r q g1 g3 ha (by omega) (by omega) (by omega)
    refine tb_X12_put_38 (c := false) ?_
    simp only [kb_X12_put_38, w_lld_2, w_ld2, w_ldiv, tw_f, w_lst5, tkl_n, tkl_i, tkl_l, tkl_r, w_lrem, w_lst7, w_ald_0, w_bi, w_lld5, w_lc0, w_lcmp, ne_eq, tlc_r, tlc_eq, tlc_lt, tlc_ge, tlc_gt, tlc_le, w_if_ge, w_lneg, w_goto, true_and, and_true, Nat.reduceAdd, Nat.reduceSub, eq_self]
    rw [hh, hr]
    refine ⟨by omega, by omega, by omega, fun g => ?_, fun g => n70 (-h) (by omega) (by omega)⟩
    refine tb_X12_put_68 (c := false) ?_
    simp only [kb_X12_put_68, w_lld5, w_nil, true_and, and_true, Nat.reduceAdd, Nat.reduceSub, eq_self]
    exact n70 h (by omega) (by omega)
  have n30 : ∀ v : Int, ((v = 0 ∧ (0 ≤ x1 ∧ x1 ≤ 9) ∧ (0 ≤ x3 ∧ x3 ≤ 18)) ∨ (v = 1 ∧ ¬ (0 ≤ x1 ∧ x1 ≤ 9)) ∨ (v = 2 ∧ (0 ≤ x1 ∧ x1 ≤ 9) ∧ ¬ (0 ≤ x3 ∧ x3 ≤ 18))) → tT e d 3683 30 [some (.inr (.inr (.inl 664))), some (.inl (x1)), some (.inr (.inl (x2))), none, some (.inl (x3)), none, none, none, none] [.inl v, .inr (.inr (.inl 664))] M n (tQi n (fun z M' => OP D x1 x2 x3 z M' ∧ MF M' D ∧ MC M M')) := by
    intro v hv
    refine tb_X12_put_30 (c := false) ?_
    simp only [kb_X12_put_30, w_iv1, tfr_0, tfr_1, tfr_2, tfr_3, tfr_4, w_if_eq, w_ic, w_ire, trg, true_and, and_true, Nat.reduceAdd, Nat.reduceSub, eq_self, tshm_14, tshm_31, tshm_32, tykm_31, tykm_32, tci_15, tci_960, tykm_14, tci_14, tshm_667, tshm_668, tshm_669, tshm_670, tykm_33, tci_700, tsn_671, tyn_17, tcn_10, tzs_672, tzs_673, tzs_680, tzs_681, tzs_682, tzs_683, tzs_684, tzs_685, tzs_686, tzs_687, tzs_688, tzs_689, tzy_15, tzy_35, tzy_36, tzy_37, tzy_38, tzy_39, tzy_40, tzc_60, tzc_320, tzc_5, tzc_4, tzc_8]
    refine tc_i (D := 0) (fun d' hd' => o_fails (by omega)) (by omega) ?_
    rintro z M2 ⟨q2, rfl⟩
    try simp only [kb_X12_put_30, w_iv1, tfr_0, tfr_1, tfr_2, tfr_3, tfr_4, w_if_eq, w_ic, w_ire, trg, true_and, and_true, Nat.reduceAdd, Nat.reduceSub, eq_self, tshm_14, tshm_31, tshm_32, tykm_31, tykm_32, tci_15, tci_960, tykm_14, tci_14, tshm_667, tshm_668, tshm_669, tshm_670, tykm_33, tci_700, tsn_671, tyn_17, tcn_10, tzs_672, tzs_673, tzs_680, tzs_681, tzs_682, tzs_683, tzs_684, tzs_685, tzs_686, tzs_687, tzs_688, tzs_689, tzy_15, tzy_35, tzy_36, tzy_37, tzy_38, tzy_39, tzy_40, tzc_60, tzc_320, tzc_5, tzc_4, tzc_8]
    have h4 := MF_3 (v := v) hP
    have e3 : tU M 664 3 v 664 3 = v := tU_eq ..
    rcases hv with ⟨rfl, g1, g2⟩ | ⟨rfl, g1⟩ | ⟨rfl, g1, g2⟩
    · exact ⟨by omega, fun h => n38 _ _ _ _ _ h4 g1 g2, fun h => absurd (by omega) h⟩
    · exact ⟨by omega, fun h => absurd h (by omega), fun h => ⟨by omega, 0, rfl, rfl, Or.inl ⟨g1, e3⟩, h4⟩⟩
    · exact ⟨by omega, fun h => absurd h (by omega), fun h => ⟨by omega, 0, rfl, rfl, Or.inr (Or.inl ⟨⟨g1, g2⟩, e3⟩), h4⟩⟩
  refine tb_X12_put_0 (c := false) ?_
  simp only [kb_X12_put_0, w_ald_0, w_ild_1, w_is1, tfr_0, tfr_1, tfr_2, tfr_3, tfr_4, w_if_ne, w_ic, w_goto, true_and, and_true, Nat.reduceAdd, Nat.reduceSub, eq_self]
  refine tc_i (D := 1) (fun d' hd' => o_isShelf h1 hd') (by omega) ?_
  rintro z1 M1 ⟨q1, rfl⟩
  try simp only [kb_X12_put_0, w_ald_0, w_ild_1, w_is1, tfr_0, tfr_1, tfr_2, tfr_3, tfr_4, w_if_ne, w_ic, w_goto, true_and, and_true, Nat.reduceAdd, Nat.reduceSub, eq_self]
  refine ⟨by omega, fun h => ?_, fun h => n30 1 (by omega)⟩
  refine tb_X12_put_12 (c := false) ?_
  simp only [kb_X12_put_12, w_ild4, w_i2l, w_lc0, w_ld2, w_is3, tfr_0, tfr_1, tfr_2, tfr_3, tfr_4, w_if_ne, w_ic, w_goto, true_and, and_true, Nat.reduceAdd, Nat.reduceSub, eq_self]
  refine ⟨by omega, ?_⟩
  refine tc_i (D := 0) (fun d' hd' => c_in (by omega) (by omega) (by omega)) (by omega) ?_
  rintro z2 M2 ⟨q2, rfl⟩
  try simp only [kb_X12_put_12, w_ild4, w_i2l, w_lc0, w_ld2, w_is3, tfr_0, tfr_1, tfr_2, tfr_3, tfr_4, w_if_ne, w_ic, w_goto, true_and, and_true, Nat.reduceAdd, Nat.reduceSub, eq_self]
  refine ⟨by omega, fun h => ?_, fun h => n30 2 (by omega)⟩
  refine tb_X12_put_29 (c := false) ?_
  simp only [kb_X12_put_29, w_ic, w_nil, true_and, and_true, Nat.reduceAdd, Nat.reduceSub, eq_self]
  exact n30 0 (by omega)
end MODEL
