/-! THE MODEL: the known numbers. -/
noncomputable def kno (which : Int) : Nat := if which = 0 then BSc else PIc
theorem kno_le (w : Int) : kno w ≤ 4 * U6 := by
  unfold kno
  split
  · exact Nat.le_trans BSc_le (Nat.mul_le_mul_right _ (by decide))
  · rewrite [U6_def]
    decide
theorem deep_small {D v : Nat} {up : Int} (hD : D ≤ 10) (hv : v ≤ 4 * U6) : tlu (v / tn (54 - D)) 1 0 up * tn (10 - D) ≤ 50000000000 := by
  have h1 : ∀ t : Nat, t * tn (10 - D) * U4 = t * tn (54 - D) := by
    intro t
    rw [U4_tn, Nat.mul_assoc, ← tn_add]
    congr 2
    omega
  have h2 := Nat.div_mul_le_self v (tn (54 - D))
  have h3 : tn (54 - D) ≤ U6 := by
    rw [U6_tn]
    exact tn_mono (by omega)
  have h4 := h1 (v / tn (54 - D) + 1)
  have h5 : (v / tn (54 - D) + 1) * tn (54 - D) = v / tn (54 - D) * tn (54 - D) + tn (54 - D) := by rw [Nat.add_mul, Nat.one_mul]
  have h6 : (v / tn (54 - D) + 1) * tn (10 - D) * U4 ≤ 50000000000 * U4 := by
    rw [h4, h5]
    have := U6_U4
    omega
  have h7 := Nat.le_of_mul_le_mul_right h6 U4_pos
  refine Nat.le_trans (Nat.mul_le_mul_right _ ?_) h7
  unfold tlu
  split <;> omega
section MODEL
variable {e : tE} {d n : Nat} {M : tM}
theorem c_known {to w : Int} {D : Nat} (hK : KI M) (hdg : M 664 2 = (D : Int)) (hD : D ≤ 10) (ht : 0 ≤ to ∧ to < 700) (hw : w = 0 ∨ w = 1) (hd : 5 ≤ d) :
    tC e d 3641 [.inr (.inr (.inl 664)), .inl to, .inl w] M n (tQn n (fun M' => zlo M' to = deepb 0 D (kno w) 0 ∧ zhi M' to = deepb 1 D (kno w) 0 ∧ xE (fun r => r = to) M M')) := by
  refine tst_X12_known ?_
  refine tb_X12_known_0 (c := false) ?_
  simp only [kb_X12_known_0, w_ald_0, w_iv0, tfr_0, tfr_1, tfr_2, tfr_3, tfr_4, w_ild_2, w_if_eq, w_bi, w_goto, true_and, and_true, Nat.reduceAdd, Nat.reduceSub, eq_self, tshm_14, tshm_31, tshm_32, tykm_31, tykm_32, tykm_14, tci_14, tci_15, tci_960, tshm_667, tshm_668, tshm_669, tshm_670, tykm_33, tci_700]
  refine tc_n (D := 4) (fun d' hd' => c_needsPi hK hd') (by omega) ?_
  rintro M1 ⟨p1, -, p2⟩
  have k1 := p2.2.1 hK
  try simp only [kb_X12_known_0, w_ald_0, w_iv0, tfr_0, tfr_1, tfr_2, tfr_3, tfr_4, w_ild_2, w_if_eq, w_bi, w_goto, true_and, and_true, Nat.reduceAdd, Nat.reduceSub, eq_self, tshm_14, tshm_31, tshm_32, tykm_31, tykm_32, tykm_14, tci_14, tci_15, tci_960, tshm_667, tshm_668, tshm_669, tshm_670, tykm_33, tci_700]
  refine tc_n (D := 4) (fun d' hd' => c_needsBase k1 hd') (by omega) ?_
  rintro M2 ⟨p3, -, p4⟩
  have k2 := p4.2.1 k1
  have f12 : M2 664 12 = 1 := p4.2.2.1 p1
  have hV : ∀ N : tM, qE rEx M2 N → Vr N (if w = 0 then 13 else 11) (kno w) := by
    intro N q
    unfold kno
    split
    · exact (q.2.1 k2).2.2.2 (q.2.2.2.2 p3)
    · exact (q.2.1 k2).2.1 (q.2.2.1 f12)
  have w2 : qE rEx M M2 := qE_tr (qE_mono p2 (fun r hr => by unfold rPi at hr; unfold rEx; omega)) (qE_mono p4 (fun r hr => by unfold rBs at hr; unfold rEx; omega))
  have hs := fun up : Int => deep_small (D := D) (v := kno w) (up := up) hD (kno_le w)
  have hv5 : kno w < tn 500 := Nat.lt_of_le_of_lt (kno_le w) (by rw [U6_tn]; exact Nat.lt_of_le_of_lt (Nat.mul_le_mul_right _ (show 4 ≤ tn 1 by rw [tn_def]; decide)) (by rw [← tn_add]; exact tn_lt (by decide)))
  have hr : (if w = 0 then (13 : Int) else 11) = 13 ∨ (if w = 0 then (13 : Int) else 11) = 11 := by
    split
    · exact Or.inl rfl
    · exact Or.inr rfl
  have dv : ∀ (up : Int) (zz : Int) (N : tM), (zz = 1 ∧ zb N = deepb up D (kno w) 0 ∧ (-10000000000000000000000 < deepb up D (kno w) 0 ∧ deepb up D (kno w) 0 < 10000000000000000000000) ∧ cb N ∨ zz = 0 ∧ 10000000000000000000000 ≤ tlu (kno w / tn (54 - D)) 1 0 up * tn (10 - D)) → zz = 1 ∧ N 664 4 * 1000000000 + N 664 5 = deepb up D (kno w) 0 ∧ (-30000000000000000000000 ≤ N 664 4 * 1000000000 + N 664 5 ∧ N 664 4 * 1000000000 + N 664 5 ≤ 30000000000000000000000) ∧ (0 ≤ N 664 5 ∧ N 664 5 < 1000000000) := by
    intro up zz N q
    rcases q with ⟨q1, q2, q3, q4⟩ | ⟨-, q2⟩
    · unfold zb at q2
      exact ⟨q1, q2, by omega, q4.1⟩
    · have := hs up
      omega
  have n59 : ∀ (N : tM), zlo N to = deepb 0 D (kno w) 0 → Vr N (if w = 0 then 13 else 11) (kno w) → N 664 2 = (D : Int) → xE (fun r => r = to) M N → tT e d 3641 59 [some (.inr (.inr (.inl 664))), some (.inl to), some (.inl w), some (.inl 1)] [.inl (if w = 0 then 13 else 11), .inr (.inr (.inl 664))] N n (tQn n (fun M' => zlo M' to = deepb 0 D (kno w) 0 ∧ zhi M' to = deepb 1 D (kno w) 0 ∧ xE (fun r => r = to) M M')) := by
    intro N q1 q2 q3 q4
    generalize (if w = 0 then (13 : Int) else 11) = row at *
    refine tb_X12_known_59 (c := false) ?_
    simp only [kb_X12_known_59, w_bi, w_iv2, tfr_0, tfr_1, tfr_2, tfr_3, tfr_4, w_ild_3, w_ald_0, w_ic, w_iv3, w_iand, w_ist_3, tkl_n, tkl_i, tkl_l, tkl_r, w_ild_1, w_gf_14_4, tw_f, w_gf_14_5, w_re, true_and, and_true, Nat.reduceAdd, Nat.reduceSub, eq_self, tshm_14, tshm_31, tshm_32, tykm_31, tykm_32, tykm_14, tci_14, tci_15, tci_960, tshm_667, tshm_668, tshm_669, tshm_670, tykm_33, tci_700]
    refine tc_n (D := 1) (fun d' hd' => c_copies (a := row) (b := 8) (x := kno w) (by omega) (by omega) (by omega) q2 hd') (by omega) ?_
    rintro N2 ⟨r1, r2⟩
    try simp only [kb_X12_known_59, w_bi, w_iv2, tfr_0, tfr_1, tfr_2, tfr_3, tfr_4, w_ild_3, w_ald_0, w_ic, w_iv3, w_iand, w_ist_3, tkl_n, tkl_i, tkl_l, tkl_r, w_ild_1, w_gf_14_4, tw_f, w_gf_14_5, w_re, true_and, and_true, Nat.reduceAdd, Nat.reduceSub, eq_self, tshm_14, tshm_31, tshm_32, tykm_31, tykm_32, tykm_14, tci_14, tci_15, tci_960, tshm_667, tshm_668, tshm_669, tshm_670, tykm_33, tci_700]
    refine tc_i (D := 4) (fun d' hd' => c_deep (v := kno w) (D := D) ((rE_d r2).trans q3) hD (by omega) r1 hv5 (Or.inl rfl) (Or.inr rfl) hd') (by omega) ?_
    rintro zz N3 ⟨s1, s2⟩
    obtain ⟨rfl, t2, t3, t4⟩ := dv 1 zz N3 s1
    have q5 : qE rEx N N3 := qE_tr (qx r2 (fun r hr => by unfold rEx; omega)) (qE_U (rU_mono s2 (fun r hr => show rEx r by unfold rEx; omega)) rEx_n.1 rEx_n.2.1 rEx_n.2.2)
    try simp only [kb_X12_known_59, w_bi, w_iv2, tfr_0, tfr_1, tfr_2, tfr_3, tfr_4, w_ild_3, w_ald_0, w_ic, w_iv3, w_iand, w_ist_3, tkl_n, tkl_i, tkl_l, tkl_r, w_ild_1, w_gf_14_4, tw_f, w_gf_14_5, w_re, true_and, and_true, Nat.reduceAdd, Nat.reduceSub, eq_self, tshm_14, tshm_31, tshm_32, tykm_31, tykm_32, tykm_14, tci_14, tci_15, tci_960, tshm_667, tshm_668, tshm_669, tshm_670, tykm_33, tci_700]
    refine Or.inl ⟨⟨Or.inr trivial, Or.inr trivial⟩, ?_⟩
    refine tc_n (D := 0) (fun d' _ => c_high ht) (by omega) ?_
    rintro _ rfl
    try simp only [kb_X12_known_59, w_bi, w_iv2, tfr_0, tfr_1, tfr_2, tfr_3, tfr_4, w_ild_3, w_ald_0, w_ic, w_iv3, w_iand, w_ist_3, tkl_n, tkl_i, tkl_l, tkl_r, w_ild_1, w_gf_14_4, tw_f, w_gf_14_5, w_re, true_and, and_true, Nat.reduceAdd, Nat.reduceSub, eq_self, tshm_14, tshm_31, tshm_32, tykm_31, tykm_32, tykm_14, tci_14, tci_15, tci_960, tshm_667, tshm_668, tshm_669, tshm_670, tykm_33, tci_700]
    have x5 : xE (fun _ => False) N N3 := qE_xE q5
    refine ⟨rfl, rfl, ?_, ?_, xE_tr q4 (xE_tr (qE_xE q5) (sHi_xE rfl t4 (by omega)))⟩
    · rw [sHi_lo, xE_lo x5 id]
      exact q1
    · rw [sHi_hi]
      exact t2
  have n20 : tT e d 3641 20 [some (.inr (.inr (.inl 664))), some (.inl to), some (.inl w), none] [.inl (if w = 0 then 13 else 11), .inr (.inr (.inl 664))] M2 n (tQn n (fun M' => zlo M' to = deepb 0 D (kno w) 0 ∧ zhi M' to = deepb 1 D (kno w) 0 ∧ xE (fun r => r = to) M M')) := by
    have hV2 := hV M2 qE_refl
    have hV9 := hV
    have hdg2 := (qE_d w2).trans hdg
    generalize hrow : (if w = 0 then (13 : Int) else 11) = row at *
    refine tb_X12_known_20 (c := false) ?_
    simp only [kb_X12_known_20, w_bi, w_iv2, tfr_0, tfr_1, tfr_2, tfr_3, tfr_4, w_ald_0, w_ic, w_iv3, w_ist_3, tkl_n, tkl_i, tkl_l, tkl_r, w_ild_1, w_gf_14_4, tw_f, w_gf_14_5, w_ild_2, w_if_eq, w_goto, true_and, and_true, Nat.reduceAdd, Nat.reduceSub, eq_self, tshm_14, tshm_31, tshm_32, tykm_31, tykm_32, tykm_14, tci_14, tci_15, tci_960, tshm_667, tshm_668, tshm_669, tshm_670, tykm_33, tci_700]
    refine tc_n (D := 1) (fun d' hd' => c_copies (a := row) (b := 8) (x := kno w) (by omega) (by omega) (by omega) hV2 hd') (by omega) ?_
    rintro N2 ⟨r1, r2⟩
    try simp only [kb_X12_known_20, w_bi, w_iv2, tfr_0, tfr_1, tfr_2, tfr_3, tfr_4, w_ald_0, w_ic, w_iv3, w_ist_3, tkl_n, tkl_i, tkl_l, tkl_r, w_ild_1, w_gf_14_4, tw_f, w_gf_14_5, w_ild_2, w_if_eq, w_goto, true_and, and_true, Nat.reduceAdd, Nat.reduceSub, eq_self, tshm_14, tshm_31, tshm_32, tykm_31, tykm_32, tykm_14, tci_14, tci_15, tci_960, tshm_667, tshm_668, tshm_669, tshm_670, tykm_33, tci_700]
    refine tc_i (D := 4) (fun d' hd' => c_deep (v := kno w) (D := D) ((rE_d r2).trans hdg2) hD (by omega) r1 hv5 (Or.inl rfl) (Or.inl rfl) hd') (by omega) ?_
    rintro zz N3 ⟨s1, s2⟩
    obtain ⟨rfl, t2, t3, t4⟩ := dv 0 zz N3 s1
    have q5 : qE rEx M2 N3 := qE_tr (qx r2 (fun r hr => by unfold rEx; omega)) (qE_U (rU_mono s2 (fun r hr => show rEx r by unfold rEx; omega)) rEx_n.1 rEx_n.2.1 rEx_n.2.2)
    try simp only [kb_X12_known_20, w_bi, w_iv2, tfr_0, tfr_1, tfr_2, tfr_3, tfr_4, w_ald_0, w_ic, w_iv3, w_ist_3, tkl_n, tkl_i, tkl_l, tkl_r, w_ild_1, w_gf_14_4, tw_f, w_gf_14_5, w_ild_2, w_if_eq, w_goto, true_and, and_true, Nat.reduceAdd, Nat.reduceSub, eq_self, tshm_14, tshm_31, tshm_32, tykm_31, tykm_32, tykm_14, tci_14, tci_15, tci_960, tshm_667, tshm_668, tshm_669, tshm_670, tykm_33, tci_700]
    refine tc_n (D := 0) (fun d' _ => c_low ht) (by omega) ?_
    rintro _ rfl
    try simp only [kb_X12_known_20, w_bi, w_iv2, tfr_0, tfr_1, tfr_2, tfr_3, tfr_4, w_ald_0, w_ic, w_iv3, w_ist_3, tkl_n, tkl_i, tkl_l, tkl_r, w_ild_1, w_gf_14_4, tw_f, w_gf_14_5, w_ild_2, w_if_eq, w_goto, true_and, and_true, Nat.reduceAdd, Nat.reduceSub, eq_self, tshm_14, tshm_31, tshm_32, tykm_31, tykm_32, tykm_14, tci_14, tci_15, tci_960, tshm_667, tshm_668, tshm_669, tshm_670, tykm_33, tci_700]
    have xx : xE (fun r => r = to) N3 (sLo N3 to (N3 664 4) (N3 664 5)) := sLo_xE rfl t4 (by omega)
    have hrk : ∀ i, sLo N3 to (N3 664 4) (N3 664 5) 665 i = N3 665 i := fun i => sLo_k (fun q => absurd q.1 (by unfold isB; decide))
    have hrk2 : ∀ i, sLo N3 to (N3 664 4) (N3 664 5) 666 i = N3 666 i := fun i => sLo_k (fun q => absurd q.1 (by unfold isB; decide))
    have hVr : Vr (sLo N3 to (N3 664 4) (N3 664 5)) row (kno w) := by
      obtain ⟨m, ⟨v1, v2, v3, v4⟩, v5⟩ := hV9 N3 q5
      exact ⟨m, ⟨(hrk2 row).trans v1, v2, v3, fun i hi => (hrk _).trans (v4 i hi)⟩, v5⟩
    have g := n59 (sLo N3 to (N3 664 4) (N3 664 5)) (by rw [sLo_lo]; exact t2) hVr ((xE_d xx).trans ((qE_d q5).trans hdg2)) (xE_tr (qE_xE w2) (xE_tr (qE_xE q5) xx))
    refine ⟨by omega, fun h => ?_, fun h => ?_⟩
    · rw [if_pos h] at hrow
      rw [← hrow] at g
      refine tb_X12_known_57 (c := false) ?_
      simp only [kb_X12_known_57, w_bi, w_nil, true_and, and_true, Nat.reduceAdd, Nat.reduceSub, eq_self]
      exact g
    · rw [if_neg h] at hrow
      rw [← hrow] at g
      exact g
  rcases hw with rfl | rfl
  · try simp only [kb_X12_known_0, w_ald_0, w_iv0, tfr_0, tfr_1, tfr_2, tfr_3, tfr_4, w_ild_2, w_if_eq, w_bi, w_goto, true_and, and_true, Nat.reduceAdd, Nat.reduceSub, eq_self, tshm_14, tshm_31, tshm_32, tykm_31, tykm_32, tykm_14, tci_14, tci_15, tci_960, tshm_667, tshm_668, tshm_669, tshm_670, tykm_33, tci_700]
    refine ⟨by omega, fun _ => ?_, fun h => absurd trivial h⟩
    refine tb_X12_known_18 (c := false) ?_
    simp only [kb_X12_known_18, w_bi, w_nil, true_and, and_true, Nat.reduceAdd, Nat.reduceSub, eq_self]
    exact n20
  · try simp only [kb_X12_known_0, w_ald_0, w_iv0, tfr_0, tfr_1, tfr_2, tfr_3, tfr_4, w_ild_2, w_if_eq, w_bi, w_goto, true_and, and_true, Nat.reduceAdd, Nat.reduceSub, eq_self, tshm_14, tshm_31, tshm_32, tykm_31, tykm_32, tykm_14, tci_14, tci_15, tci_960, tshm_667, tshm_668, tshm_669, tshm_670, tykm_33, tci_700]
    refine ⟨by omega, fun h => absurd h (by decide), fun _ => ?_⟩
    exact n20
end MODEL
