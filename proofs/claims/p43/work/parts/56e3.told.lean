/-! THE CLASS: what is told, never too great. -/
section HAND
variable {e : tE} {b d n : Nat} {M : tM}
theorem e_tellDown {x1 : Nat} {x2 : Int} (h1 : cl x1 3) (h2 : (-9223372036854775808 ≤ x2 ∧ x2 < 9223372036854775808)) (hb : HB b x1) (hC : CI M) (hd : 1 ≤ d) : tC e d 2575 [.inr (.inr (.inl 79)), .inr (.inr (.inl x1)), .inr (.inl x2)] M n (tQn n (fun M' => M' x1 0 = w64 (M 80 0) ∧ BD b M M' x1)) := by
  have hx1 := h1.1
  refine tst_X8_tellDown ?_
  refine tb_X8_tellDown_0 (c := true) ?_
  simp only [kb_X8_tellDown_0, w_ald_1, w_ald_0, w_gf_10_0, tw_t, w_iv1, tfr_0, tfr_1, tfr_2, tfr_3, tfr_4, w_lld_2, w_re, w64_r, true_and, and_true, Nat.reduceAdd, Nat.reduceSub, eq_self, tsh_79, tyk_10, tsh_80, hx1, tyk_3, tcq_10, tcq_3]
  refine tc_n (D := 0) (fun d' hd' => e_copy (b := b) h1 cl_80 hb hC) (by omega) ?_
  rintro M1 ⟨q1, q2⟩
  try simp only [kb_X8_tellDown_0, w_ald_1, w_ald_0, w_gf_10_0, tw_t, w_iv1, tfr_0, tfr_1, tfr_2, tfr_3, tfr_4, w_lld_2, w_re, w64_r, true_and, and_true, Nat.reduceAdd, Nat.reduceSub, eq_self, tsh_79, tyk_10, tsh_80, hx1, tyk_3, tcq_10, tcq_3]
  refine tc_n (D := 0) (fun d' hd' => e_roundDown (b := b) h1 h2 hb q2.1) (by omega) ?_
  rintro M2 ⟨q3, q4⟩
  try simp only [kb_X8_tellDown_0, w_ald_1, w_ald_0, w_gf_10_0, tw_t, w_iv1, tfr_0, tfr_1, tfr_2, tfr_3, tfr_4, w_lld_2, w_re, w64_r, true_and, and_true, Nat.reduceAdd, Nat.reduceSub, eq_self, tsh_79, tyk_10, tsh_80, hx1, tyk_3, tcq_10, tcq_3]
  exact ⟨rfl, rfl, q3.trans q1, BD_tr q2 q4⟩
theorem e_tellUp {x1 : Nat} {x2 : Int} (h1 : cl x1 3) (h2 : (-9223372036854775808 ≤ x2 ∧ x2 < 9223372036854775808)) (hb : HB b x1) (hC : CI M) (hd : 1 ≤ d) : tC e d 2576 [.inr (.inr (.inl 79)), .inr (.inr (.inl x1)), .inr (.inl x2)] M n (tQn n (fun M' => (M' x1 0 = w64 (M 80 0) ∨ M' x1 0 = w64 (w64 (M 80 0) + 1)) ∧ BD b M M' x1)) := by
  have hx1 := h1.1
  refine tst_X8_tellUp ?_
  refine tb_X8_tellUp_0 (c := true) ?_
  simp only [kb_X8_tellUp_0, w_ald_1, w_ald_0, w_gf_10_0, tw_t, w_iv1, tfr_0, tfr_1, tfr_2, tfr_3, tfr_4, w_lld_2, w_gf_10_1, w_iv2, w_re, w64_r, true_and, and_true, Nat.reduceAdd, Nat.reduceSub, eq_self, tsh_79, tyk_10, tsh_80, hx1, tyk_3, tcq_10, tcq_3]
  refine tc_n (D := 0) (fun d' hd' => e_copy (b := b) h1 cl_80 hb hC) (by omega) ?_
  rintro M1 ⟨q1, q2⟩
  try simp only [kb_X8_tellUp_0, w_ald_1, w_ald_0, w_gf_10_0, tw_t, w_iv1, tfr_0, tfr_1, tfr_2, tfr_3, tfr_4, w_lld_2, w_gf_10_1, w_iv2, w_re, w64_r, true_and, and_true, Nat.reduceAdd, Nat.reduceSub, eq_self, tsh_79, tyk_10, tsh_80, hx1, tyk_3, tcq_10, tcq_3]
  have h79 := CI_i (f := 1) q2.1 cl_79 rfl
  refine tc_n (D := 0) (fun d' hd' => e_roundUp (b := b) h1 h2 h79 hb q2.1) (by omega) ?_
  rintro M2 ⟨q3, q4⟩
  try simp only [kb_X8_tellUp_0, w_ald_1, w_ald_0, w_gf_10_0, tw_t, w_iv1, tfr_0, tfr_1, tfr_2, tfr_3, tfr_4, w_lld_2, w_gf_10_1, w_iv2, w_re, w64_r, true_and, and_true, Nat.reduceAdd, Nat.reduceSub, eq_self, tsh_79, tyk_10, tsh_80, hx1, tyk_3, tcq_10, tcq_3]
  rw [q1] at q3
  have hw : w64 (w64 (M 80 0)) = w64 (M 80 0) := by unfold w64; omega
  rw [hw] at q3
  exact ⟨rfl, rfl, q3, BD_tr q2 q4⟩
end HAND
section HAND
variable {e : tE} {b d n : Nat} {M : tM}
theorem bxl_1 {r : Nat} (h : cl r 4) : cl (r + 1) 3 := cst_of (a := 4) (f := 0) h (by decide) (by decide) rfl |>.1
theorem bxl_2 {r : Nat} (h : cl r 4) : cl (r + 2) 3 := cst_of (a := 4) (f := 1) h (by decide) (by decide) rfl |>.1
theorem e_bTooGreat {r : Nat} (h0 : cl r 4) (hs : (-100000000000 ≤ M (r + 1) 0 ∧ M (r + 1) 0 ≤ 100000000000) ∧ (-100000000000 ≤ M (r + 2) 0 ∧ M (r + 2) 0 ≤ 100000000000)) (hd : 1 ≤ d) : tC e d 1032 [.inr (.inr (.inl r))] M n (tQi n (fun z M' => z = 0 ∧ M' = M)) := by
  have hr := h0.1
  have hm1 := (bxl_1 h0).1
  have hm2 := (bxl_2 h0).1
  refine tst_X2_isTooGreat ?_
  refine tb_X2_isTooGreat_0 (c := true) ?_
  simp only [kb_X2_isTooGreat_0, w_ald_0, w_gf_4_0, tw_t, w_iv0, tfr_0, tfr_1, tfr_2, tfr_3, tfr_4, w_if_ne, w_gf_4_1, w_if_eq, w_nil, w64_r, true_and, and_true, Nat.reduceAdd, Nat.reduceSub, eq_self, hr, hm1, hm2, tyk_4, tcq_4, tyk_3, tcq_3]
  refine tc_i (D := 0) (fun d' hd' => e_tooGreat (bxl_1 h0) hs.1) (by omega) ?_
  rintro z1 M1 ⟨rfl, rfl⟩
  try simp only [kb_X2_isTooGreat_0, w_ald_0, w_gf_4_0, tw_t, w_iv0, tfr_0, tfr_1, tfr_2, tfr_3, tfr_4, w_if_ne, w_gf_4_1, w_if_eq, w_nil, w64_r, true_and, and_true, Nat.reduceAdd, Nat.reduceSub, eq_self, hr, hm1, hm2, tyk_4, tcq_4, tyk_3, tcq_3]
  refine ⟨by omega, fun h => absurd h (by omega), fun h => ?_⟩
  refine tc_i (D := 0) (fun d' hd' => e_tooGreat (bxl_2 h0) hs.2) (by omega) ?_
  rintro z2 M2 ⟨rfl, rfl⟩
  try simp only [kb_X2_isTooGreat_0, w_ald_0, w_gf_4_0, tw_t, w_iv0, tfr_0, tfr_1, tfr_2, tfr_3, tfr_4, w_if_ne, w_gf_4_1, w_if_eq, w_nil, w64_r, true_and, and_true, Nat.reduceAdd, Nat.reduceSub, eq_self, hr, hm1, hm2, tyk_4, tcq_4, tyk_3, tcq_3]
  refine ⟨by omega, fun h => ?_, fun h => absurd trivial h⟩
  refine tb_X2_isTooGreat_24 (c := true) ?_
  simp only [kb_X2_isTooGreat_24, w_ic, w_nil, w64_r, true_and, and_true, Nat.reduceAdd, Nat.reduceSub, eq_self]
  refine tb_X2_isTooGreat_25 (c := true) ?_
  simp only [kb_X2_isTooGreat_25, w_ire, trg, w64_r, true_and, and_true, Nat.reduceAdd, Nat.reduceSub, eq_self]
  exact ⟨by omega, _, rfl, rfl, rfl, rfl⟩
theorem e_between {r x1 x2 : Nat} (h0 : cl r 4) (h1 : cl x1 3) (h2 : cl x2 3) (hx : r + 1 ≠ x2) (hb : b < 2) (hC : CI M) (hd : 1 ≤ d) : tC e d 1025 [.inr (.inr (.inl r)), .inr (.inr (.inl x1)), .inr (.inr (.inl x2))] M n (tQn n (fun M' => M' (r + 1) 0 = w64 (M x1 0) ∧ M' (r + 2) 0 = w64 (M x2 0) ∧ CI M' ∧ pE b M M')) := by
  have hr := h0.1
  have hm1 := (bxl_1 h0).1
  have hm2 := (bxl_2 h0).1
  refine tst_X2_between ?_
  refine tb_X2_between_0 (c := true) ?_
  simp only [kb_X2_between_0, w_ald_0, w_gf_4_0, tw_t, w_ald_1, w_iv1, tfr_0, tfr_1, tfr_2, tfr_3, tfr_4, w_gf_4_1, w_ald_2, w_re, w64_r, true_and, and_true, Nat.reduceAdd, Nat.reduceSub, eq_self, hr, hm1, hm2, tyk_4, tcq_4, tyk_3, tcq_3]
  refine tc_n (D := 0) (fun d' hd' => e_copy (b := b) (bxl_1 h0) h1 (Or.inl hb) hC) (by omega) ?_
  rintro M1 ⟨q1, q2⟩
  try simp only [kb_X2_between_0, w_ald_0, w_gf_4_0, tw_t, w_ald_1, w_iv1, tfr_0, tfr_1, tfr_2, tfr_3, tfr_4, w_gf_4_1, w_ald_2, w_re, w64_r, true_and, and_true, Nat.reduceAdd, Nat.reduceSub, eq_self, hr, hm1, hm2, tyk_4, tcq_4, tyk_3, tcq_3]
  refine tc_n (D := 0) (fun d' hd' => e_copy (b := b) (bxl_2 h0) h2 (Or.inl hb) q2.1) (by omega) ?_
  rintro M2 ⟨q3, q4⟩
  try simp only [kb_X2_between_0, w_ald_0, w_gf_4_0, tw_t, w_ald_1, w_iv1, tfr_0, tfr_1, tfr_2, tfr_3, tfr_4, w_gf_4_1, w_ald_2, w_re, w64_r, true_and, and_true, Nat.reduceAdd, Nat.reduceSub, eq_self, hr, hm1, hm2, tyk_4, tcq_4, tyk_3, tcq_3]
  exact ⟨rfl, rfl, (q4.2.2 _ _ (by omega)).trans q1, q3.trans (by rw [q2.2.2 _ _ (Ne.symm hx)]), q4.1, pE_tr q2.2.1 q4.2.1⟩
end HAND
section HAND
variable {e : tE} {b d n : Nat} {M : tM}
theorem e_judged {r : Nat} (h0 : cl r 4) (hs : (-100000000000 ≤ M (r + 1) 0 ∧ M (r + 1) 0 ≤ 100000000000) ∧ (-100000000000 ≤ M (r + 2) 0 ∧ M (r + 2) 0 ≤ 100000000000)) (hd : 2 ≤ d) : tC e d 514 [.inr (.inr (.inl r))] M n (tQi n (fun z M' => z = 0 ∧ M' = M)) := by
  have hr := h0.1
  refine tst_X0_judged ?_
  refine tb_X0_judged_0 (c := true) ?_
  simp only [kb_X0_judged_0, w_ald_0, w_iv0, tfr_0, tfr_1, tfr_2, tfr_3, tfr_4, w_if_eq, w_ic, w_goto, w64_r, true_and, and_true, Nat.reduceAdd, Nat.reduceSub, eq_self, hr, tyk_4, tcq_4]
  refine tc_i (D := 1) (fun d' hd' => e_bTooGreat h0 hs hd') (by omega) ?_
  rintro z1 M1 ⟨rfl, rfl⟩
  try simp only [kb_X0_judged_0, w_ald_0, w_iv0, tfr_0, tfr_1, tfr_2, tfr_3, tfr_4, w_if_eq, w_ic, w_goto, w64_r, true_and, and_true, Nat.reduceAdd, Nat.reduceSub, eq_self, hr, tyk_4, tcq_4]
  refine ⟨by omega, fun h => ?_, fun h => absurd trivial h⟩
  refine tb_X0_judged_11 (c := true) ?_
  simp only [kb_X0_judged_11, w_ic, w_nil, w64_r, true_and, and_true, Nat.reduceAdd, Nat.reduceSub, eq_self]
  refine tb_X0_judged_12 (c := true) ?_
  simp only [kb_X0_judged_12, w_ire, trg, w64_r, true_and, and_true, Nat.reduceAdd, Nat.reduceSub, eq_self]
  exact ⟨_, rfl, rfl, rfl, rfl⟩
end HAND
