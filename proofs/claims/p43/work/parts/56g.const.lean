/-! THE CLASS: methods, printed by wip/p2/gen/sgen.py. -/
theorem tsh_78 : tsh 78 = 2 := by rw [tsh_def]; decide +kernel
theorem tsh_109 : tsh 109 = 3 := by rw [tsh_def]; decide +kernel
theorem tsh_110 : tsh 110 = 3 := by rw [tsh_def]; decide +kernel
theorem cl_78 : cl 78 2 := ⟨tsh_78, by decide⟩
theorem cl_109 : cl 109 3 := ⟨tsh_109, by decide⟩
theorem cl_110 : cl 110 3 := ⟨tsh_110, by decide⟩
theorem x_2 {r : Nat} (h : cl r 2) : r = 78 := by
  have g : ∀ r : Nat, r < 664 → tshl.getD r 0 = 2 → r = 78 := by decide +kernel
  have h1 := h.1
  rw [tsh_def] at h1
  exact g r h.2 h1
theorem bx_n {r k s : Nat} (h : cl r 4) (hk : tsh k = s) (hs : s ≠ 4) : r ≠ k := fun q => hs (by rw [← hk, ← q]; exact h.1)
theorem bx_80 {r : Nat} (h : cl r 4) : r + 1 ≠ 80 ∧ r + 2 ≠ 80 := by
  have a := bx_n h tsh_79 (by decide)
  have b := bx_n h tsh_78 (by decide)
  omega
theorem w_sm {x : Int} (h : -922337204 ≤ x ∧ x ≤ 922337204) : w64 x = x ∧ w64 (w64 x + 1) = x + 1 := by unfold w64; omega
section HAND
variable {e : tE} {b d n : Nat} {M : tM}
theorem e_told {r : Nat} (h0 : cl r 4) (hs : -922337204 ≤ M 80 0 ∧ M 80 0 ≤ 922337204) (hb : b < 2) (hC : CI M) (hd : 2 ≤ d) : tC e d 524 [.inr (.inr (.inl 78)), .inr (.inr (.inl r))] M n (tQi n (fun z M' => z = 0 ∧ CI M' ∧ pE b M M')) := by
  have hr := h0.1
  have hm1 := (bxl_1 h0).1
  have hm2 := (bxl_2 h0).1
  have h80 := bx_80 h0
  have hw := w_sm hs
  refine tst_X0_told ?_
  refine tb_X0_told_0 (c := true) ?_
  simp only [kb_X0_told_0, w_ald_0, w_gf_2_0, tw_t, w_ald_1, w_gf_4_0, w_gf_2_5, w_iv2, tfr_0, tfr_1, tfr_2, tfr_3, tfr_4, w_gf_4_1, w_iv0, w_if_eq, w_ic, w_goto, w64_r, true_and, and_true, Nat.reduceAdd, Nat.reduceSub, eq_self, tsh_78, tsh_79, tsh_80, hr, hm1, hm2, tyk_4, tyk_2, tyk_10, tyk_3, tcq_4, tcq_2, tcq_10, tcq_3]
  refine tc_n (D := 1) (fun d' hd' => e_tellDown (b := b) (bxl_1 h0) (w64_LR _) (Or.inl hb) hC hd') (by omega) ?_
  rintro M1 ⟨q1, q2⟩
  try simp only [kb_X0_told_0, w_ald_0, w_gf_2_0, tw_t, w_ald_1, w_gf_4_0, w_gf_2_5, w_iv2, tfr_0, tfr_1, tfr_2, tfr_3, tfr_4, w_gf_4_1, w_iv0, w_if_eq, w_ic, w_goto, w64_r, true_and, and_true, Nat.reduceAdd, Nat.reduceSub, eq_self, tsh_78, tsh_79, tsh_80, hr, hm1, hm2, tyk_4, tyk_2, tyk_10, tyk_3, tcq_4, tcq_2, tcq_10, tcq_3]
  refine tc_n (D := 1) (fun d' hd' => e_tellUp (b := b) (bxl_2 h0) (w64_LR _) (Or.inl hb) q2.1 hd') (by omega) ?_
  rintro M2 ⟨q3, q4⟩
  try simp only [kb_X0_told_0, w_ald_0, w_gf_2_0, tw_t, w_ald_1, w_gf_4_0, w_gf_2_5, w_iv2, tfr_0, tfr_1, tfr_2, tfr_3, tfr_4, w_gf_4_1, w_iv0, w_if_eq, w_ic, w_goto, w64_r, true_and, and_true, Nat.reduceAdd, Nat.reduceSub, eq_self, tsh_78, tsh_79, tsh_80, hr, hm1, hm2, tyk_4, tyk_2, tyk_10, tyk_3, tcq_4, tcq_2, tcq_10, tcq_3]
  rw [q2.2.2 80 0 (Ne.symm h80.1), hw.2, hw.1] at q3
  rw [hw.1] at q1
  have q5 := q4.2.2 (r + 1) 0 (by omega)
  refine tc_i (D := 1) (fun d' hd' => e_bTooGreat (M := M2) h0 (by rw [q5, q1]; omega) hd') (by omega) ?_
  rintro z1 M3 ⟨rfl, rfl⟩
  try simp only [kb_X0_told_0, w_ald_0, w_gf_2_0, tw_t, w_ald_1, w_gf_4_0, w_gf_2_5, w_iv2, tfr_0, tfr_1, tfr_2, tfr_3, tfr_4, w_gf_4_1, w_iv0, w_if_eq, w_ic, w_goto, w64_r, true_and, and_true, Nat.reduceAdd, Nat.reduceSub, eq_self, tsh_78, tsh_79, tsh_80, hr, hm1, hm2, tyk_4, tyk_2, tyk_10, tyk_3, tcq_4, tcq_2, tcq_10, tcq_3]
  refine ⟨by omega, fun h => ?_, fun h => absurd trivial h⟩
  refine tb_X0_told_41 (c := true) ?_
  simp only [kb_X0_told_41, w_ic, w_nil, w64_r, true_and, and_true, Nat.reduceAdd, Nat.reduceSub, eq_self]
  refine tb_X0_told_42 (c := true) ?_
  simp only [kb_X0_told_42, w_ire, trg, w64_r, true_and, and_true, Nat.reduceAdd, Nat.reduceSub, eq_self]
  exact ⟨_, rfl, rfl, rfl, q4.1, pE_tr q2.2.1 q4.2.1⟩
theorem k_X0_tellConstant_0 {r x1 : Nat} {x2 : Int} (h0 : cl r 2) (h1 : cl x1 4) (h2 : 0 ≤ x2 ∧ x2 ≤ 65535) (hb : b < 2) (hd : 3 ≤ d) : sC e b d 521 [.inr (.inr (.inl r)), .inr (.inr (.inl x1)), .inl x2] n (SQi n (fun z => z = 0)) := by
  cases x_2 h0
  intro M hC _
  refine tC_mono (Q := tQi n (fun z M' => z = 0 ∧ CI M' ∧ pE b M M')) ?_ (fun v M' n' q => by obtain ⟨x, q1, q2, q3, q4, q5⟩ := q; exact ⟨⟨q4, q5⟩, x, q1, q2, q3⟩)
  refine tst_X0_tellConstant ?_
  have n37 : ∀ M1 : tM, (-922337204 ≤ M1 80 0 ∧ M1 80 0 ≤ 922337204) → CI M1 → pE b M M1 → tT e d 521 37 [some (.inr (.inr (.inl 78))), some (.inr (.inr (.inl x1))), some (.inl x2)] [] M1 n (tQi n (fun z M' => z = 0 ∧ CI M' ∧ pE b M M')) := by
    intro M1 q1 q2 q3
    refine tb_X0_tellConstant_37 (c := true) ?_
    simp only [kb_X0_tellConstant_37, w_ald_0, w_ald_1, w_iv1, tfr_0, tfr_1, tfr_2, tfr_3, tfr_4, w_ire, trg, w64_r, true_and, and_true, Nat.reduceAdd, Nat.reduceSub, eq_self, tsh_78, tsh_79, tsh_80, tyk_4, tyk_2, tyk_10, tyk_3, tcq_4, tcq_2, tcq_10, tcq_3]
    refine tc_i (D := 2) (fun d' hd' => e_told h1 q1 hb q2 hd') (by omega) ?_
    rintro z1 M3 ⟨rfl, q4, q5⟩
    try simp only [kb_X0_tellConstant_37, w_ald_0, w_ald_1, w_iv1, tfr_0, tfr_1, tfr_2, tfr_3, tfr_4, w_ire, trg, w64_r, true_and, and_true, Nat.reduceAdd, Nat.reduceSub, eq_self, tsh_78, tsh_79, tsh_80, tyk_4, tyk_2, tyk_10, tyk_3, tcq_4, tcq_2, tcq_10, tcq_3]

    exact ⟨0, rfl, rfl, rfl, q4, pE_tr q3 q5⟩
  refine tb_X0_tellConstant_0 (c := true) ?_
  simp only [kb_X0_tellConstant_0, w_ild_2, w_bi, w_ic_ne, w_ald_0, w_gf_2_0, tw_t, w_ld2, w_ic, w_iv3, tfr_0, tfr_1, tfr_2, tfr_3, tfr_4, w_goto, w64_r, true_and, and_true, Nat.reduceAdd, Nat.reduceSub, eq_self, tsh_78, tsh_79, tsh_80, tyk_4, tyk_2, tyk_10, tyk_3, tcq_4, tcq_2, tcq_10, tcq_3]
  refine ⟨by omega, fun h => ?_, fun h => ?_⟩
  · refine tb_X0_tellConstant_23 (c := true) ?_
    simp only [kb_X0_tellConstant_23, w_ald_0, w_gf_2_0, tw_t, w_ld2, w_ic, w_iv3, tfr_0, tfr_1, tfr_2, tfr_3, tfr_4, w_nil, w64_r, true_and, and_true, Nat.reduceAdd, Nat.reduceSub, eq_self, tsh_78, tsh_79, tsh_80, tyk_4, tyk_2, tyk_10, tyk_3, tcq_4, tcq_2, tcq_10, tcq_3]
    refine tc_n (D := 0) (fun d' hd' => e_assign (b := b) (by omega) (by omega) (by omega) (Or.inl hb) hC) (by omega) ?_
    rintro M1 ⟨q1, q2, q3⟩
    try simp only [kb_X0_tellConstant_23, w_ald_0, w_gf_2_0, tw_t, w_ld2, w_ic, w_iv3, tfr_0, tfr_1, tfr_2, tfr_3, tfr_4, w_nil, w64_r, true_and, and_true, Nat.reduceAdd, Nat.reduceSub, eq_self, tsh_78, tsh_79, tsh_80, tyk_4, tyk_2, tyk_10, tyk_3, tcq_4, tcq_2, tcq_10, tcq_3]
    exact n37 M1 (by omega) q2 q3
  refine tc_n (D := 0) (fun d' hd' => e_assign (b := b) (by omega) (by omega) (by omega) (Or.inl hb) hC) (by omega) ?_
  rintro M1 ⟨q1, q2, q3⟩
  try simp only [kb_X0_tellConstant_0, w_ild_2, w_bi, w_ic_ne, w_ald_0, w_gf_2_0, tw_t, w_ld2, w_ic, w_iv3, tfr_0, tfr_1, tfr_2, tfr_3, tfr_4, w_goto, w64_r, true_and, and_true, Nat.reduceAdd, Nat.reduceSub, eq_self, tsh_78, tsh_79, tsh_80, tyk_4, tyk_2, tyk_10, tyk_3, tcq_4, tcq_2, tcq_10, tcq_3]
  exact n37 M1 (by omega) q2 q3
end HAND
