/-! WHAT HOLDS BETWEEN CALLS: kept by zeros, a judgement. -/
section HAND
variable {e : tE} {d n : Nat} {M : tM}
theorem tsh_659 : tsh 659 = 4 := by rw [tsh_def]; decide +kernel
theorem cl_659 : cl 659 4 := ⟨tsh_659, by decide⟩
/-- what a judgement leaves as it was -/
def FJ (M M' : tM) : Prop := ∀ (k : Nat) (i : Int), (k < 77 ∨ (498 < k ∧ k < 656)) → M' k i = M k i
theorem FJ_tr {M M1 M2 : tM} (h1 : FJ M M1) (h2 : FJ M1 M2) : FJ M M2 := fun k i g => (h2 k i g).trans (h1 k i g)
theorem v_aim0 {x y : Nat} (h1 : cl x 4) (h2 : cl y 4) (hK : KW M) (hC : CI M) : tC e d 2050 [.inr (.inr (.inl 77)), .inr (.inr (.inl x)), .inr (.inr (.inl y))] M n (tQn n (fun M' => (M' 77 3 = (x : Int) ∧ M' 77 4 = (y : Int)) ∧ KA M M' ∧ (∀ (k : Nat) (i : Int), k ≠ 77 → M' k i = M k i))) := by
  refine tC_mono (z_aim (b := 0) h1 h2 (by decide) hC) ?_
  rintro v M' n' ⟨q1, rfl, ⟨a1, a2, a3⟩, a4, a5⟩
  exact ⟨q1, rfl, ⟨a1, a2⟩, KA_f hK a4.1 a4.2 (RO_u hK.1.1.2 (a5 79 4 (by decide)) (a5 79 5 (by decide))) (fun k i g => a5 k i (by unfold KPC at g; omega)), a5⟩
theorem v_judge {r : Nat} {X : Int × Int} (hr : FMC r) (h6 : M r 6 = 1) (hX : BX M 650 X.1 X.2 ∧ GBX X) (he : EVr e) (hl : ESL e) (hK : KW M) (hC : CI M) (hd : 9 ≤ d) : tC e d 3367 [.inr (.inr (.inl 0)), .inr (.inr (.inl r)), .inr (.inr (.inl 650))] M n (tQi n (fun z M' => (32 ≤ z ∧ z ≤ 63) ∧ KA M M' ∧ FJ M M')) := by
  have sr := (FM_of hr).1
  have rr : 499 < r ∧ r + 6 < 531 := by unfold FMC at hr; omega
  have glo : GBX (X.1, X.1) := ⟨⟨hX.2.1.1, hX.2.1.1⟩, Int.le_refl _⟩
  have ghi : GBX (X.2, X.2) := ⟨⟨hX.2.1.2, hX.2.1.2⟩, Int.le_refl _⟩
  refine tst_X11_judge ?_
  have n63 : ∀ (M1 : tM), KA M M1 → FJ M M1 → tT e d 3367 63 [some (.inr (.inr (.inl (0)))), some (.inr (.inr (.inl (r)))), some (.inr (.inr (.inl (650))))] [] M1 n (tQi n (fun z M' => (32 ≤ z ∧ z ≤ 63) ∧ KA M M' ∧ FJ M M')) := by
    intro M1 k1 f1
    refine tb_X11_judge_63 (c := true) ?_
    simp only [kb_X11_judge_63, w_bi, w_ire, trg, w64_r, true_and, and_true, Nat.reduceAdd, Nat.reduceSub, eq_self]
    exact ⟨by decide, _, rfl, rfl, by decide, k1, f1⟩
  refine tb_X11_judge_0 (c := true) ?_
  simp only [kb_X11_judge_0, w_ald_0, w_gf_13_4, tw_t, w_ald_2, w_iv2, tfr_0, tfr_1, tfr_2, tfr_3, tfr_4, w_ald_1, w_iv1, w_if_eq, w_bi, w_ire, trg, w64_r, true_and, and_true, Nat.reduceAdd, Nat.reduceSub, eq_self, tsh_0, tyk_13, tcq_13, tsh_77, tyk_8, tcq_8, tyk_4, tcq_4, tsh_113, tsh_650, tsh_656, tsh_659, tsh_651, tsh_652, tyk_3, tcq_3, sr]
  refine tc_n (D := 0) (fun d' hd' => v_aim (X := X) (Y := X) ⟨cl_650, Or.inr (by decide)⟩ ⟨cl_650, Or.inr (by decide)⟩ hX hX hK hC) (by omega) ?_
  rintro M1 ⟨am1, k1, g1⟩
  have j1 : FJ M M1 := fun k i g => g1 k i (by omega)
  try simp only [kb_X11_judge_0, w_ald_0, w_gf_13_4, tw_t, w_ald_2, w_iv2, tfr_0, tfr_1, tfr_2, tfr_3, tfr_4, w_ald_1, w_iv1, w_if_eq, w_bi, w_ire, trg, w64_r, true_and, and_true, Nat.reduceAdd, Nat.reduceSub, eq_self, tsh_0, tyk_13, tcq_13, tsh_77, tyk_8, tcq_8, tyk_4, tcq_4, tsh_113, tsh_650, tsh_656, tsh_659, tsh_651, tsh_652, tyk_3, tcq_3, sr]
  have e1 : M1 r 6 = 1 := (j1 r 6 (by omega)).trans h6
  refine tc_i (D := 8) (fun d' hd' => v_mkV hr e1 am1 he k1.2 k1.1.1 hd') (by omega) ?_
  rintro z2 M2 ⟨hz2, k2, m2, v2⟩
  have kk2 := KA_tr k1.1.2 k2
  have j2 : FJ M M2 := FJ_tr j1 (fun k i g => m2.2.2 k i (by omega))
  try simp only [kb_X11_judge_0, w_ald_0, w_gf_13_4, tw_t, w_ald_2, w_iv2, tfr_0, tfr_1, tfr_2, tfr_3, tfr_4, w_ald_1, w_iv1, w_if_eq, w_bi, w_ire, trg, w64_r, true_and, and_true, Nat.reduceAdd, Nat.reduceSub, eq_self, tsh_0, tyk_13, tcq_13, tsh_77, tyk_8, tcq_8, tyk_4, tcq_4, tsh_113, tsh_650, tsh_656, tsh_659, tsh_651, tsh_652, tyk_3, tcq_3, sr]
  repeat refine And.intro (by omega) ?_
  refine ⟨fun q => ?_, fun q => ⟨by decide, _, rfl, rfl, by decide, kk2, j2⟩⟩
  obtain ⟨B2, s2, -⟩ := v2 (by omega)
  obtain ⟨b2, gb2⟩ := s2.2 0 (by decide)
  refine tb_X11_judge_23 (c := true) ?_
  simp only [kb_X11_judge_23, w_ald_0, w_gf_13_4, tw_t, w_iv0, tfr_0, tfr_1, tfr_2, tfr_3, tfr_4, w_if_ne, w_bi, w_ire, trg, w64_r, true_and, and_true, Nat.reduceAdd, Nat.reduceSub, eq_self, tsh_0, tyk_13, tcq_13, tsh_77, tyk_8, tcq_8, tyk_4, tcq_4, tsh_113, tsh_650, tsh_656, tsh_659, tsh_651, tsh_652, tyk_3, tcq_3, sr]
  refine tc_r (D := 1) (fun d' hd' => z_result s2.1 hd') (by omega) ?_
  rintro y M3 ⟨rfl, rfl⟩
  try simp only [kb_X11_judge_23, w_ald_0, w_gf_13_4, tw_t, w_iv0, tfr_0, tfr_1, tfr_2, tfr_3, tfr_4, w_if_ne, w_bi, w_ire, trg, w64_r, true_and, and_true, Nat.reduceAdd, Nat.reduceSub, eq_self, tsh_0, tyk_13, tcq_13, tsh_77, tyk_8, tcq_8, tyk_4, tcq_4, tsh_113, tsh_650, tsh_656, tsh_659, tsh_651, tsh_652, tyk_3, tcq_3, sr]
  refine tc_i (D := 1) (fun d' hd' => z_holdsZero cl_113 b2 (RV_g gb2).1 (RV_g gb2).2 hd') (by omega) ?_
  rintro z3 M4 ⟨hz3, rfl⟩
  try simp only [kb_X11_judge_23, w_ald_0, w_gf_13_4, tw_t, w_iv0, tfr_0, tfr_1, tfr_2, tfr_3, tfr_4, w_if_ne, w_bi, w_ire, trg, w64_r, true_and, and_true, Nat.reduceAdd, Nat.reduceSub, eq_self, tsh_0, tyk_13, tcq_13, tsh_77, tyk_8, tcq_8, tyk_4, tcq_4, tsh_113, tsh_650, tsh_656, tsh_659, tsh_651, tsh_652, tyk_3, tcq_3, sr]
  repeat refine And.intro (by omega) ?_
  refine ⟨fun q => ?_, fun q => ⟨by decide, _, rfl, rfl, by decide, kk2, j2⟩⟩
  have e2 : M4 r 6 = 1 := (j2 r 6 (by omega)).trans h6
  obtain ⟨c, hc⟩ := kk2.2.1.2.2 r hr e2
  refine tb_X11_judge_39 (c := true) ?_
  simp only [kb_X11_judge_39, w_ald_0, w_gf_13_4, tw_t, w_ald_1, w_iv1, tfr_0, tfr_1, tfr_2, tfr_3, tfr_4, w_if_ne, w_iv0, w_if_eq, w_nil, w64_r, true_and, and_true, Nat.reduceAdd, Nat.reduceSub, eq_self, tsh_0, tyk_13, tcq_13, tsh_77, tyk_8, tcq_8, tyk_4, tcq_4, tsh_113, tsh_650, tsh_656, tsh_659, tsh_651, tsh_652, tyk_3, tcq_3, sr]
  refine tc_i (D := 8) (fun d' hd' => v_makeSlope hr hc (kk2.2.2.2 r hr e2) (AIM_m am1 m2) ⟨Or.inr (by decide), Or.inr (by decide)⟩ (KU kk2.2 kk2.1.1) he hl kk2.2.1.1.2 kk2.1.1 hd') (by omega) ?_
  rintro z8 M8 ⟨hz8, f8, v8⟩
  have kk8 := KA_tr kk2.1.2 (KA_sl kk2.2 f8)
  have j8 : FJ M M8 := FJ_tr j2 (fun k i g => f8.2.1 k i (by omega))
  try simp only [kb_X11_judge_39, w_ald_0, w_gf_13_4, tw_t, w_ald_1, w_iv1, tfr_0, tfr_1, tfr_2, tfr_3, tfr_4, w_if_ne, w_iv0, w_if_eq, w_nil, w64_r, true_and, and_true, Nat.reduceAdd, Nat.reduceSub, eq_self, tsh_0, tyk_13, tcq_13, tsh_77, tyk_8, tcq_8, tyk_4, tcq_4, tsh_113, tsh_650, tsh_656, tsh_659, tsh_651, tsh_652, tyk_3, tcq_3, sr]
  repeat refine And.intro (by omega) ?_
  refine ⟨fun q => n63 M8 kk8 j8, fun q => ?_⟩
  obtain ⟨m, B8, hm8, s8⟩ := v8 (by omega)
  obtain ⟨i, a0, a1, ⟨w, w1, w2⟩⟩ := csA_top hm8 s8
  have ck := cl_cs a0
  have cks := ck.1
  refine tc_r (D := 1) (fun d' hd' => z_resultG kk8.1.1 hd') (by omega) ?_
  rintro y M9 ⟨hy, rfl⟩
  rw [a1] at hy
  subst hy
  try simp only [kb_X11_judge_39, w_ald_0, w_gf_13_4, tw_t, w_ald_1, w_iv1, tfr_0, tfr_1, tfr_2, tfr_3, tfr_4, w_if_ne, w_iv0, w_if_eq, w_nil, w64_r, true_and, and_true, Nat.reduceAdd, Nat.reduceSub, eq_self, tsh_0, tyk_13, tcq_13, tsh_77, tyk_8, tcq_8, tyk_4, tcq_4, tsh_113, tsh_650, tsh_656, tsh_659, tsh_651, tsh_652, tyk_3, tcq_3, sr, cks]
  refine tc_i (D := 1) (fun d' hd' => z_holdsZero ck w1 (RV_g w2).1 (RV_g w2).2 hd') (by omega) ?_
  rintro z9 M10 ⟨hz9, rfl⟩
  have hz9' : (-2147483648 ≤ z9 ∧ z9 < 2147483648) := by rcases hz9 with ⟨h, _⟩ | ⟨h, _⟩ <;> rw [h] <;> decide
  clear hz9
  try simp only [kb_X11_judge_39, w_ald_0, w_gf_13_4, tw_t, w_ald_1, w_iv1, tfr_0, tfr_1, tfr_2, tfr_3, tfr_4, w_if_ne, w_iv0, w_if_eq, w_nil, w64_r, true_and, and_true, Nat.reduceAdd, Nat.reduceSub, eq_self, tsh_0, tyk_13, tcq_13, tsh_77, tyk_8, tcq_8, tyk_4, tcq_4, tsh_113, tsh_650, tsh_656, tsh_659, tsh_651, tsh_652, tyk_3, tcq_3, sr, cks]
  refine ⟨hz9', fun q => ?_, fun q => n63 _ kk8 j8⟩
  refine tb_X11_judge_66 (c := true) ?_
  simp only [kb_X11_judge_66, w_ald_0, w_gf_13_4, tw_t, w_gf_13_13, w_iv2, tfr_0, tfr_1, tfr_2, tfr_3, tfr_4, w_ald_2, w_gf_4_0, w_ald_1, w_iv1, w_if_eq, w_bi, w_ire, trg, w64_r, true_and, and_true, Nat.reduceAdd, Nat.reduceSub, eq_self, tsh_0, tyk_13, tcq_13, tsh_77, tyk_8, tcq_8, tyk_4, tcq_4, tsh_113, tsh_650, tsh_656, tsh_659, tsh_651, tsh_652, tyk_3, tcq_3, sr]
  refine tc_n (D := 0) (fun d' hd' => v_aim0 cl_656 cl_656 kk8.2 kk8.1.1) (by omega) ?_
  rintro M11 ⟨am11, k11, g11⟩
  have kk11 := KA_tr kk8.1.2 k11
  have j11 : FJ M M11 := FJ_tr j8 (fun k i g => g11 k i (by omega))
  have X11 : BX M11 650 X.1 X.2 := BX_f hX.1 (fun j => j11 _ _ (by decide)) (fun j => j11 _ _ (by decide))
  try simp only [kb_X11_judge_66, w_ald_0, w_gf_13_4, tw_t, w_gf_13_13, w_iv2, tfr_0, tfr_1, tfr_2, tfr_3, tfr_4, w_ald_2, w_gf_4_0, w_ald_1, w_iv1, w_if_eq, w_bi, w_ire, trg, w64_r, true_and, and_true, Nat.reduceAdd, Nat.reduceSub, eq_self, tsh_0, tyk_13, tcq_13, tsh_77, tyk_8, tcq_8, tyk_4, tcq_4, tsh_113, tsh_650, tsh_656, tsh_659, tsh_651, tsh_652, tyk_3, tcq_3, sr]
  refine tc_n (D := 1) (fun d' hd' => z_between (b := 0) cl_656 (bxl_1 cl_650) (bxl_1 cl_650) X11.1 X11.1 (by decide) (by decide) kk11.1.1 hd') (by omega) ?_
  rintro M12 ⟨x12, f12⟩
  have kk12 := KA_tr kk11.1.2 (KA_b kk11.2 (by decide) f12)
  have j12 : FJ M M12 := FJ_tr j11 (fun k i g => f12.2 k i (by omega) (by omega))
  have am12 : AIM M12 656 656 (X.1, X.1) (X.1, X.1) := ⟨⟨(f12.2 77 3 (by decide) (by decide)).trans am11.1, cl_656, Or.inr (by decide)⟩, ⟨(f12.2 77 4 (by decide) (by decide)).trans am11.2, cl_656, Or.inr (by decide)⟩, ⟨x12, glo⟩, ⟨x12, glo⟩⟩
  try simp only [kb_X11_judge_66, w_ald_0, w_gf_13_4, tw_t, w_gf_13_13, w_iv2, tfr_0, tfr_1, tfr_2, tfr_3, tfr_4, w_ald_2, w_gf_4_0, w_ald_1, w_iv1, w_if_eq, w_bi, w_ire, trg, w64_r, true_and, and_true, Nat.reduceAdd, Nat.reduceSub, eq_self, tsh_0, tyk_13, tcq_13, tsh_77, tyk_8, tcq_8, tyk_4, tcq_4, tsh_113, tsh_650, tsh_656, tsh_659, tsh_651, tsh_652, tyk_3, tcq_3, sr]
  refine tc_i (D := 8) (fun d' hd' => v_mkV hr ((j12 r 6 (by omega)).trans h6) am12 he kk12.2 kk12.1.1 hd') (by omega) ?_
  rintro z13 M13 ⟨hz13, k13, m13, v13⟩
  have kk13 := KA_tr kk12.1.2 k13
  have j13 : FJ M M13 := FJ_tr j12 (fun k i g => m13.2.2 k i (by omega))
  try simp only [kb_X11_judge_66, w_ald_0, w_gf_13_4, tw_t, w_gf_13_13, w_iv2, tfr_0, tfr_1, tfr_2, tfr_3, tfr_4, w_ald_2, w_gf_4_0, w_ald_1, w_iv1, w_if_eq, w_bi, w_ire, trg, w64_r, true_and, and_true, Nat.reduceAdd, Nat.reduceSub, eq_self, tsh_0, tyk_13, tcq_13, tsh_77, tyk_8, tcq_8, tyk_4, tcq_4, tsh_113, tsh_650, tsh_656, tsh_659, tsh_651, tsh_652, tyk_3, tcq_3, sr]
  repeat refine And.intro (by omega) ?_
  refine ⟨fun q => ?_, fun q => ⟨by decide, _, rfl, rfl, by decide, kk13, j13⟩⟩
  obtain ⟨B13, s13, -⟩ := v13 (by omega)
  obtain ⟨b13, gb13⟩ := s13.2 0 (by decide)
  refine tb_X11_judge_110 (c := true) ?_
  simp only [kb_X11_judge_110, w_ald_0, w_gf_13_14, tw_t, w_gf_13_4, w_iv0, tfr_0, tfr_1, tfr_2, tfr_3, tfr_4, w_iv1, w_gf_13_13, w_ald_2, w_gf_4_1, w_iv2, w_ald_1, w_if_eq, w_bi, w_ire, trg, w64_r, true_and, and_true, Nat.reduceAdd, Nat.reduceSub, eq_self, tsh_0, tyk_13, tcq_13, tsh_77, tyk_8, tcq_8, tyk_4, tcq_4, tsh_113, tsh_650, tsh_656, tsh_659, tsh_651, tsh_652, tyk_3, tcq_3, sr]
  refine tc_r (D := 1) (fun d' hd' => z_result s13.1 hd') (by omega) ?_
  rintro y M14 ⟨rfl, rfl⟩
  try simp only [kb_X11_judge_110, w_ald_0, w_gf_13_14, tw_t, w_gf_13_4, w_iv0, tfr_0, tfr_1, tfr_2, tfr_3, tfr_4, w_iv1, w_gf_13_13, w_ald_2, w_gf_4_1, w_iv2, w_ald_1, w_if_eq, w_bi, w_ire, trg, w64_r, true_and, and_true, Nat.reduceAdd, Nat.reduceSub, eq_self, tsh_0, tyk_13, tcq_13, tsh_77, tyk_8, tcq_8, tyk_4, tcq_4, tsh_113, tsh_650, tsh_656, tsh_659, tsh_651, tsh_652, tyk_3, tcq_3, sr]
  refine tc_n (D := 1) (fun d' hd' => z_copy (b := 0) cl_659 cl_113 b13 (by decide) kk13.1.1 hd') (by omega) ?_
  rintro M15 ⟨x15, f15⟩
  have kk15 := KA_tr kk13.1.2 (KA_b kk13.2 (by decide) f15)
  have j15 : FJ M M15 := FJ_tr j13 (fun k i g => f15.2 k i (by omega) (by omega))
  have X15 : BX M15 650 X.1 X.2 := BX_f hX.1 (fun j => j15 _ _ (by decide)) (fun j => j15 _ _ (by decide))
  have am15 := AIM_m am12 m13
  try simp only [kb_X11_judge_110, w_ald_0, w_gf_13_14, tw_t, w_gf_13_4, w_iv0, tfr_0, tfr_1, tfr_2, tfr_3, tfr_4, w_iv1, w_gf_13_13, w_ald_2, w_gf_4_1, w_iv2, w_ald_1, w_if_eq, w_bi, w_ire, trg, w64_r, true_and, and_true, Nat.reduceAdd, Nat.reduceSub, eq_self, tsh_0, tyk_13, tcq_13, tsh_77, tyk_8, tcq_8, tyk_4, tcq_4, tsh_113, tsh_650, tsh_656, tsh_659, tsh_651, tsh_652, tyk_3, tcq_3, sr]
  refine tc_n (D := 1) (fun d' hd' => z_between (b := 0) cl_656 (bxl_2 cl_650) (bxl_2 cl_650) X15.2 X15.2 (by decide) (by decide) kk15.1.1 hd') (by omega) ?_
  rintro M16 ⟨x16, f16⟩
  have kk16 := KA_tr kk15.1.2 (KA_b kk15.2 (by decide) f16)
  have j16 : FJ M M16 := FJ_tr j15 (fun k i g => f16.2 k i (by omega) (by omega))
  have am16 : AIM M16 656 656 (X.2, X.2) (X.2, X.2) := ⟨⟨(f16.2 77 3 (by decide) (by decide)).trans ((f15.2 77 3 (by decide) (by decide)).trans am15.1.1), cl_656, Or.inr (by decide)⟩, ⟨(f16.2 77 4 (by decide) (by decide)).trans ((f15.2 77 4 (by decide) (by decide)).trans am15.2.1.1), cl_656, Or.inr (by decide)⟩, ⟨x16, ghi⟩, ⟨x16, ghi⟩⟩
  try simp only [kb_X11_judge_110, w_ald_0, w_gf_13_14, tw_t, w_gf_13_4, w_iv0, tfr_0, tfr_1, tfr_2, tfr_3, tfr_4, w_iv1, w_gf_13_13, w_ald_2, w_gf_4_1, w_iv2, w_ald_1, w_if_eq, w_bi, w_ire, trg, w64_r, true_and, and_true, Nat.reduceAdd, Nat.reduceSub, eq_self, tsh_0, tyk_13, tcq_13, tsh_77, tyk_8, tcq_8, tyk_4, tcq_4, tsh_113, tsh_650, tsh_656, tsh_659, tsh_651, tsh_652, tyk_3, tcq_3, sr]
  refine tc_i (D := 8) (fun d' hd' => v_mkV hr ((j16 r 6 (by omega)).trans h6) am16 he kk16.2 kk16.1.1 hd') (by omega) ?_
  rintro z17 M17 ⟨hz17, k17, m17, v17⟩
  have kk17 := KA_tr kk16.1.2 k17
  have j17 : FJ M M17 := FJ_tr j16 (fun k i g => m17.2.2 k i (by omega))
  try simp only [kb_X11_judge_110, w_ald_0, w_gf_13_14, tw_t, w_gf_13_4, w_iv0, tfr_0, tfr_1, tfr_2, tfr_3, tfr_4, w_iv1, w_gf_13_13, w_ald_2, w_gf_4_1, w_iv2, w_ald_1, w_if_eq, w_bi, w_ire, trg, w64_r, true_and, and_true, Nat.reduceAdd, Nat.reduceSub, eq_self, tsh_0, tyk_13, tcq_13, tsh_77, tyk_8, tcq_8, tyk_4, tcq_4, tsh_113, tsh_650, tsh_656, tsh_659, tsh_651, tsh_652, tyk_3, tcq_3, sr]
  repeat refine And.intro (by omega) ?_
  refine ⟨fun q => ?_, fun q => ⟨by decide, _, rfl, rfl, by decide, kk17, j17⟩⟩
  obtain ⟨B17, s17, -⟩ := v17 (by omega)
  refine tb_X11_judge_153 (c := true) ?_
  simp only [kb_X11_judge_153, w_ald_0, w_gf_13_14, tw_t, w_gf_13_4, w_iv0, tfr_0, tfr_1, tfr_2, tfr_3, tfr_4, w_is2, w_ire, trg, w64_r, true_and, and_true, Nat.reduceAdd, Nat.reduceSub, eq_self, tsh_0, tyk_13, tcq_13, tsh_77, tyk_8, tcq_8, tyk_4, tcq_4, tsh_113, tsh_650, tsh_656, tsh_659, tsh_651, tsh_652, tyk_3, tcq_3, sr]
  refine tc_r (D := 1) (fun d' hd' => z_result s17.1 hd') (by omega) ?_
  rintro y M18 ⟨rfl, rfl⟩
  try simp only [kb_X11_judge_153, w_ald_0, w_gf_13_14, tw_t, w_gf_13_4, w_iv0, tfr_0, tfr_1, tfr_2, tfr_3, tfr_4, w_is2, w_ire, trg, w64_r, true_and, and_true, Nat.reduceAdd, Nat.reduceSub, eq_self, tsh_0, tyk_13, tcq_13, tsh_77, tyk_8, tcq_8, tyk_4, tcq_4, tsh_113, tsh_650, tsh_656, tsh_659, tsh_651, tsh_652, tyk_3, tcq_3, sr]
  refine tz_i (D := 1) (fun d' hd' => k_X11_kindByEnds cl_659 cl_113 hd') kk17.1.1 (by omega) ?_
  intro z19 hz19
  try simp only [kb_X11_judge_153, w_ald_0, w_gf_13_14, tw_t, w_gf_13_4, w_iv0, tfr_0, tfr_1, tfr_2, tfr_3, tfr_4, w_is2, w_ire, trg, w64_r, true_and, and_true, Nat.reduceAdd, Nat.reduceSub, eq_self, tsh_0, tyk_13, tcq_13, tsh_77, tyk_8, tcq_8, tyk_4, tcq_4, tsh_113, tsh_650, tsh_656, tsh_659, tsh_651, tsh_652, tyk_3, tcq_3, sr]
  exact ⟨by omega, _, rfl, rfl, hz19, kk17, j17⟩
end HAND
