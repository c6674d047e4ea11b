/-! WHAT HOLDS BETWEEN CALLS: kept by narrow. -/
section HAND
variable {e : tE} {d n : Nat} {M : tM}
theorem v_makeNarrowed {r x : Nat} {X : Int × Int} (hr : FMC r) (h6 : M r 6 = 1) (hx : cl x 4 ∧ x + 2 < 77) (hX : BX M x X.1 X.2 ∧ GBX X) (he : EVr e) (hl : ESL e) (hK : KW M) (hC : CI M) (hd : 9 ≤ d) : tC e d 3373 [.inr (.inr (.inl 0)), .inr (.inr (.inl r)), .inr (.inr (.inl x))] M n (tQi n (fun z M' => (0 ≤ z ∧ z ≤ 2) ∧ KA M M' ∧ (z = 0 → ∃ B' : Nat → Int × Int, SK M' 1 B'))) := by
  have sr := (FM_of hr).1
  have rr : 499 < r ∧ r + 6 < 531 := by unfold FMC at hr; omega
  have sx := hx.1.1
  have hu := KU hK hC
  have hu1 := hu.1
  have md := md_in hu hX.2
  refine tst_X11_makeNarrowed ?_
  refine tb_X11_makeNarrowed_0 (c := true) ?_
  simp only [kb_X11_makeNarrowed_0, w_ald_0, w_gf_13_11, tw_t, w_ald_2, w_gf_13_4, w_iv0, tfr_0, tfr_1, tfr_2, tfr_3, tfr_4, w_iv2, w_popi, w_popr, w_ald_1, w_iv1, w_ist_3, tkl_n, tkl_i, tkl_l, tkl_r, w_ild_3, w_if_eq, w_ire, trg, w64_r, true_and, and_true, Nat.reduceAdd, Nat.reduceSub, eq_self, tsh_0, tyk_13, tcq_13, tsh_77, tyk_8, tcq_8, tyk_4, tcq_4, tsh_113, tsh_650, tsh_653, tsh_656, tsh_5, tyk_11, tcq_11, sr, sx]
  refine tc_l (D := 0) (fun d' hd' => z_unit) (by omega) ?_
  rintro u M1 ⟨rfl, rfl⟩
  try simp only [kb_X11_makeNarrowed_0, w_ald_0, w_gf_13_11, tw_t, w_ald_2, w_gf_13_4, w_iv0, tfr_0, tfr_1, tfr_2, tfr_3, tfr_4, w_iv2, w_popi, w_popr, w_ald_1, w_iv1, w_ist_3, tkl_n, tkl_i, tkl_l, tkl_r, w_ild_3, w_if_eq, w_ire, trg, w64_r, true_and, and_true, Nat.reduceAdd, Nat.reduceSub, eq_self, tsh_0, tyk_13, tcq_13, tsh_77, tyk_8, tcq_8, tyk_4, tcq_4, tsh_113, tsh_650, tsh_653, tsh_656, tsh_5, tyk_11, tcq_11, sr, sx]
  repeat refine And.intro (by omega) ?_
  refine tc_i (D := 2) (fun d' hd' => z_toMiddle (b := 0) cl_650 hx.1 (by omega) hX.1 hX.2.1 hu (by decide) hC hd') (by omega) ?_
  rintro z2 M2 ⟨x2, f2, _⟩
  have k2 := KA_b hK (by decide) f2
  generalize hmm : mdv (M1 78 5) X.1 X.2 = mm at *
  try simp only [kb_X11_makeNarrowed_0, w_ald_0, w_gf_13_11, tw_t, w_ald_2, w_gf_13_4, w_iv0, tfr_0, tfr_1, tfr_2, tfr_3, tfr_4, w_iv2, w_popi, w_popr, w_ald_1, w_iv1, w_ist_3, tkl_n, tkl_i, tkl_l, tkl_r, w_ild_3, w_if_eq, w_ire, trg, w64_r, true_and, and_true, Nat.reduceAdd, Nat.reduceSub, eq_self, tsh_0, tyk_13, tcq_13, tsh_77, tyk_8, tcq_8, tyk_4, tcq_4, tsh_113, tsh_650, tsh_653, tsh_656, tsh_5, tyk_11, tcq_11, sr, sx]
  refine tc_n (D := 0) (fun d' hd' => v_aim (X := (mm, mm)) (Y := (mm, mm)) ⟨cl_650, Or.inr (by decide)⟩ ⟨cl_650, Or.inr (by decide)⟩ ⟨x2, md.2⟩ ⟨x2, md.2⟩ k2.2 k2.1.1) (by omega) ?_
  rintro M3 ⟨am3, k3, g3⟩
  have kk3 := KA_tr k2.1.2 k3
  try simp only [kb_X11_makeNarrowed_0, w_ald_0, w_gf_13_11, tw_t, w_ald_2, w_gf_13_4, w_iv0, tfr_0, tfr_1, tfr_2, tfr_3, tfr_4, w_iv2, w_popi, w_popr, w_ald_1, w_iv1, w_ist_3, tkl_n, tkl_i, tkl_l, tkl_r, w_ild_3, w_if_eq, w_ire, trg, w64_r, true_and, and_true, Nat.reduceAdd, Nat.reduceSub, eq_self, tsh_0, tyk_13, tcq_13, tsh_77, tyk_8, tcq_8, tyk_4, tcq_4, tsh_113, tsh_650, tsh_653, tsh_656, tsh_5, tyk_11, tcq_11, sr, sx]
  have e36 : M3 r 6 = 1 := (g3 r 6 (by omega)).trans ((f2.2 r 6 (by omega) (by omega)).trans h6)
  refine tc_i (D := 8) (fun d' hd' => v_mkV hr e36 am3 he kk3.2 kk3.1.1 hd') (by omega) ?_
  rintro z4 M4 ⟨hz4, k4, m4, v4⟩
  have kk4 := KA_tr kk3.1.2 k4
  try simp only [kb_X11_makeNarrowed_0, w_ald_0, w_gf_13_11, tw_t, w_ald_2, w_gf_13_4, w_iv0, tfr_0, tfr_1, tfr_2, tfr_3, tfr_4, w_iv2, w_popi, w_popr, w_ald_1, w_iv1, w_ist_3, tkl_n, tkl_i, tkl_l, tkl_r, w_ild_3, w_if_eq, w_ire, trg, w64_r, true_and, and_true, Nat.reduceAdd, Nat.reduceSub, eq_self, tsh_0, tyk_13, tcq_13, tsh_77, tyk_8, tcq_8, tyk_4, tcq_4, tsh_113, tsh_650, tsh_653, tsh_656, tsh_5, tyk_11, tcq_11, sr, sx]
  repeat refine And.intro (by omega) ?_
  refine ⟨fun q => ?_, fun q => ⟨_, rfl, rfl, hz4, kk4, fun q2 => absurd q2 (by omega)⟩⟩
  obtain ⟨B0, s0, -⟩ := v4 (by omega)
  obtain ⟨b0, gb0⟩ := s0.2 0 (by decide)
  have x4 : BX M4 650 mm mm := BX_f x2 (fun j => (m4.2.2 _ _ (by decide)).trans (g3 _ _ (by decide))) (fun j => (m4.2.2 _ _ (by decide)).trans (g3 _ _ (by decide)))
  have X4 : BX M4 x X.1 X.2 := BX_f hX.1 (fun j => (m4.2.2 _ _ (by omega)).trans ((g3 _ _ (by omega)).trans (f2.2 _ _ (by omega) (by omega)))) (fun j => (m4.2.2 _ _ (by omega)).trans ((g3 _ _ (by omega)).trans (f2.2 _ _ (by omega) (by omega))))
  have e46 : M4 r 6 = 1 := (m4.2.2 r 6 (by omega)).trans e36
  refine tb_X11_makeNarrowed_46 (c := true) ?_
  simp only [kb_X11_makeNarrowed_46, w_ald_0, w_gf_13_12, tw_t, w_gf_13_4, w_iv0, tfr_0, tfr_1, tfr_2, tfr_3, tfr_4, w_iv1, w_ald_2, w_iv2, w_ald_1, w_ist_3, tkl_n, tkl_i, tkl_l, tkl_r, w_ild_3, w_if_eq, w_ire, trg, w64_r, true_and, and_true, Nat.reduceAdd, Nat.reduceSub, eq_self, tsh_0, tyk_13, tcq_13, tsh_77, tyk_8, tcq_8, tyk_4, tcq_4, tsh_113, tsh_650, tsh_653, tsh_656, tsh_5, tyk_11, tcq_11, sr, sx]
  refine tc_r (D := 1) (fun d' hd' => z_result s0.1 hd') (by omega) ?_
  rintro y M5 ⟨rfl, rfl⟩
  try simp only [kb_X11_makeNarrowed_46, w_ald_0, w_gf_13_12, tw_t, w_gf_13_4, w_iv0, tfr_0, tfr_1, tfr_2, tfr_3, tfr_4, w_iv1, w_ald_2, w_iv2, w_ald_1, w_ist_3, tkl_n, tkl_i, tkl_l, tkl_r, w_ild_3, w_if_eq, w_ire, trg, w64_r, true_and, and_true, Nat.reduceAdd, Nat.reduceSub, eq_self, tsh_0, tyk_13, tcq_13, tsh_77, tyk_8, tcq_8, tyk_4, tcq_4, tsh_113, tsh_650, tsh_653, tsh_656, tsh_5, tyk_11, tcq_11, sr, sx]
  refine tc_n (D := 1) (fun d' hd' => z_copy (b := 0) cl_653 cl_113 b0 (by decide) kk4.1.1 hd') (by omega) ?_
  rintro M6 ⟨x6, f6⟩
  have k6 := KA_b kk4.2 (by decide) f6
  have kk6 := KA_tr kk4.1.2 k6
  try simp only [kb_X11_makeNarrowed_46, w_ald_0, w_gf_13_12, tw_t, w_gf_13_4, w_iv0, tfr_0, tfr_1, tfr_2, tfr_3, tfr_4, w_iv1, w_ald_2, w_iv2, w_ald_1, w_ist_3, tkl_n, tkl_i, tkl_l, tkl_r, w_ild_3, w_if_eq, w_ire, trg, w64_r, true_and, and_true, Nat.reduceAdd, Nat.reduceSub, eq_self, tsh_0, tyk_13, tcq_13, tsh_77, tyk_8, tcq_8, tyk_4, tcq_4, tsh_113, tsh_650, tsh_653, tsh_656, tsh_5, tyk_11, tcq_11, sr, sx]
  have X6 : BX M6 x X.1 X.2 := BX_f X4 (fun j => f6.2 _ _ (by omega) (by omega)) (fun j => f6.2 _ _ (by omega) (by omega))
  refine tc_n (D := 0) (fun d' hd' => v_aim (X := X) (Y := X) ⟨hx.1, Or.inl hx.2⟩ ⟨hx.1, Or.inl hx.2⟩ ⟨X6, hX.2⟩ ⟨X6, hX.2⟩ kk6.2 kk6.1.1) (by omega) ?_
  rintro M7 ⟨am7, k7, g7⟩
  have kk7 := KA_tr kk6.1.2 k7
  try simp only [kb_X11_makeNarrowed_46, w_ald_0, w_gf_13_12, tw_t, w_gf_13_4, w_iv0, tfr_0, tfr_1, tfr_2, tfr_3, tfr_4, w_iv1, w_ald_2, w_iv2, w_ald_1, w_ist_3, tkl_n, tkl_i, tkl_l, tkl_r, w_ild_3, w_if_eq, w_ire, trg, w64_r, true_and, and_true, Nat.reduceAdd, Nat.reduceSub, eq_self, tsh_0, tyk_13, tcq_13, tsh_77, tyk_8, tcq_8, tyk_4, tcq_4, tsh_113, tsh_650, tsh_653, tsh_656, tsh_5, tyk_11, tcq_11, sr, sx]
  have e76 : M7 r 6 = 1 := (g7 r 6 (by omega)).trans ((f6.2 r 6 (by omega) (by omega)).trans e46)
  obtain ⟨c, hc⟩ := kk7.2.1.2.2 r hr e76
  refine tc_i (D := 8) (fun d' hd' => v_makeSlope hr hc (kk7.2.2.2 r hr e76) am7 ⟨Or.inl hx.2, Or.inl hx.2⟩ (KU kk7.2 kk7.1.1) he hl kk7.2.1.1.2 kk7.1.1 hd') (by omega) ?_
  rintro z8 M8 ⟨hz8, f8, v8⟩
  have kk8 := KA_tr kk7.1.2 (KA_sl kk7.2 f8)
  try simp only [kb_X11_makeNarrowed_46, w_ald_0, w_gf_13_12, tw_t, w_gf_13_4, w_iv0, tfr_0, tfr_1, tfr_2, tfr_3, tfr_4, w_iv1, w_ald_2, w_iv2, w_ald_1, w_ist_3, tkl_n, tkl_i, tkl_l, tkl_r, w_ild_3, w_if_eq, w_ire, trg, w64_r, true_and, and_true, Nat.reduceAdd, Nat.reduceSub, eq_self, tsh_0, tyk_13, tcq_13, tsh_77, tyk_8, tcq_8, tyk_4, tcq_4, tsh_113, tsh_650, tsh_653, tsh_656, tsh_5, tyk_11, tcq_11, sr, sx]
  repeat refine And.intro (by omega) ?_
  refine ⟨fun q => ?_, fun q => ⟨_, rfl, rfl, hz8, kk8, fun q2 => absurd q2 (by omega)⟩⟩
  obtain ⟨m, B8, hm8, s8⟩ := v8 (by omega)
  obtain ⟨i, a0, a1, ⟨w, w1, w2⟩⟩ := csA_top hm8 s8
  have ck := cl_cs a0
  have cks := ck.1
  refine tb_X11_makeNarrowed_84 (c := true) ?_
  simp only [kb_X11_makeNarrowed_84, w_ald_0, w_gf_13_13, tw_t, w_gf_13_4, w_iv0, tfr_0, tfr_1, tfr_2, tfr_3, tfr_4, w_iv1, w_gf_13_11, w_gf_13_12, w_bi, w_lc0, w_ic, w_iv3, w_ist_3, tkl_n, tkl_i, tkl_l, tkl_r, w_ild_3, w_if_eq, w_goto, w64_r, true_and, and_true, Nat.reduceAdd, Nat.reduceSub, eq_self, tsh_0, tyk_13, tcq_13, tsh_77, tyk_8, tcq_8, tyk_4, tcq_4, tsh_113, tsh_650, tsh_653, tsh_656, tsh_5, tyk_11, tcq_11, sr, sx]
  refine tc_r (D := 1) (fun d' hd' => z_resultG kk8.1.1 hd') (by omega) ?_
  rintro y M9 ⟨hy, rfl⟩
  rw [a1] at hy
  subst hy
  try simp only [kb_X11_makeNarrowed_84, w_ald_0, w_gf_13_13, tw_t, w_gf_13_4, w_iv0, tfr_0, tfr_1, tfr_2, tfr_3, tfr_4, w_iv1, w_gf_13_11, w_gf_13_12, w_bi, w_lc0, w_ic, w_iv3, w_ist_3, tkl_n, tkl_i, tkl_l, tkl_r, w_ild_3, w_if_eq, w_goto, w64_r, true_and, and_true, Nat.reduceAdd, Nat.reduceSub, eq_self, tsh_0, tyk_13, tcq_13, tsh_77, tyk_8, tcq_8, tyk_4, tcq_4, tsh_113, tsh_650, tsh_653, tsh_656, tsh_5, tyk_11, tcq_11, sr, sx, cks]
  refine tc_n (D := 1) (fun d' hd' => z_copy (b := 0) cl_656 ck w1 (by decide) kk8.1.1 hd') (by omega) ?_
  rintro M10 ⟨x10, f10⟩
  have k10 := KA_b kk8.2 (by decide) f10
  have kk10 := KA_tr kk8.1.2 k10
  have F10 : BX M10 650 mm mm := BX_f x4 (fun j => (f10.2 _ _ (by decide) (by decide)).trans ((f8.2.1 _ _ (by decide)).trans ((g7 _ _ (by decide)).trans (f6.2 _ _ (by decide) (by decide))))) (fun j => (f10.2 _ _ (by decide) (by decide)).trans ((f8.2.1 _ _ (by decide)).trans ((g7 _ _ (by decide)).trans (f6.2 _ _ (by decide) (by decide)))))
  have S10 : BX M10 653 (B0 0).1 (B0 0).2 := BX_f x6 (fun j => (f10.2 _ _ (by decide) (by decide)).trans ((f8.2.1 _ _ (by decide)).trans (g7 _ _ (by decide)))) (fun j => (f10.2 _ _ (by decide) (by decide)).trans ((f8.2.1 _ _ (by decide)).trans (g7 _ _ (by decide))))
  try simp only [kb_X11_makeNarrowed_84, w_ald_0, w_gf_13_13, tw_t, w_gf_13_4, w_iv0, tfr_0, tfr_1, tfr_2, tfr_3, tfr_4, w_iv1, w_gf_13_11, w_gf_13_12, w_bi, w_lc0, w_ic, w_iv3, w_ist_3, tkl_n, tkl_i, tkl_l, tkl_r, w_ild_3, w_if_eq, w_goto, w64_r, true_and, and_true, Nat.reduceAdd, Nat.reduceSub, eq_self, tsh_0, tyk_13, tcq_13, tsh_77, tyk_8, tcq_8, tyk_4, tcq_4, tsh_113, tsh_650, tsh_653, tsh_656, tsh_5, tyk_11, tcq_11, sr, sx, cks]
  refine tc_n (D := 0) (fun d' hd' => v_clear kk10.2 kk10.1.1) (by omega) ?_
  rintro M11 ⟨s11, k11, m11⟩
  have kk11 := KA_tr kk10.1.2 k11
  try simp only [kb_X11_makeNarrowed_84, w_ald_0, w_gf_13_13, tw_t, w_gf_13_4, w_iv0, tfr_0, tfr_1, tfr_2, tfr_3, tfr_4, w_iv1, w_gf_13_11, w_gf_13_12, w_bi, w_lc0, w_ic, w_iv3, w_ist_3, tkl_n, tkl_i, tkl_l, tkl_r, w_ild_3, w_if_eq, w_goto, w64_r, true_and, and_true, Nat.reduceAdd, Nat.reduceSub, eq_self, tsh_0, tyk_13, tcq_13, tsh_77, tyk_8, tcq_8, tyk_4, tcq_4, tsh_113, tsh_650, tsh_653, tsh_656, tsh_5, tyk_11, tcq_11, sr, sx, cks]
  refine tc_n (D := 2) (fun d' hd' => v_push (v := (mm, mm)) (by decide) s11 cl_650 (by decide) (BGm (Or.inr (by decide)) ⟨F10, md.2⟩ m11) kk11.2 kk11.1.1 hd') (by omega) ?_
  rintro M12 ⟨⟨B12, s12⟩, k12, m12⟩
  have kk12 := KA_tr kk11.1.2 k12
  have mm12 := MKF_tr m11 m12
  try simp only [kb_X11_makeNarrowed_84, w_ald_0, w_gf_13_13, tw_t, w_gf_13_4, w_iv0, tfr_0, tfr_1, tfr_2, tfr_3, tfr_4, w_iv1, w_gf_13_11, w_gf_13_12, w_bi, w_lc0, w_ic, w_iv3, w_ist_3, tkl_n, tkl_i, tkl_l, tkl_r, w_ild_3, w_if_eq, w_goto, w64_r, true_and, and_true, Nat.reduceAdd, Nat.reduceSub, eq_self, tsh_0, tyk_13, tcq_13, tsh_77, tyk_8, tcq_8, tyk_4, tcq_4, tsh_113, tsh_650, tsh_653, tsh_656, tsh_5, tyk_11, tcq_11, sr, sx, cks]
  refine tc_n (D := 2) (fun d' hd' => v_push (by decide) s12 cl_653 (by decide) (BGm (Or.inr (by decide)) ⟨S10, gb0⟩ mm12) kk12.2 kk12.1.1 hd') (by omega) ?_
  rintro M13 ⟨⟨B13, s13⟩, k13, m13⟩
  have kk13 := KA_tr kk12.1.2 k13
  have mm13 := MKF_tr mm12 m13
  try simp only [kb_X11_makeNarrowed_84, w_ald_0, w_gf_13_13, tw_t, w_gf_13_4, w_iv0, tfr_0, tfr_1, tfr_2, tfr_3, tfr_4, w_iv1, w_gf_13_11, w_gf_13_12, w_bi, w_lc0, w_ic, w_iv3, w_ist_3, tkl_n, tkl_i, tkl_l, tkl_r, w_ild_3, w_if_eq, w_goto, w64_r, true_and, and_true, Nat.reduceAdd, Nat.reduceSub, eq_self, tsh_0, tyk_13, tcq_13, tsh_77, tyk_8, tcq_8, tyk_4, tcq_4, tsh_113, tsh_650, tsh_653, tsh_656, tsh_5, tyk_11, tcq_11, sr, sx, cks]
  refine tc_n (D := 2) (fun d' hd' => v_push (by decide) s13 cl_656 (by decide) (BGm (Or.inr (by decide)) ⟨x10, w2⟩ mm13) kk13.2 kk13.1.1 hd') (by omega) ?_
  rintro M14 ⟨⟨B14, s14⟩, k14, m14⟩
  have kk14 := KA_tr kk13.1.2 k14
  try simp only [kb_X11_makeNarrowed_84, w_ald_0, w_gf_13_13, tw_t, w_gf_13_4, w_iv0, tfr_0, tfr_1, tfr_2, tfr_3, tfr_4, w_iv1, w_gf_13_11, w_gf_13_12, w_bi, w_lc0, w_ic, w_iv3, w_ist_3, tkl_n, tkl_i, tkl_l, tkl_r, w_ild_3, w_if_eq, w_goto, w64_r, true_and, and_true, Nat.reduceAdd, Nat.reduceSub, eq_self, tsh_0, tyk_13, tcq_13, tsh_77, tyk_8, tcq_8, tyk_4, tcq_4, tsh_113, tsh_650, tsh_653, tsh_656, tsh_5, tyk_11, tcq_11, sr, sx, cks]
  refine tc_i (D := 7) (fun d' hd' => v_pair (by decide) (by decide) s14 he kk14.2 kk14.1.1 hd') (by omega) ?_
  rintro z15 M15 ⟨hz15, k15, m15, v15⟩
  have kk15 := KA_tr kk14.1.2 k15
  try simp only [kb_X11_makeNarrowed_84, w_ald_0, w_gf_13_13, tw_t, w_gf_13_4, w_iv0, tfr_0, tfr_1, tfr_2, tfr_3, tfr_4, w_iv1, w_gf_13_11, w_gf_13_12, w_bi, w_lc0, w_ic, w_iv3, w_ist_3, tkl_n, tkl_i, tkl_l, tkl_r, w_ild_3, w_if_eq, w_goto, w64_r, true_and, and_true, Nat.reduceAdd, Nat.reduceSub, eq_self, tsh_0, tyk_13, tcq_13, tsh_77, tyk_8, tcq_8, tyk_4, tcq_4, tsh_113, tsh_650, tsh_653, tsh_656, tsh_5, tyk_11, tcq_11, sr, sx, cks]
  have n169 : ∀ (N : tM) (z w : Int), (0 ≤ z ∧ z ≤ 2) → KA M1 N → (z = 0 → ∃ B' : Nat → Int × Int, SK N 1 B') → tT e d 3373 169 [some (.inr (.inr (.inl (0)))), some (.inr (.inr (.inl (r)))), some (.inr (.inr (.inl (x)))), some (.inl (w))] [.inl z] N n (tQi n (fun z M' => (0 ≤ z ∧ z ≤ 2) ∧ KA M1 M' ∧ (z = 0 → ∃ B' : Nat → Int × Int, SK M' 1 B'))) := by
    intro N z w hz kN sN
    refine tb_X11_makeNarrowed_169 (c := true) ?_
    simp only [kb_X11_makeNarrowed_169, w_ire, trg, w64_r, true_and, and_true, Nat.reduceAdd, Nat.reduceSub, eq_self]
    exact ⟨_, rfl, rfl, hz, kN, sN⟩
  repeat refine And.intro (by omega) ?_
  refine ⟨fun q => ?_, fun q => n169 M15 z15 _ hz15 kk15 (fun q2 => absurd q2 (by omega))⟩
  obtain ⟨B15, s15⟩ := v15 (by omega)
  refine tb_X11_makeNarrowed_158 (c := true) ?_
  simp only [kb_X11_makeNarrowed_158, w_ald_0, w_gf_13_4, tw_t, w_bi, w_lc0, w_ic, w_iv3, tfr_0, tfr_1, tfr_2, tfr_3, tfr_4, w_nil, w64_r, true_and, and_true, Nat.reduceAdd, Nat.reduceSub, eq_self, tsh_0, tyk_13, tcq_13, tsh_77, tyk_8, tcq_8, tyk_4, tcq_4, tsh_113, tsh_650, tsh_653, tsh_656, tsh_5, tyk_11, tcq_11]
  refine tc_i (D := 7) (fun d' hd' => v_pair (by decide) (by decide) s15 he kk15.2 kk15.1.1 hd') (by omega) ?_
  rintro z16 M16 ⟨hz16, k16, m16, v16⟩
  try simp only [kb_X11_makeNarrowed_158, w_ald_0, w_gf_13_4, tw_t, w_bi, w_lc0, w_ic, w_iv3, tfr_0, tfr_1, tfr_2, tfr_3, tfr_4, w_nil, w64_r, true_and, and_true, Nat.reduceAdd, Nat.reduceSub, eq_self, tsh_0, tyk_13, tcq_13, tsh_77, tyk_8, tcq_8, tyk_4, tcq_4, tsh_113, tsh_650, tsh_653, tsh_656, tsh_5, tyk_11, tcq_11]
  exact n169 M16 z16 _ hz16 (KA_tr kk15.1.2 k16) v16
end HAND
