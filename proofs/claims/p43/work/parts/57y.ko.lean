/-! WHAT HOLDS BETWEEN CALLS: kept by narrow, the call. -/
section HAND
variable {e : tE} {d n : Nat} {M : tM}
theorem v_narrow {x1 x2 x3 : Int} (h1 : (-2147483648 ≤ x1 ∧ x1 ≤ 2147483647)) (h2 : (-2147483648 ≤ x2 ∧ x2 ≤ 2147483647)) (h3 : (-2147483648 ≤ x3 ∧ x3 ≤ 2147483647)) (he : EVr e) (hl : ESL e) (hK : KW M) (hC : CI M) (hd : 10 ≤ d) : tC e d 3377 [.inr (.inr (.inl 0)), .inl x1, .inl x2, .inl x3] M n (tQx n (tQi n (fun z M' => (0 ≤ z ∧ z ≤ 1) ∧ KA M M')) (fun _ M' => KA M M')) := by
  refine tst_X11_narrow ?_
  refine tb_X11_narrow_0 (c := true) ?_
  simp only [kb_X11_narrow_0, w_ald_0, w_ild_1, w_iv1, tfr_0, tfr_1, tfr_2, tfr_3, tfr_4, w_ild_3, w_ild_2, w_gf_13_5, tw_t, w_aa, w_gf_13_3, w_iv2, w_ist4, tkl_n, tkl_i, tkl_l, tkl_r, w_ild4, w_gf_13_11, w_gf_13_4, w_iv0, w_if_ne, w_new, w64_r, true_and, and_true, Nat.reduceAdd, Nat.reduceSub, eq_self, tsh_0, tyk_13, tcq_13, tsh_77, tyk_8, tcq_8, tyk_4, tcq_4, tsh_113, tsh_650, tsh_499, tyk_27, tel_5, tyk_7, tcq_7, tsh_5, tyk_11, tcq_11]
  refine tz_xn (D := 0) (fun d' hd' => k_X11_checkShelf cl_0 h1 hd') hC (by omega) rfl ?_ (fun s q => Or.inr ⟨_, rfl, rfl, KA_refl hC hK⟩)
  intro a1
  try simp only [kb_X11_narrow_0, w_ald_0, w_ild_1, w_iv1, tfr_0, tfr_1, tfr_2, tfr_3, tfr_4, w_ild_3, w_ild_2, w_gf_13_5, tw_t, w_aa, w_gf_13_3, w_iv2, w_ist4, tkl_n, tkl_i, tkl_l, tkl_r, w_ild4, w_gf_13_11, w_gf_13_4, w_iv0, w_if_ne, w_new, w64_r, true_and, and_true, Nat.reduceAdd, Nat.reduceSub, eq_self, tsh_0, tyk_13, tcq_13, tsh_77, tyk_8, tcq_8, tyk_4, tcq_4, tsh_113, tsh_650, tsh_499, tyk_27, tel_5, tyk_7, tcq_7, tsh_5, tyk_11, tcq_11]
  refine tz_xn (D := 0) (fun d' hd' => k_X11_checkShelf cl_0 h3 hd') hC (by omega) rfl ?_ (fun s q => Or.inr ⟨_, rfl, rfl, KA_refl hC hK⟩)
  intro a3
  obtain ⟨i, rfl⟩ : ∃ k : Nat, x3 = (k : Int) := ⟨x3.toNat, by omega⟩
  try simp only [kb_X11_narrow_0, w_ald_0, w_ild_1, w_iv1, tfr_0, tfr_1, tfr_2, tfr_3, tfr_4, w_ild_3, w_ild_2, w_gf_13_5, tw_t, w_aa, w_gf_13_3, w_iv2, w_ist4, tkl_n, tkl_i, tkl_l, tkl_r, w_ild4, w_gf_13_11, w_gf_13_4, w_iv0, w_if_ne, w_new, w64_r, true_and, and_true, Nat.reduceAdd, Nat.reduceSub, eq_self, tsh_0, tyk_13, tcq_13, tsh_77, tyk_8, tcq_8, tyk_4, tcq_4, tsh_113, tsh_650, tsh_499, tyk_27, tel_5, tyk_7, tcq_7, tsh_5, tyk_11, tcq_11]
  refine tz_xn (D := 0) (fun d' hd' => k_X11_checkFormula cl_0 h2 hd') hC (by omega) rfl ?_ (fun s q => Or.inr ⟨_, rfl, rfl, KA_refl hC hK⟩)
  intro a2
  try simp only [kb_X11_narrow_0, w_ald_0, w_ild_1, w_iv1, tfr_0, tfr_1, tfr_2, tfr_3, tfr_4, w_ild_3, w_ild_2, w_gf_13_5, tw_t, w_aa, w_gf_13_3, w_iv2, w_ist4, tkl_n, tkl_i, tkl_l, tkl_r, w_ild4, w_gf_13_11, w_gf_13_4, w_iv0, w_if_ne, w_new, w64_r, true_and, and_true, Nat.reduceAdd, Nat.reduceSub, eq_self, tsh_0, tyk_13, tcq_13, tsh_77, tyk_8, tcq_8, tyk_4, tcq_4, tsh_113, tsh_650, tsh_499, tyk_27, tel_5, tyk_7, tcq_7, tsh_5, tyk_11, tcq_11]
  refine tc_xn (D := 0) (fun d' hd' => x_cdef a2 hC) (by omega) rfl ?_ (fun s M' q => Or.inr ⟨_, rfl, rfl, by rw [q]; exact KA_refl hC hK⟩)
  rintro M1 ⟨a5, rfl⟩
  try simp only [kb_X11_narrow_0, w_ald_0, w_ild_1, w_iv1, tfr_0, tfr_1, tfr_2, tfr_3, tfr_4, w_ild_3, w_ild_2, w_gf_13_5, tw_t, w_aa, w_gf_13_3, w_iv2, w_ist4, tkl_n, tkl_i, tkl_l, tkl_r, w_ild4, w_gf_13_11, w_gf_13_4, w_iv0, w_if_ne, w_new, w64_r, true_and, and_true, Nat.reduceAdd, Nat.reduceSub, eq_self, tsh_0, tyk_13, tcq_13, tsh_77, tyk_8, tcq_8, tyk_4, tcq_4, tsh_113, tsh_650, tsh_499, tyk_27, tel_5, tyk_7, tcq_7, tsh_5, tyk_11, tcq_11]
  refine tz_xn (D := 2) (fun d' hd' => k_X11_checkHeld cl_0 h3 hd') hC (by omega) rfl ?_ (fun s q => Or.inr ⟨_, rfl, rfl, KA_refl hC hK⟩)
  intro _
  try simp only [kb_X11_narrow_0, w_ald_0, w_ild_1, w_iv1, tfr_0, tfr_1, tfr_2, tfr_3, tfr_4, w_ild_3, w_ild_2, w_gf_13_5, tw_t, w_aa, w_gf_13_3, w_iv2, w_ist4, tkl_n, tkl_i, tkl_l, tkl_r, w_ild4, w_gf_13_11, w_gf_13_4, w_iv0, w_if_ne, w_new, w64_r, true_and, and_true, Nat.reduceAdd, Nat.reduceSub, eq_self, tsh_0, tyk_13, tcq_13, tsh_77, tyk_8, tcq_8, tyk_4, tcq_4, tsh_113, tsh_650, tsh_499, tyk_27, tel_5, tyk_7, tcq_7, tsh_5, tyk_11, tcq_11]
  refine tz_xn (D := 0) (fun d' hd' => k_X11_checkNoY cl_0 a2 hd') hC (by omega) rfl ?_ (fun s q => Or.inr ⟨_, rfl, rfl, KA_refl hC hK⟩)
  intro _
  have hf0 := fm_cl hC a2
  have sf := hf0.1
  have hfm := FM_cl hf0
  have hfr := hfm
  unfold FMC at hfr
  have ci := (cl_sh (s := i) (by omega)).1
  try simp only [kb_X11_narrow_0, w_ald_0, w_ild_1, w_iv1, tfr_0, tfr_1, tfr_2, tfr_3, tfr_4, w_ild_3, w_ild_2, w_gf_13_5, tw_t, w_aa, w_gf_13_3, w_iv2, w_ist4, tkl_n, tkl_i, tkl_l, tkl_r, w_ild4, w_gf_13_11, w_gf_13_4, w_iv0, w_if_ne, w_new, w64_r, true_and, and_true, Nat.reduceAdd, Nat.reduceSub, eq_self, tsh_0, tyk_13, tcq_13, tsh_77, tyk_8, tcq_8, tyk_4, tcq_4, tsh_113, tsh_650, tsh_499, tyk_27, tel_5, tyk_7, tcq_7, tsh_5, tyk_11, tcq_11, sf, ci]
  repeat refine And.intro (by omega) ?_
  refine tc_r (D := 1) (fun d' hd' => z_box (s := i) (by omega) hd') (by omega) ?_
  rintro y M2 ⟨rfl, rfl⟩
  try simp only [kb_X11_narrow_0, w_ald_0, w_ild_1, w_iv1, tfr_0, tfr_1, tfr_2, tfr_3, tfr_4, w_ild_3, w_ild_2, w_gf_13_5, tw_t, w_aa, w_gf_13_3, w_iv2, w_ist4, tkl_n, tkl_i, tkl_l, tkl_r, w_ild4, w_gf_13_11, w_gf_13_4, w_iv0, w_if_ne, w_new, w64_r, true_and, and_true, Nat.reduceAdd, Nat.reduceSub, eq_self, tsh_0, tyk_13, tcq_13, tsh_77, tyk_8, tcq_8, tyk_4, tcq_4, tsh_113, tsh_650, tsh_499, tyk_27, tel_5, tyk_7, tcq_7, tsh_5, tyk_11, tcq_11, sf, ci]
  obtain ⟨v, hv⟩ := hK.1.2.1 i (by omega)
  refine tc_i (D := 9) (fun d' hd' => v_makeNarrowed hfm a5 ⟨cl_sh (s := i) (by omega), by omega⟩ hv he hl hK hC hd') (by omega) ?_
  rintro z M3 ⟨hz, k3, b3⟩
  try simp only [kb_X11_narrow_0, w_ald_0, w_ild_1, w_iv1, tfr_0, tfr_1, tfr_2, tfr_3, tfr_4, w_ild_3, w_ild_2, w_gf_13_5, tw_t, w_aa, w_gf_13_3, w_iv2, w_ist4, tkl_n, tkl_i, tkl_l, tkl_r, w_ild4, w_gf_13_11, w_gf_13_4, w_iv0, w_if_ne, w_new, w64_r, true_and, and_true, Nat.reduceAdd, Nat.reduceSub, eq_self, tsh_0, tyk_13, tcq_13, tsh_77, tyk_8, tcq_8, tyk_4, tcq_4, tsh_113, tsh_650, tsh_499, tyk_27, tel_5, tyk_7, tcq_7, tsh_5, tyk_11, tcq_11, sf, ci]
  refine tc_xn (D := 0) (fun d' hd' => x_cs hz) (by omega) rfl ?_ (fun s M' q => Or.inr ⟨_, rfl, rfl, by rw [q]; exact k3⟩)
  rintro M4 ⟨hz0, rfl⟩
  try simp only [kb_X11_narrow_0, w_ald_0, w_ild_1, w_iv1, tfr_0, tfr_1, tfr_2, tfr_3, tfr_4, w_ild_3, w_ild_2, w_gf_13_5, tw_t, w_aa, w_gf_13_3, w_iv2, w_ist4, tkl_n, tkl_i, tkl_l, tkl_r, w_ild4, w_gf_13_11, w_gf_13_4, w_iv0, w_if_ne, w_new, w64_r, true_and, and_true, Nat.reduceAdd, Nat.reduceSub, eq_self, tsh_0, tyk_13, tcq_13, tsh_77, tyk_8, tcq_8, tyk_4, tcq_4, tsh_113, tsh_650, tsh_499, tyk_27, tel_5, tyk_7, tcq_7, tsh_5, tyk_11, tcq_11, sf, ci]
  refine tc_r (D := 1) (fun d' hd' => z_box (s := i) (by omega) hd') (by omega) ?_
  rintro y M5 ⟨rfl, rfl⟩
  try simp only [kb_X11_narrow_0, w_ald_0, w_ild_1, w_iv1, tfr_0, tfr_1, tfr_2, tfr_3, tfr_4, w_ild_3, w_ild_2, w_gf_13_5, tw_t, w_aa, w_gf_13_3, w_iv2, w_ist4, tkl_n, tkl_i, tkl_l, tkl_r, w_ild4, w_gf_13_11, w_gf_13_4, w_iv0, w_if_ne, w_new, w64_r, true_and, and_true, Nat.reduceAdd, Nat.reduceSub, eq_self, tsh_0, tyk_13, tcq_13, tsh_77, tyk_8, tcq_8, tyk_4, tcq_4, tsh_113, tsh_650, tsh_499, tyk_27, tel_5, tyk_7, tcq_7, tsh_5, tyk_11, tcq_11, sf, ci]
  obtain ⟨v', v1, v2⟩ := k3.2.1.2.1 i (by omega)
  obtain ⟨B, hB⟩ := b3 hz0
  obtain ⟨w1, w2⟩ := hB.2 0 (by omega)
  refine tc_n (D := 1) (fun d' hd' => z_copy (b := 0) cl_650 (cl_sh (by omega)) v1 (by decide) k3.1.1 hd') (by omega) ?_
  rintro M6 ⟨c1, c2⟩
  have k6 := KA_tr k3.1.2 (KA_b k3.2 (by decide) c2)
  have t6 : M6 77 2 = 1 := (c2.2 77 2 (by decide) (by decide)).trans hB.1
  have w6 : BX M6 113 (B 0).1 (B 0).2 := BX_f w1 (fun i => c2.2 114 i (by decide) (by decide)) (fun i => c2.2 115 i (by decide) (by decide))
  try simp only [kb_X11_narrow_0, w_ald_0, w_ild_1, w_iv1, tfr_0, tfr_1, tfr_2, tfr_3, tfr_4, w_ild_3, w_ild_2, w_gf_13_5, tw_t, w_aa, w_gf_13_3, w_iv2, w_ist4, tkl_n, tkl_i, tkl_l, tkl_r, w_ild4, w_gf_13_11, w_gf_13_4, w_iv0, w_if_ne, w_new, w64_r, true_and, and_true, Nat.reduceAdd, Nat.reduceSub, eq_self, tsh_0, tyk_13, tcq_13, tsh_77, tyk_8, tcq_8, tyk_4, tcq_4, tsh_113, tsh_650, tsh_499, tyk_27, tel_5, tyk_7, tcq_7, tsh_5, tyk_11, tcq_11, sf, ci]
  refine tc_r (D := 1) (fun d' hd' => z_result t6 hd') (by omega) ?_
  rintro y M7 ⟨rfl, rfl⟩
  try simp only [kb_X11_narrow_0, w_ald_0, w_ild_1, w_iv1, tfr_0, tfr_1, tfr_2, tfr_3, tfr_4, w_ild_3, w_ild_2, w_gf_13_5, tw_t, w_aa, w_gf_13_3, w_iv2, w_ist4, tkl_n, tkl_i, tkl_l, tkl_r, w_ild4, w_gf_13_11, w_gf_13_4, w_iv0, w_if_ne, w_new, w64_r, true_and, and_true, Nat.reduceAdd, Nat.reduceSub, eq_self, tsh_0, tyk_13, tcq_13, tsh_77, tyk_8, tcq_8, tyk_4, tcq_4, tsh_113, tsh_650, tsh_499, tyk_27, tel_5, tyk_7, tcq_7, tsh_5, tyk_11, tcq_11, sf, ci]
  refine tc_i (D := 1) (fun d' hd' => z_cutDownTo (b := 0) cl_650 cl_113 (by decide) c1 w6 (RV_g v2) (RV_g w2) (by decide) k6.1.1 hd') (by omega) ?_
  rintro z8 M8 ⟨d1, d2, d3⟩
  have k8 := KA_tr k6.1.2 (KA_b k6.2 (by decide) d2)
  try simp only [kb_X11_narrow_0, w_ald_0, w_ild_1, w_iv1, tfr_0, tfr_1, tfr_2, tfr_3, tfr_4, w_ild_3, w_ild_2, w_gf_13_5, tw_t, w_aa, w_gf_13_3, w_iv2, w_ist4, tkl_n, tkl_i, tkl_l, tkl_r, w_ild4, w_gf_13_11, w_gf_13_4, w_iv0, w_if_ne, w_new, w64_r, true_and, and_true, Nat.reduceAdd, Nat.reduceSub, eq_self, tsh_0, tyk_13, tcq_13, tsh_77, tyk_8, tcq_8, tyk_4, tcq_4, tsh_113, tsh_650, tsh_499, tyk_27, tel_5, tyk_7, tcq_7, tsh_5, tyk_11, tcq_11, sf, ci]
  repeat refine And.intro (by omega) ?_
  refine ⟨fun q => ?_, fun _ => Or.inr ⟨_, rfl, rfl, k8⟩⟩
  have ord : (if v'.1 < (B 0).1 then (B 0).1 else v'.1) ≤ (if (B 0).2 < v'.2 then (B 0).2 else v'.2) := by
    rcases d3 with ⟨_, g⟩ | ⟨g, _⟩
    · exact g
    · exact absurd g q
  have gd : BXG M8 650 := ⟨(if v'.1 < (B 0).1 then (B 0).1 else v'.1, if (B 0).2 < v'.2 then (B 0).2 else v'.2), d1, GB_cu v2 w2 ord⟩
  refine tb_X11_narrow_99 (c := true) ?_
  simp only [kb_X11_narrow_99, w_ald_0, w_ild_1, w_gf_13_11, tw_t, w_iv2, tfr_0, tfr_1, tfr_2, tfr_3, tfr_4, w_ire, trg, w64_r, true_and, and_true, Nat.reduceAdd, Nat.reduceSub, eq_self, tsh_0, tyk_13, tcq_13, tsh_77, tyk_8, tcq_8, tyk_4, tcq_4, tsh_113, tsh_650, tsh_499, tyk_27, tel_5, tyk_7, tcq_7, tsh_5, tyk_11, tcq_11, sf, ci]
  refine tc_i (D := 3) (fun d' hd' => v_fill a1 cl_650 gd (by decide) k8.2 k8.1.1 hd') (by omega) ?_
  rintro z9 M9 ⟨p1, p2⟩
  try simp only [kb_X11_narrow_99, w_ald_0, w_ild_1, w_gf_13_11, tw_t, w_iv2, tfr_0, tfr_1, tfr_2, tfr_3, tfr_4, w_ire, trg, w64_r, true_and, and_true, Nat.reduceAdd, Nat.reduceSub, eq_self, tsh_0, tyk_13, tcq_13, tsh_77, tyk_8, tcq_8, tyk_4, tcq_4, tsh_113, tsh_650, tsh_499, tyk_27, tel_5, tyk_7, tcq_7, tsh_5, tyk_11, tcq_11, sf, ci]
  exact ⟨by omega, Or.inl ⟨_, rfl, rfl, p1, KA_tr k8.1.2 p2⟩⟩
end HAND
