/-! WHAT HOLDS BETWEEN CALLS: kept by slope. -/
theorem csA_top {M : tM} {m : Nat} {B : Nat → Int × Int} (hm : 1 ≤ m ∧ m ≤ 128) (h : SK M m B) : ∃ i : Nat, i < 128 ∧ csA (M 77 2 - 1) = 113 + 3 * i ∧ BXG M (113 + 3 * i) := by
  refine ⟨m - 1, by omega, ?_, ⟨B (m - 1), h.2 (m - 1) (by omega)⟩⟩
  unfold csA
  rw [h.1, if_pos (by omega)]
  omega
section HAND
variable {e : tE} {d n : Nat} {M : tM}
theorem v_becomeG {s z : Int} (hs : 0 ≤ s ∧ s ≤ 9) (hz : 0 ≤ z ∧ z ≤ 2) (hg : z = 0 → ∃ (m : Nat) (B : Nat → Int × Int), (1 ≤ m ∧ m ≤ 128) ∧ SK M m B) (hK : KW M) (hC : CI M) (hd : 5 ≤ d) : tC e d 3332 [.inr (.inr (.inl 0)), .inl s, .inl z] M n (tQx n (tQi n (fun z M' => (0 ≤ z ∧ z ≤ 1) ∧ KA M M')) (fun _ M' => KA M M')) := by
  refine tst_X11_become ?_
  refine tb_X11_become_0 (c := true) ?_
  simp only [kb_X11_become_0, w_ald_0, w_ild_2, w_iv1, tfr_0, tfr_1, tfr_2, tfr_3, tfr_4, w_ild_1, w_gf_13_4, tw_t, w_iv0, w_iv2, w_ire, trg, w64_r, true_and, and_true, Nat.reduceAdd, Nat.reduceSub, eq_self, tsh_0, tyk_13, tsh_77, tyk_8, tcq_8, tsh_5, tyk_11, tcq_13, tcq_11, tyk_4, tcq_4, tsh_113]
  refine tc_xn (D := 0) (fun d' hd' => x_cs hz) (by omega) rfl ?_ (fun s M' q => Or.inr ⟨_, rfl, rfl, by rw [q]; exact KA_refl hC hK⟩)
  rintro M1 ⟨hz0, rfl⟩
  try simp only [kb_X11_become_0, w_ald_0, w_ild_2, w_iv1, tfr_0, tfr_1, tfr_2, tfr_3, tfr_4, w_ild_1, w_gf_13_4, tw_t, w_iv0, w_iv2, w_ire, trg, w64_r, true_and, and_true, Nat.reduceAdd, Nat.reduceSub, eq_self, tsh_0, tyk_13, tsh_77, tyk_8, tcq_8, tsh_5, tyk_11, tcq_13, tcq_11, tyk_4, tcq_4, tsh_113]
  obtain ⟨m, B, hm, hB⟩ := hg hz0
  obtain ⟨i, a0, a1, a2⟩ := csA_top hm hB
  have ck := cl_cs a0
  have cks := ck.1
  refine tc_r (D := 1) (fun d' hd' => z_resultG hC hd') (by omega) ?_
  rintro y M2 ⟨hy, rfl⟩
  rw [a1] at hy
  subst hy
  try simp only [kb_X11_become_0, w_ald_0, w_ild_2, w_iv1, tfr_0, tfr_1, tfr_2, tfr_3, tfr_4, w_ild_1, w_gf_13_4, tw_t, w_iv0, w_iv2, w_ire, trg, w64_r, true_and, and_true, Nat.reduceAdd, Nat.reduceSub, eq_self, tsh_0, tyk_13, tsh_77, tyk_8, tcq_8, tsh_5, tyk_11, tcq_13, tcq_11, tyk_4, tcq_4, tsh_113, cks]
  refine tc_i (D := 3) (fun d' hd' => v_fill hs ck a2 (by omega) hK hC hd') (by omega) ?_
  rintro w M3 ⟨hw, k3⟩
  try simp only [kb_X11_become_0, w_ald_0, w_ild_2, w_iv1, tfr_0, tfr_1, tfr_2, tfr_3, tfr_4, w_ild_1, w_gf_13_4, tw_t, w_iv0, w_iv2, w_ire, trg, w64_r, true_and, and_true, Nat.reduceAdd, Nat.reduceSub, eq_self, tsh_0, tyk_13, tsh_77, tyk_8, tcq_8, tsh_5, tyk_11, tcq_13, tcq_11, tyk_4, tcq_4, tsh_113, cks]
  exact ⟨by omega, Or.inl ⟨_, rfl, rfl, hw, k3⟩⟩
theorem v_slope {x1 x2 x3 x4 : Int} (h1 : (-2147483648 ≤ x1 ∧ x1 ≤ 2147483647)) (h2 : (-2147483648 ≤ x2 ∧ x2 ≤ 2147483647)) (h3 : (-2147483648 ≤ x3 ∧ x3 ≤ 2147483647)) (h4 : (-2147483648 ≤ x4 ∧ x4 ≤ 2147483647)) (he : EVr e) (hl : ESL e) (hK : KW M) (hC : CI M) (hd : 10 ≤ d) : tC e d 3389 [.inr (.inr (.inl 0)), .inl x1, .inl x2, .inl x3, .inl x4] M n (tQx n (tQi n (fun z M' => (0 ≤ z ∧ z ≤ 1) ∧ KA M M')) (fun _ M' => KA M M')) := by
  refine tst_X11_slope ?_
  refine tb_X11_slope_0 (c := true) ?_
  simp only [kb_X11_slope_0, w_ald_0, w_ild_1, w_ild_2, w_ild_3, w_ild4, w_iv4, tfr_0, tfr_1, tfr_2, tfr_3, tfr_4, w_gf_13_4, tw_t, w_gf_13_3, w_iv1, w_iv2, w_gf_13_5, w_aa, w_ire, trg, w64_r, true_and, and_true, Nat.reduceAdd, Nat.reduceSub, eq_self, tsh_0, tyk_13, tsh_77, tyk_8, tcq_8, tsh_5, tyk_11, tcq_13, tcq_11, tyk_4, tcq_4, tsh_113, tsh_499, tyk_27, tel_5, tyk_7, tcq_7]
  refine tc_xn (D := 3) (fun d' hd' => x_cfc h1 h2 h3 h4 hC hd') (by omega) rfl ?_ (fun s M' q => Or.inr ⟨_, rfl, rfl, by rw [q]; exact KA_refl hC hK⟩)
  rintro M1 ⟨⟨⟨a1, a2, a3, a4⟩, a5⟩, rfl⟩
  obtain ⟨i, rfl⟩ : ∃ k : Nat, x3 = (k : Int) := ⟨x3.toNat, by omega⟩
  obtain ⟨j, rfl⟩ : ∃ k : Nat, x4 = (k : Int) := ⟨x4.toNat, by omega⟩
  have hf0 := fm_cl hC a2
  have sf := hf0.1
  have hfm := FM_cl hf0
  have hfr := hfm
  unfold FMC at hfr
  have ci := (cl_sh (s := i) (by omega)).1
  have cj := (cl_sh (s := j) (by omega)).1
  try simp only [kb_X11_slope_0, w_ald_0, w_ild_1, w_ild_2, w_ild_3, w_ild4, w_iv4, tfr_0, tfr_1, tfr_2, tfr_3, tfr_4, w_gf_13_4, tw_t, w_gf_13_3, w_iv1, w_iv2, w_gf_13_5, w_aa, w_ire, trg, w64_r, true_and, and_true, Nat.reduceAdd, Nat.reduceSub, eq_self, tsh_0, tyk_13, tsh_77, tyk_8, tcq_8, tsh_5, tyk_11, tcq_13, tcq_11, tyk_4, tcq_4, tsh_113, tsh_499, tyk_27, tel_5, tyk_7, tcq_7, sf, ci, cj]
  refine tc_r (D := 1) (fun d' hd' => z_box (s := i) (by omega) hd') (by omega) ?_
  rintro y M2 ⟨rfl, rfl⟩
  try simp only [kb_X11_slope_0, w_ald_0, w_ild_1, w_ild_2, w_ild_3, w_ild4, w_iv4, tfr_0, tfr_1, tfr_2, tfr_3, tfr_4, w_gf_13_4, tw_t, w_gf_13_3, w_iv1, w_iv2, w_gf_13_5, w_aa, w_ire, trg, w64_r, true_and, and_true, Nat.reduceAdd, Nat.reduceSub, eq_self, tsh_0, tyk_13, tsh_77, tyk_8, tcq_8, tsh_5, tyk_11, tcq_13, tcq_11, tyk_4, tcq_4, tsh_113, tsh_499, tyk_27, tel_5, tyk_7, tcq_7, sf, ci, cj]
  refine tc_r (D := 1) (fun d' hd' => z_box (s := j) (by omega) hd') (by omega) ?_
  rintro y M3 ⟨rfl, rfl⟩
  try simp only [kb_X11_slope_0, w_ald_0, w_ild_1, w_ild_2, w_ild_3, w_ild4, w_iv4, tfr_0, tfr_1, tfr_2, tfr_3, tfr_4, w_gf_13_4, tw_t, w_gf_13_3, w_iv1, w_iv2, w_gf_13_5, w_aa, w_ire, trg, w64_r, true_and, and_true, Nat.reduceAdd, Nat.reduceSub, eq_self, tsh_0, tyk_13, tsh_77, tyk_8, tcq_8, tsh_5, tyk_11, tcq_13, tcq_11, tyk_4, tcq_4, tsh_113, tsh_499, tyk_27, tel_5, tyk_7, tcq_7, sf, ci, cj]
  obtain ⟨v, hv⟩ := hK.1.2.1 i (by omega)
  obtain ⟨w, hw⟩ := hK.1.2.1 j (by omega)
  refine tc_n (D := 0) (fun d' hd' => v_aim ⟨cl_sh (s := i) (by omega), Or.inl (by omega)⟩ ⟨cl_sh (s := j) (by omega), Or.inl (by omega)⟩ hv hw hK hC) (by omega) ?_
  rintro M4 ⟨am, k4, b5⟩
  have e4 : M4 499 x2 = M3 499 x2 := b5 499 x2 (by decide)
  try simp only [kb_X11_slope_0, w_ald_0, w_ild_1, w_ild_2, w_ild_3, w_ild4, w_iv4, tfr_0, tfr_1, tfr_2, tfr_3, tfr_4, w_gf_13_4, tw_t, w_gf_13_3, w_iv1, w_iv2, w_gf_13_5, w_aa, w_ire, trg, w64_r, true_and, and_true, Nat.reduceAdd, Nat.reduceSub, eq_self, tsh_0, tyk_13, tsh_77, tyk_8, tcq_8, tsh_5, tyk_11, tcq_13, tcq_11, tyk_4, tcq_4, tsh_113, tsh_499, tyk_27, tel_5, tyk_7, tcq_7, sf, ci, cj, e4]
  repeat refine And.intro (by omega) ?_
  have df : M4 (M3 499 x2).toNat 6 = 1 := (b5 _ 6 (by omega)).trans a5
  obtain ⟨c, hc⟩ := k4.2.1.2.2 _ hfm df
  have hst := k4.2.2.2 _ hfm df
  refine tc_i (D := 8) (fun d' hd' => v_makeSlope hfm hc hst am ⟨Or.inl (by omega), Or.inl (by omega)⟩ (KU k4.2 k4.1.1) he hl k4.2.1.1.2 k4.1.1 hd') (by omega) ?_
  rintro z M6 ⟨f1, f2, f3⟩
  have k6 := KA_tr k4.1.2 (KA_sl k4.2 f2)
  try simp only [kb_X11_slope_0, w_ald_0, w_ild_1, w_ild_2, w_ild_3, w_ild4, w_iv4, tfr_0, tfr_1, tfr_2, tfr_3, tfr_4, w_gf_13_4, tw_t, w_gf_13_3, w_iv1, w_iv2, w_gf_13_5, w_aa, w_ire, trg, w64_r, true_and, and_true, Nat.reduceAdd, Nat.reduceSub, eq_self, tsh_0, tyk_13, tsh_77, tyk_8, tcq_8, tsh_5, tyk_11, tcq_13, tcq_11, tyk_4, tcq_4, tsh_113, tsh_499, tyk_27, tel_5, tyk_7, tcq_7, sf, ci, cj, e4]
  refine tc_xi (D := 5) (fun d' hd' => v_becomeG a1 f1 f3 k6.2 k6.1.1 hd') (by omega) rfl ?_ (fun s M' q => Or.inr ⟨_, rfl, rfl, KA_tr k6.1.2 q⟩)
  rintro z2 M7 ⟨p1, p2⟩
  try simp only [kb_X11_slope_0, w_ald_0, w_ild_1, w_ild_2, w_ild_3, w_ild4, w_iv4, tfr_0, tfr_1, tfr_2, tfr_3, tfr_4, w_gf_13_4, tw_t, w_gf_13_3, w_iv1, w_iv2, w_gf_13_5, w_aa, w_ire, trg, w64_r, true_and, and_true, Nat.reduceAdd, Nat.reduceSub, eq_self, tsh_0, tyk_13, tsh_77, tyk_8, tcq_8, tsh_5, tyk_11, tcq_13, tcq_11, tyk_4, tcq_4, tsh_113, tsh_499, tyk_27, tel_5, tyk_7, tcq_7, sf, ci, cj, e4]
  exact ⟨by omega, Or.inl ⟨_, rfl, rfl, p1, KA_tr k6.1.2 p2⟩⟩
end HAND
