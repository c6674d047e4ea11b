/-! WHAT HOLDS BETWEEN CALLS: kept by the calls that tell. -/
theorem KA_pure {e : tE} {d a n : Nat} {vs : List tV} {M : tM} {R : tR → Nat → Prop} (h : sC e 2 d a vs n R) (hK : KW M) (hC : CI M) : tC e d a vs M n (fun _ M' _ => KA M M') := tC_mono (h M hC trivial) (fun r M' n' q => by
  rw [pE_2 q.1.2]
  exact KA_refl hC hK)
theorem KA_x {e : tE} {d a n : Nat} {vs : List tV} {M : tM} {P : Int → Prop} (h : tC e d a vs M n (tQx n (tQi n (fun z M' => P z ∧ KA M M')) (fun _ M' => KA M M'))) : tC e d a vs M n (fun _ M' _ => KA M M') := tC_mono h (fun r M' n' q => by
  rcases q with ⟨z, _, _, _, k⟩ | ⟨s, _, _, k⟩
  · exact k
  · exact k)
section HAND
variable {e : tE} {d n : Nat} {M : tM}
theorem tx_r {N : tM} (h : CI N) : 0 ≤ N 1 1 ∧ N 1 1 ≤ 60 := by
  have hr := CI_i (f := 1) h (TX_of (T := 1) (Or.inl rfl)).2.2 rfl
  exact hr
theorem v_erase (hK : KW M) (hC : CI M) (hd : 1 ≤ d) : tC e d 3356 [.inr (.inr (.inl 0))] M n (tQx n (tQi n (fun z M' => (-2147483648 ≤ z ∧ z ≤ 2147483647) ∧ KA M M')) (fun _ M' => KA M M')) := by
  have t1 := tx_r hC
  refine tst_X11_erase ?_
  refine tb_X11_erase_0 (c := true) ?_
  simp only [kb_X11_erase_0, w_ald_0, w_gf_13_1, tw_t, w_gf_12_1, w_ist_1, tkl_n, tkl_i, tkl_l, tkl_r, w_iv0, tfr_0, tfr_1, tfr_2, tfr_3, tfr_4, w_ild_1, w_ire, trg, w64_r, true_and, and_true, Nat.reduceAdd, Nat.reduceSub, eq_self, tsh_0, tyk_13, tcq_13, tsx_1, tyx_12, tcx_12, tsh_5, tyk_11, tcq_11, tyk_4, tcq_4, tyk_3, tcq_3, tsh_662]
  refine tc_n (D := 0) (fun d' hd' => z_tclear (Or.inl rfl) hC) (by omega) ?_
  rintro M1 f1
  try simp only [kb_X11_erase_0, w_ald_0, w_gf_13_1, tw_t, w_gf_12_1, w_ist_1, tkl_n, tkl_i, tkl_l, tkl_r, w_iv0, tfr_0, tfr_1, tfr_2, tfr_3, tfr_4, w_ild_1, w_ire, trg, w64_r, true_and, and_true, Nat.reduceAdd, Nat.reduceSub, eq_self, tsh_0, tyk_13, tcq_13, tsx_1, tyx_12, tcx_12, tsh_5, tyk_11, tcq_11, tyk_4, tcq_4, tyk_3, tcq_3, tsh_662]
  exact Or.inl ⟨_, rfl, rfl, by omega, KA_tx hK f1⟩
theorem v_type {x1 : Int} (h1 : 0 ≤ x1 ∧ x1 ≤ 65535) (hK : KW M) (hC : CI M) (hd : 1 ≤ d) : tC e d 3395 [.inr (.inr (.inl 0)), .inl x1] M n (tQx n (tQi n (fun z M' => (-2147483648 ≤ z ∧ z ≤ 2147483647) ∧ KA M M')) (fun _ M' => KA M M')) := by
  have t1 := tx_r hC
  refine tst_X11_type ?_
  have n12 : tT e d 3395 12 [some (.inr (.inr (.inl (0)))), some (.inl (x1))] [] M n (tQx n (tQi n (fun z M' => (-2147483648 ≤ z ∧ z ≤ 2147483647) ∧ KA M M')) (fun _ M' => KA M M')) := by
    refine tb_X11_type_12 (c := true) ?_
    simp only [kb_X11_type_12, w_new, w64_r, true_and, and_true, Nat.reduceAdd, Nat.reduceSub, eq_self]
    exact Or.inr ⟨_, rfl, rfl, KA_refl hC hK⟩
  refine tb_X11_type_0 (c := true) ?_
  simp only [kb_X11_type_0, w_ild_1, w_bi, w_ic_lt, w_ic_le, w_nil, w64_r, true_and, and_true, Nat.reduceAdd, Nat.reduceSub, eq_self]
  repeat refine And.intro (by omega) ?_
  refine ⟨fun _ => n12, fun _ => ?_⟩
  repeat refine And.intro (by omega) ?_
  refine ⟨fun _ => ?_, fun _ => n12⟩
  refine tb_X11_type_22 (c := true) ?_
  simp only [kb_X11_type_22, w_ald_0, w_gf_13_1, tw_t, w_gf_12_1, w_bi, w_ic_lt, w_new, w64_r, true_and, and_true, Nat.reduceAdd, Nat.reduceSub, eq_self, tsh_0, tyk_13, tcq_13, tsx_1, tyx_12, tcx_12, tsh_5, tyk_11, tcq_11, tyk_4, tcq_4, tyk_3, tcq_3, tsh_662]
  repeat refine And.intro (by omega) ?_
  refine ⟨fun _ => ?_, fun _ => Or.inr ⟨_, rfl, rfl, KA_refl hC hK⟩⟩
  refine tb_X11_type_44 (c := true) ?_
  simp only [kb_X11_type_44, w_ald_0, w_gf_13_1, tw_t, w_ild_1, w_iv1, tfr_0, tfr_1, tfr_2, tfr_3, tfr_4, w_gf_12_1, w_ire, trg, w64_r, true_and, and_true, Nat.reduceAdd, Nat.reduceSub, eq_self, tsh_0, tyk_13, tcq_13, tsx_1, tyx_12, tcx_12, tsh_5, tyk_11, tcq_11, tyk_4, tcq_4, tyk_3, tcq_3, tsh_662]
  refine tc_n (D := 0) (fun d' hd' => z_tapp (Or.inl rfl) h1 hC) (by omega) ?_
  rintro M1 f1
  have t2 := tx_r f1.1.1
  try simp only [kb_X11_type_44, w_ald_0, w_gf_13_1, tw_t, w_ild_1, w_iv1, tfr_0, tfr_1, tfr_2, tfr_3, tfr_4, w_gf_12_1, w_ire, trg, w64_r, true_and, and_true, Nat.reduceAdd, Nat.reduceSub, eq_self, tsh_0, tyk_13, tcq_13, tsx_1, tyx_12, tcx_12, tsh_5, tyk_11, tcq_11, tyk_4, tcq_4, tyk_3, tcq_3, tsh_662]
  exact Or.inl ⟨_, rfl, rfl, by omega, KA_tx hK f1⟩
theorem v_low {x1 : Int} (h1 : (-2147483648 ≤ x1 ∧ x1 ≤ 2147483647)) (hK : KW M) (hC : CI M) (hd : 4 ≤ d) : tC e d 3370 [.inr (.inr (.inl 0)), .inl x1] M n (tQx n (tQi n (fun z M' => (-2147483648 ≤ z ∧ z ≤ 2147483647) ∧ KA M M')) (fun _ M' => KA M M')) := by
  refine tst_X11_low ?_
  refine tb_X11_low_0 (c := true) ?_
  simp only [kb_X11_low_0, w_ald_0, w_ild_1, w_iv1, tfr_0, tfr_1, tfr_2, tfr_3, tfr_4, w_gf_13_1, tw_t, w_gf_13_3, w_gf_4_0, w_gf_12_1, w_ire, trg, w64_r, true_and, and_true, Nat.reduceAdd, Nat.reduceSub, eq_self, tsh_0, tyk_13, tcq_13, tsx_1, tyx_12, tcx_12, tsh_5, tyk_11, tcq_11, tyk_4, tcq_4, tyk_3, tcq_3, tsh_662]
  refine tz_xn (D := 0) (fun d' hd' => k_X11_checkShelf cl_0 h1 hd') hC (by omega) rfl ?_ (fun s q => Or.inr ⟨_, rfl, rfl, KA_refl hC hK⟩)
  intro a1
  try simp only [kb_X11_low_0, w_ald_0, w_ild_1, w_iv1, tfr_0, tfr_1, tfr_2, tfr_3, tfr_4, w_gf_13_1, tw_t, w_gf_13_3, w_gf_4_0, w_gf_12_1, w_ire, trg, w64_r, true_and, and_true, Nat.reduceAdd, Nat.reduceSub, eq_self, tsh_0, tyk_13, tcq_13, tsx_1, tyx_12, tcx_12, tsh_5, tyk_11, tcq_11, tyk_4, tcq_4, tyk_3, tcq_3, tsh_662]
  refine tz_xn (D := 2) (fun d' hd' => k_X11_checkHeld cl_0 h1 hd') hC (by omega) rfl ?_ (fun s q => Or.inr ⟨_, rfl, rfl, KA_refl hC hK⟩)
  intro _
  obtain ⟨i, rfl⟩ : ∃ k : Nat, x1 = (k : Int) := ⟨x1.toNat, by omega⟩
  have ci := (cl_sh (s := i) (by omega)).1
  have cb := (bxl_1 (cl_sh (s := i) (by omega))).1
  obtain ⟨v, v1, v2⟩ := hK.1.2.1 i (by omega)
  try simp only [kb_X11_low_0, w_ald_0, w_ild_1, w_iv1, tfr_0, tfr_1, tfr_2, tfr_3, tfr_4, w_gf_13_1, tw_t, w_gf_13_3, w_gf_4_0, w_gf_12_1, w_ire, trg, w64_r, true_and, and_true, Nat.reduceAdd, Nat.reduceSub, eq_self, tsh_0, tyk_13, tcq_13, tsx_1, tyx_12, tcx_12, tsh_5, tyk_11, tcq_11, tyk_4, tcq_4, tyk_3, tcq_3, tsh_662]
  refine tc_r (D := 1) (fun d' hd' => z_box (s := i) (by omega) hd') (by omega) ?_
  rintro y M2 ⟨rfl, rfl⟩
  try simp only [kb_X11_low_0, w_ald_0, w_ild_1, w_iv1, tfr_0, tfr_1, tfr_2, tfr_3, tfr_4, w_gf_13_1, tw_t, w_gf_13_3, w_gf_4_0, w_gf_12_1, w_ire, trg, w64_r, true_and, and_true, Nat.reduceAdd, Nat.reduceSub, eq_self, tsh_0, tyk_13, tcq_13, tsx_1, tyx_12, tcx_12, tsh_5, tyk_11, tcq_11, tyk_4, tcq_4, tyk_3, tcq_3, tsh_662, ci, cb]
  refine tc_n (D := 1) (fun d' hd' => z_twrite (Or.inl rfl) (bxl_1 (cl_sh (by omega))) (by omega) v1.1 (WF_n v2.1.1) hC hd') (by omega) ?_
  rintro M3 f3
  have t2 := tx_r f3.1.1
  try simp only [kb_X11_low_0, w_ald_0, w_ild_1, w_iv1, tfr_0, tfr_1, tfr_2, tfr_3, tfr_4, w_gf_13_1, tw_t, w_gf_13_3, w_gf_4_0, w_gf_12_1, w_ire, trg, w64_r, true_and, and_true, Nat.reduceAdd, Nat.reduceSub, eq_self, tsh_0, tyk_13, tcq_13, tsx_1, tyx_12, tcx_12, tsh_5, tyk_11, tcq_11, tyk_4, tcq_4, tyk_3, tcq_3, tsh_662, ci, cb]
  exact Or.inl ⟨_, rfl, rfl, by omega, KA_tx hK f3⟩
theorem v_high {x1 : Int} (h1 : (-2147483648 ≤ x1 ∧ x1 ≤ 2147483647)) (hK : KW M) (hC : CI M) (hd : 4 ≤ d) : tC e d 3361 [.inr (.inr (.inl 0)), .inl x1] M n (tQx n (tQi n (fun z M' => (-2147483648 ≤ z ∧ z ≤ 2147483647) ∧ KA M M')) (fun _ M' => KA M M')) := by
  refine tst_X11_high ?_
  refine tb_X11_high_0 (c := true) ?_
  simp only [kb_X11_high_0, w_ald_0, w_ild_1, w_iv1, tfr_0, tfr_1, tfr_2, tfr_3, tfr_4, w_gf_13_1, tw_t, w_gf_13_3, w_gf_4_1, w_gf_12_1, w_ire, trg, w64_r, true_and, and_true, Nat.reduceAdd, Nat.reduceSub, eq_self, tsh_0, tyk_13, tcq_13, tsx_1, tyx_12, tcx_12, tsh_5, tyk_11, tcq_11, tyk_4, tcq_4, tyk_3, tcq_3, tsh_662]
  refine tz_xn (D := 0) (fun d' hd' => k_X11_checkShelf cl_0 h1 hd') hC (by omega) rfl ?_ (fun s q => Or.inr ⟨_, rfl, rfl, KA_refl hC hK⟩)
  intro a1
  try simp only [kb_X11_high_0, w_ald_0, w_ild_1, w_iv1, tfr_0, tfr_1, tfr_2, tfr_3, tfr_4, w_gf_13_1, tw_t, w_gf_13_3, w_gf_4_1, w_gf_12_1, w_ire, trg, w64_r, true_and, and_true, Nat.reduceAdd, Nat.reduceSub, eq_self, tsh_0, tyk_13, tcq_13, tsx_1, tyx_12, tcx_12, tsh_5, tyk_11, tcq_11, tyk_4, tcq_4, tyk_3, tcq_3, tsh_662]
  refine tz_xn (D := 2) (fun d' hd' => k_X11_checkHeld cl_0 h1 hd') hC (by omega) rfl ?_ (fun s q => Or.inr ⟨_, rfl, rfl, KA_refl hC hK⟩)
  intro _
  obtain ⟨i, rfl⟩ : ∃ k : Nat, x1 = (k : Int) := ⟨x1.toNat, by omega⟩
  have ci := (cl_sh (s := i) (by omega)).1
  have cb := (bxl_2 (cl_sh (s := i) (by omega))).1
  obtain ⟨v, v1, v2⟩ := hK.1.2.1 i (by omega)
  try simp only [kb_X11_high_0, w_ald_0, w_ild_1, w_iv1, tfr_0, tfr_1, tfr_2, tfr_3, tfr_4, w_gf_13_1, tw_t, w_gf_13_3, w_gf_4_1, w_gf_12_1, w_ire, trg, w64_r, true_and, and_true, Nat.reduceAdd, Nat.reduceSub, eq_self, tsh_0, tyk_13, tcq_13, tsx_1, tyx_12, tcx_12, tsh_5, tyk_11, tcq_11, tyk_4, tcq_4, tyk_3, tcq_3, tsh_662]
  refine tc_r (D := 1) (fun d' hd' => z_box (s := i) (by omega) hd') (by omega) ?_
  rintro y M2 ⟨rfl, rfl⟩
  try simp only [kb_X11_high_0, w_ald_0, w_ild_1, w_iv1, tfr_0, tfr_1, tfr_2, tfr_3, tfr_4, w_gf_13_1, tw_t, w_gf_13_3, w_gf_4_1, w_gf_12_1, w_ire, trg, w64_r, true_and, and_true, Nat.reduceAdd, Nat.reduceSub, eq_self, tsh_0, tyk_13, tcq_13, tsx_1, tyx_12, tcx_12, tsh_5, tyk_11, tcq_11, tyk_4, tcq_4, tyk_3, tcq_3, tsh_662, ci, cb]
  refine tc_n (D := 1) (fun d' hd' => z_twrite (Or.inl rfl) (bxl_2 (cl_sh (by omega))) (by omega) v1.2 (WF_n v2.1.2) hC hd') (by omega) ?_
  rintro M3 f3
  have t2 := tx_r f3.1.1
  try simp only [kb_X11_high_0, w_ald_0, w_ild_1, w_iv1, tfr_0, tfr_1, tfr_2, tfr_3, tfr_4, w_gf_13_1, tw_t, w_gf_13_3, w_gf_4_1, w_gf_12_1, w_ire, trg, w64_r, true_and, and_true, Nat.reduceAdd, Nat.reduceSub, eq_self, tsh_0, tyk_13, tcq_13, tsx_1, tyx_12, tcx_12, tsh_5, tyk_11, tcq_11, tyk_4, tcq_4, tyk_3, tcq_3, tsh_662, ci, cb]
  exact Or.inl ⟨_, rfl, rfl, by omega, KA_tx hK f3⟩
theorem v_width {x1 : Int} (h1 : (-2147483648 ≤ x1 ∧ x1 ≤ 2147483647)) (hK : KW M) (hC : CI M) (hd : 4 ≤ d) : tC e d 3399 [.inr (.inr (.inl 0)), .inl x1] M n (tQx n (tQi n (fun z M' => (-2147483648 ≤ z ∧ z ≤ 2147483647) ∧ KA M M')) (fun _ M' => KA M M')) := by
  refine tst_X11_width ?_
  refine tb_X11_width_0 (c := true) ?_
  simp only [kb_X11_width_0, w_ald_0, w_ild_1, w_iv1, tfr_0, tfr_1, tfr_2, tfr_3, tfr_4, w_gf_13_3, tw_t, w_ast_2, tkl_n, tkl_i, tkl_l, tkl_r, w_gf_13_15, w_ald_2, w_gf_4_1, w_gf_4_0, w_iv2, w_gf_13_1, w_gf_12_1, w_ire, trg, w64_r, true_and, and_true, Nat.reduceAdd, Nat.reduceSub, eq_self, tsh_0, tyk_13, tcq_13, tsx_1, tyx_12, tcx_12, tsh_5, tyk_11, tcq_11, tyk_4, tcq_4, tyk_3, tcq_3, tsh_662]
  refine tz_xn (D := 0) (fun d' hd' => k_X11_checkShelf cl_0 h1 hd') hC (by omega) rfl ?_ (fun s q => Or.inr ⟨_, rfl, rfl, KA_refl hC hK⟩)
  intro a1
  try simp only [kb_X11_width_0, w_ald_0, w_ild_1, w_iv1, tfr_0, tfr_1, tfr_2, tfr_3, tfr_4, w_gf_13_3, tw_t, w_ast_2, tkl_n, tkl_i, tkl_l, tkl_r, w_gf_13_15, w_ald_2, w_gf_4_1, w_gf_4_0, w_iv2, w_gf_13_1, w_gf_12_1, w_ire, trg, w64_r, true_and, and_true, Nat.reduceAdd, Nat.reduceSub, eq_self, tsh_0, tyk_13, tcq_13, tsx_1, tyx_12, tcx_12, tsh_5, tyk_11, tcq_11, tyk_4, tcq_4, tyk_3, tcq_3, tsh_662]
  refine tz_xn (D := 2) (fun d' hd' => k_X11_checkHeld cl_0 h1 hd') hC (by omega) rfl ?_ (fun s q => Or.inr ⟨_, rfl, rfl, KA_refl hC hK⟩)
  intro _
  obtain ⟨i, rfl⟩ : ∃ k : Nat, x1 = (k : Int) := ⟨x1.toNat, by omega⟩
  have ci := (cl_sh (s := i) (by omega)).1
  have cb := (bxl_2 (cl_sh (s := i) (by omega))).1
  have cc := (bxl_1 (cl_sh (s := i) (by omega))).1
  obtain ⟨v, v1, v2⟩ := hK.1.2.1 i (by omega)
  have wW : WF (v.2 - v.1) := by
    have n1 := v2.1.1
    have n2 := v2.1.2
    unfold NF at n1 n2
    unfold WF
    omega
  try simp only [kb_X11_width_0, w_ald_0, w_ild_1, w_iv1, tfr_0, tfr_1, tfr_2, tfr_3, tfr_4, w_gf_13_3, tw_t, w_ast_2, tkl_n, tkl_i, tkl_l, tkl_r, w_gf_13_15, w_ald_2, w_gf_4_1, w_gf_4_0, w_iv2, w_gf_13_1, w_gf_12_1, w_ire, trg, w64_r, true_and, and_true, Nat.reduceAdd, Nat.reduceSub, eq_self, tsh_0, tyk_13, tcq_13, tsx_1, tyx_12, tcx_12, tsh_5, tyk_11, tcq_11, tyk_4, tcq_4, tyk_3, tcq_3, tsh_662]
  refine tc_r (D := 1) (fun d' hd' => z_box (s := i) (by omega) hd') (by omega) ?_
  rintro y M2 ⟨rfl, rfl⟩
  try simp only [kb_X11_width_0, w_ald_0, w_ild_1, w_iv1, tfr_0, tfr_1, tfr_2, tfr_3, tfr_4, w_gf_13_3, tw_t, w_ast_2, tkl_n, tkl_i, tkl_l, tkl_r, w_gf_13_15, w_ald_2, w_gf_4_1, w_gf_4_0, w_iv2, w_gf_13_1, w_gf_12_1, w_ire, trg, w64_r, true_and, and_true, Nat.reduceAdd, Nat.reduceSub, eq_self, tsh_0, tyk_13, tcq_13, tsx_1, tyx_12, tcx_12, tsh_5, tyk_11, tcq_11, tyk_4, tcq_4, tyk_3, tcq_3, tsh_662, ci, cb, cc]
  refine tc_n (D := 0) (fun d' hd' => y_toDifference (b := 0) cl_662 (bxl_2 (cl_sh (by omega))) (bxl_1 (cl_sh (by omega))) v1.2 v1.1 (RV_g v2).2 (RV_g v2).1 (Or.inl (by decide)) hC) (by omega) ?_
  rintro M3 ⟨x3, f3⟩
  have k3 := KA_s hK f3
  try simp only [kb_X11_width_0, w_ald_0, w_ild_1, w_iv1, tfr_0, tfr_1, tfr_2, tfr_3, tfr_4, w_gf_13_3, tw_t, w_ast_2, tkl_n, tkl_i, tkl_l, tkl_r, w_gf_13_15, w_ald_2, w_gf_4_1, w_gf_4_0, w_iv2, w_gf_13_1, w_gf_12_1, w_ire, trg, w64_r, true_and, and_true, Nat.reduceAdd, Nat.reduceSub, eq_self, tsh_0, tyk_13, tcq_13, tsx_1, tyx_12, tcx_12, tsh_5, tyk_11, tcq_11, tyk_4, tcq_4, tyk_3, tcq_3, tsh_662, ci, cb, cc]
  refine tc_n (D := 1) (fun d' hd' => z_twrite (Or.inl rfl) cl_662 (by decide) x3 wW k3.1.1 hd') (by omega) ?_
  rintro M4 f4
  have t2 := tx_r f4.1.1
  try simp only [kb_X11_width_0, w_ald_0, w_ild_1, w_iv1, tfr_0, tfr_1, tfr_2, tfr_3, tfr_4, w_gf_13_3, tw_t, w_ast_2, tkl_n, tkl_i, tkl_l, tkl_r, w_gf_13_15, w_ald_2, w_gf_4_1, w_gf_4_0, w_iv2, w_gf_13_1, w_gf_12_1, w_ire, trg, w64_r, true_and, and_true, Nat.reduceAdd, Nat.reduceSub, eq_self, tsh_0, tyk_13, tcq_13, tsx_1, tyx_12, tcx_12, tsh_5, tyk_11, tcq_11, tyk_4, tcq_4, tyk_3, tcq_3, tsh_662, ci, cb, cc]
  exact Or.inl ⟨_, rfl, rfl, by omega, KA_tr k3.1.2 (KA_tx k3.2 f4)⟩
end HAND
