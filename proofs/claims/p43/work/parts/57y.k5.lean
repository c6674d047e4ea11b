/-! WHAT HOLDS BETWEEN CALLS: kept by undo, join, meet, piece, value. -/
theorem GB_em {v w : Int × Int} (h : GBX v) (g : GBX w) : GBX (if w.1 < v.1 then w.1 else v.1, if v.2 < w.2 then w.2 else v.2) := by
  obtain ⟨⟨n1, n2⟩, n3⟩ := h
  obtain ⟨⟨m1, m2⟩, m3⟩ := g
  have a : (if w.1 < v.1 then w.1 else v.1) = w.1 ∧ w.1 < v.1 ∨ (if w.1 < v.1 then w.1 else v.1) = v.1 ∧ ¬ w.1 < v.1 := by split <;> omega
  have b : (if v.2 < w.2 then w.2 else v.2) = w.2 ∧ v.2 < w.2 ∨ (if v.2 < w.2 then w.2 else v.2) = v.2 ∧ ¬ v.2 < w.2 := by split <;> omega
  show (NF (if w.1 < v.1 then w.1 else v.1) ∧ NF (if v.2 < w.2 then w.2 else v.2)) ∧ (if w.1 < v.1 then w.1 else v.1) ≤ (if v.2 < w.2 then w.2 else v.2)
  generalize (if w.1 < v.1 then w.1 else v.1) = p at *
  generalize (if v.2 < w.2 then w.2 else v.2) = q at *
  unfold NF at *
  omega
theorem GB_cu {v w : Int × Int} (h : GBX v) (g : GBX w) (ord : (if v.1 < w.1 then w.1 else v.1) ≤ (if w.2 < v.2 then w.2 else v.2)) : GBX (if v.1 < w.1 then w.1 else v.1, if w.2 < v.2 then w.2 else v.2) := by
  obtain ⟨⟨n1, n2⟩, n3⟩ := h
  obtain ⟨⟨m1, m2⟩, m3⟩ := g
  have a : (if v.1 < w.1 then w.1 else v.1) = w.1 ∨ (if v.1 < w.1 then w.1 else v.1) = v.1 := by split <;> omega
  have b : (if w.2 < v.2 then w.2 else v.2) = w.2 ∨ (if w.2 < v.2 then w.2 else v.2) = v.2 := by split <;> omega
  show (NF (if v.1 < w.1 then w.1 else v.1) ∧ NF (if w.2 < v.2 then w.2 else v.2)) ∧ (if v.1 < w.1 then w.1 else v.1) ≤ (if w.2 < v.2 then w.2 else v.2)
  generalize (if v.1 < w.1 then w.1 else v.1) = p at *
  generalize (if w.2 < v.2 then w.2 else v.2) = q at *
  unfold NF at *
  omega
section HAND
variable {e : tE} {d n : Nat} {M : tM}
theorem v_takeBack (hK : KW M) (hC : CI M) (hd : 2 ≤ d) : tC e d 2821 [.inr (.inr (.inl 5))] M n (tQi n (fun z M' => (-1 ≤ z ∧ z ≤ 9) ∧ KA M M')) := by
  have k5 := cl_5
  refine tst_X9_takeBack ?_
  have h5 := CI_i (f := 5) hC cl_5 rfl
  have h6 := CI_i (f := 6) hC cl_5 rfl
  have h5 : 0 ≤ M 5 5 ∧ M 5 5 ≤ 11 := h5
  have h6 : 0 ≤ M 5 6 ∧ M 5 6 ≤ 12 := h6
  have em : ∀ x : Int, 0 ≤ x → x.tmod 12 = x % 12 := fun x h => Int.tmod_eq_emod_of_nonneg h
  refine tb_X9_takeBack_0 (c := true) ?_
  simp only [kb_X9_takeBack_0, w_ald_0, w_gf_11_6, tw_t, w_if_ne, w_ic, w_ire, trg, w64_r, true_and, and_true, Nat.reduceAdd, Nat.reduceSub, eq_self, tsh_5, tyk_11, tcq_11, tsh_6, tsh_7, tsh_38, tsh_39, tsh_40, tyk_16, tyk_17, tyk_18, tyk_19, tyk_20, tel_4, tqo_6, tqo_38, tyk_4, tcq_4]
  repeat refine And.intro (by omega) ?_
  refine ⟨fun q => ?_, fun q => ⟨_, rfl, rfl, by decide, KA_refl hC hK⟩⟩
  refine tb_X9_takeBack_9 (c := true) ?_
  simp only [kb_X9_takeBack_9, w_ald_0, w_dupi, w_dupr, w_gf_11_6, tw_t, w_ic, w_isub, w_pf_11_6, w_gf_11_5, w_iadd, w_bi, w_irem, w_ist_1, tkl_n, tkl_i, tkl_l, tkl_r, w_gf_11_4, w_ild_1, w_ia, w_iax, w_ist_2, w_gf_11_1, w_ild_2, w_gf_11_3, w_ba, w_bas, w_gf_11_0, w_aa, w_gf_11_2, w_iv1, tfr_0, tfr_1, tfr_2, tfr_3, tfr_4, w_ire, trg, w64_r, true_and, and_true, Nat.reduceAdd, Nat.reduceSub, eq_self, tsh_5, tyk_11, tcq_11, tsh_6, tsh_7, tsh_38, tsh_39, tsh_40, tyk_16, tyk_17, tyk_18, tyk_19, tyk_20, tel_4, tqo_6, tqo_38, tyk_4, tcq_4]
  repeat refine And.intro (by omega) ?_
  have c1 : CI (tU M 5 6 (M 5 6 - 1)) := CI_put hC tsh_5 (fun _ => by show 0 ≤ M 5 6 - 1 ∧ M 5 6 - 1 ≤ 12; omega)
  have p1 : pE 0 M (tU M 5 6 (M 5 6 - 1)) := pE_put (prt_f (a := 11) (f := 6) (Or.inl (by decide)) cl_5 (by decide) (fun q => absurd q (by decide)) (by decide))
  have k1 : KA M (tU M 5 6 (M 5 6 - 1)) := KA_f hK c1 p1 (RO_u hK.1.1.2 (tU_nk (by decide)) (tU_nk (by decide))) (fun k i g => tU_nk (by unfold KPC at g; omega))
  have t1 : tU M 5 6 (M 5 6 - 1) 5 5 = M 5 5 := tU_ni (by decide)
  have t2 : tU M 5 6 (M 5 6 - 1) 5 6 = M 5 6 - 1 := tU_eq ..
  generalize tU M 5 6 (M 5 6 - 1) = M1 at *
  rw [t1, t2]
  rw [em _ (by omega)]
  repeat refine And.intro (by omega) ?_
  generalize hp : (M 5 5 + (M 5 6 - 1)) % 12 = p
  have hp2 : 0 ≤ p ∧ p ≤ 11 := by omega
  have hs := c1.1 40 p (by decide) (by omega)
  rw [tsh_40] at hs
  have hs : 0 ≤ M1 40 p ∧ M1 40 p ≤ 9 := hs
  have hi := c1.1 39 p (by decide) (by omega)
  rw [tsh_39] at hi
  have hi : 0 ≤ M1 39 p ∧ M1 39 p ≤ 1 := hi
  generalize hsg : M1 40 p = s at *
  have c2 : CI (tU M1 7 s (M1 39 p)) := CI_put c1 tsh_7 (fun _ => by show 0 ≤ M1 39 p ∧ M1 39 p ≤ 1; exact hi)
  have p2 : pE 0 M1 (tU M1 7 s (M1 39 p)) := pE_put (prt_a (t := 3) (Or.inl (by decide)) ⟨by decide, by rw [tsh_7]; rfl, by omega, by rw [tsh_7]; show _ < (10 : Int); omega⟩ (by decide) (fun _ => rfl))
  have k2 : KA M1 (tU M1 7 s (M1 39 p)) := KA_f k1.2 c2 p2 (RO_u k1.2.1.1.2 (tU_nk (by decide)) (tU_nk (by decide))) (fun k i g => tU_nk (by unfold KPC at g; omega))
  generalize tU M1 7 s (M1 39 p) = M2 at *
  have hk1 := cl_38 (i := p) (by omega)
  have hk2 := cl_6 (i := s) (by omega)
  have s1 := hk1.1
  have s2 := hk2.1
  obtain ⟨v, g1, g2⟩ := k2.2.2.1.1 p.toNat (by omega)
  try simp only [kb_X9_takeBack_9, w_ald_0, w_dupi, w_dupr, w_gf_11_6, tw_t, w_ic, w_isub, w_pf_11_6, w_gf_11_5, w_iadd, w_bi, w_irem, w_ist_1, tkl_n, tkl_i, tkl_l, tkl_r, w_gf_11_4, w_ild_1, w_ia, w_iax, w_ist_2, w_gf_11_1, w_ild_2, w_gf_11_3, w_ba, w_bas, w_gf_11_0, w_aa, w_gf_11_2, w_iv1, tfr_0, tfr_1, tfr_2, tfr_3, tfr_4, w_ire, trg, w64_r, true_and, and_true, Nat.reduceAdd, Nat.reduceSub, eq_self, tsh_5, tyk_11, tcq_11, tsh_6, tsh_7, tsh_38, tsh_39, tsh_40, tyk_16, tyk_17, tyk_18, tyk_19, tyk_20, tel_4, tqo_6, tqo_38, tyk_4, tcq_4, s1, s2]
  repeat refine And.intro (by omega) ?_
  refine tc_n (D := 1) (fun d' hd' => z_copy (b := 0) hk2 hk1 g1 (by decide) c2 hd') (by omega) ?_
  rintro M3 ⟨x3, f4⟩
  have w4 : KW M3 := KW_c k2.2 hk2 f4 ⟨v, x3, g2⟩
  try simp only [kb_X9_takeBack_9, w_ald_0, w_dupi, w_dupr, w_gf_11_6, tw_t, w_ic, w_isub, w_pf_11_6, w_gf_11_5, w_iadd, w_bi, w_irem, w_ist_1, tkl_n, tkl_i, tkl_l, tkl_r, w_gf_11_4, w_ild_1, w_ia, w_iax, w_ist_2, w_gf_11_1, w_ild_2, w_gf_11_3, w_ba, w_bas, w_gf_11_0, w_aa, w_gf_11_2, w_iv1, tfr_0, tfr_1, tfr_2, tfr_3, tfr_4, w_ire, trg, w64_r, true_and, and_true, Nat.reduceAdd, Nat.reduceSub, eq_self, tsh_5, tyk_11, tcq_11, tsh_6, tsh_7, tsh_38, tsh_39, tsh_40, tyk_16, tyk_17, tyk_18, tyk_19, tyk_20, tel_4, tqo_6, tqo_38, tyk_4, tcq_4, s1, s2]
  exact ⟨_, rfl, rfl, by omega, KA_tr (pE_tr p1 p2) ⟨f4.1, w4⟩⟩
theorem v_undo (hK : KW M) (hC : CI M) (hd : 3 ≤ d) : tC e d 3396 [.inr (.inr (.inl 0))] M n (tQx n (tQi n (fun z M' => (-2147483648 ≤ z ∧ z ≤ 2147483647) ∧ KA M M')) (fun _ M' => KA M M')) := by
  refine tst_X11_undo ?_
  refine tb_X11_undo_0 (c := true) ?_
  simp only [kb_X11_undo_0, w_ald_0, w_gf_13_3, tw_t, w_iv0, tfr_0, tfr_1, tfr_2, tfr_3, tfr_4, w_ist_1, tkl_n, tkl_i, tkl_l, tkl_r, w_ild_1, w_if_ge, w_new, w64_r, true_and, and_true, Nat.reduceAdd, Nat.reduceSub, eq_self, tsh_0, tyk_13, tsh_77, tyk_8, tcq_8, tsh_5, tyk_11, tcq_13, tcq_11, tyk_4, tcq_4, tsh_113, tsh_650, tsh_499, tyk_27, tel_5, tyk_7, tcq_7]
  refine tc_i (D := 2) (fun d' hd' => v_takeBack hK hC hd') (by omega) ?_
  rintro z M1 ⟨hz, k1⟩
  try simp only [kb_X11_undo_0, w_ald_0, w_gf_13_3, tw_t, w_iv0, tfr_0, tfr_1, tfr_2, tfr_3, tfr_4, w_ist_1, tkl_n, tkl_i, tkl_l, tkl_r, w_ild_1, w_if_ge, w_new, w64_r, true_and, and_true, Nat.reduceAdd, Nat.reduceSub, eq_self, tsh_0, tyk_13, tsh_77, tyk_8, tcq_8, tsh_5, tyk_11, tcq_13, tcq_11, tyk_4, tcq_4, tsh_113, tsh_650, tsh_499, tyk_27, tel_5, tyk_7, tcq_7]
  repeat refine And.intro (by omega) ?_
  refine ⟨fun _ => ?_, fun _ => Or.inr ⟨_, rfl, rfl, k1⟩⟩
  refine tb_X11_undo_22 (c := true) ?_
  simp only [kb_X11_undo_22, w_ild_1, w_ire, trg, w64_r, true_and, and_true, Nat.reduceAdd, Nat.reduceSub, eq_self]
  exact Or.inl ⟨_, rfl, rfl, by omega, k1⟩
theorem RV_g {v : Int × Int} (h : GBX v) : RV v.1 ∧ RV v.2 := ⟨NF_r h.1.1, NF_r h.1.2⟩
theorem v_join {x1 x2 x3 : Int} (h1 : (-2147483648 ≤ x1 ∧ x1 ≤ 2147483647)) (h2 : (-2147483648 ≤ x2 ∧ x2 ≤ 2147483647)) (h3 : (-2147483648 ≤ x3 ∧ x3 ≤ 2147483647)) (hK : KW M) (hC : CI M) (hd : 4 ≤ d) : tC e d 3366 [.inr (.inr (.inl 0)), .inl x1, .inl x2, .inl x3] M n (tQx n (tQi n (fun z M' => (0 ≤ z ∧ z ≤ 1) ∧ KA M M')) (fun _ M' => KA M M')) := by
  refine tst_X11_join ?_
  refine tb_X11_join_0 (c := true) ?_
  simp only [kb_X11_join_0, w_ald_0, w_ild_1, w_ild_2, w_ild_3, w_iv3, tfr_0, tfr_1, tfr_2, tfr_3, tfr_4, w_iv1, w_gf_13_11, tw_t, w_gf_13_3, w_iv2, w_ire, trg, w64_r, true_and, and_true, Nat.reduceAdd, Nat.reduceSub, eq_self, tsh_0, tyk_13, tsh_77, tyk_8, tcq_8, tsh_5, tyk_11, tcq_13, tcq_11, tyk_4, tcq_4, tsh_113, tsh_650, tsh_499, tyk_27, tel_5, tyk_7, tcq_7]
  refine tz_xn (D := 1) (fun d' hd' => k_X11_checkShelves cl_0 h1 h2 h3 hd') hC (by omega) rfl ?_ (fun s q => Or.inr ⟨_, rfl, rfl, KA_refl hC hK⟩)
  rintro ⟨a1, a2, a3⟩
  obtain ⟨i, rfl⟩ : ∃ k : Nat, x2 = (k : Int) := ⟨x2.toNat, by omega⟩
  obtain ⟨j, rfl⟩ : ∃ k : Nat, x3 = (k : Int) := ⟨x3.toNat, by omega⟩
  try simp only [kb_X11_join_0, w_ald_0, w_ild_1, w_ild_2, w_ild_3, w_iv3, tfr_0, tfr_1, tfr_2, tfr_3, tfr_4, w_iv1, w_gf_13_11, tw_t, w_gf_13_3, w_iv2, w_ire, trg, w64_r, true_and, and_true, Nat.reduceAdd, Nat.reduceSub, eq_self, tsh_0, tyk_13, tsh_77, tyk_8, tcq_8, tsh_5, tyk_11, tcq_13, tcq_11, tyk_4, tcq_4, tsh_113, tsh_650, tsh_499, tyk_27, tel_5, tyk_7, tcq_7]
  refine tz_xn (D := 2) (fun d' hd' => k_X11_checkHeld cl_0 h2 hd') hC (by omega) rfl ?_ (fun s q => Or.inr ⟨_, rfl, rfl, KA_refl hC hK⟩)
  intro _
  try simp only [kb_X11_join_0, w_ald_0, w_ild_1, w_ild_2, w_ild_3, w_iv3, tfr_0, tfr_1, tfr_2, tfr_3, tfr_4, w_iv1, w_gf_13_11, tw_t, w_gf_13_3, w_iv2, w_ire, trg, w64_r, true_and, and_true, Nat.reduceAdd, Nat.reduceSub, eq_self, tsh_0, tyk_13, tsh_77, tyk_8, tcq_8, tsh_5, tyk_11, tcq_13, tcq_11, tyk_4, tcq_4, tsh_113, tsh_650, tsh_499, tyk_27, tel_5, tyk_7, tcq_7]
  refine tz_xn (D := 2) (fun d' hd' => k_X11_checkHeld cl_0 h3 hd') hC (by omega) rfl ?_ (fun s q => Or.inr ⟨_, rfl, rfl, KA_refl hC hK⟩)
  intro _
  try simp only [kb_X11_join_0, w_ald_0, w_ild_1, w_ild_2, w_ild_3, w_iv3, tfr_0, tfr_1, tfr_2, tfr_3, tfr_4, w_iv1, w_gf_13_11, tw_t, w_gf_13_3, w_iv2, w_ire, trg, w64_r, true_and, and_true, Nat.reduceAdd, Nat.reduceSub, eq_self, tsh_0, tyk_13, tsh_77, tyk_8, tcq_8, tsh_5, tyk_11, tcq_13, tcq_11, tyk_4, tcq_4, tsh_113, tsh_650, tsh_499, tyk_27, tel_5, tyk_7, tcq_7]
  refine tc_r (D := 1) (fun d' hd' => z_box (s := i) (by omega) hd') (by omega) ?_
  rintro y M2 ⟨rfl, rfl⟩
  have ci := (cl_sh (s := i) (by omega)).1
  have cj := (cl_sh (s := j) (by omega)).1
  try simp only [kb_X11_join_0, w_ald_0, w_ild_1, w_ild_2, w_ild_3, w_iv3, tfr_0, tfr_1, tfr_2, tfr_3, tfr_4, w_iv1, w_gf_13_11, tw_t, w_gf_13_3, w_iv2, w_ire, trg, w64_r, true_and, and_true, Nat.reduceAdd, Nat.reduceSub, eq_self, tsh_0, tyk_13, tsh_77, tyk_8, tcq_8, tsh_5, tyk_11, tcq_13, tcq_11, tyk_4, tcq_4, tsh_113, tsh_650, tsh_499, tyk_27, tel_5, tyk_7, tcq_7, ci, cj]
  obtain ⟨v, v1, v2⟩ := hK.1.2.1 i (by omega)
  refine tc_n (D := 1) (fun d' hd' => z_copy (b := 0) cl_650 (cl_sh (by omega)) v1 (by decide) hC hd') (by omega) ?_
  rintro M3 ⟨c1, c2⟩
  have k3 := KA_b hK (by decide) c2
  try simp only [kb_X11_join_0, w_ald_0, w_ild_1, w_ild_2, w_ild_3, w_iv3, tfr_0, tfr_1, tfr_2, tfr_3, tfr_4, w_iv1, w_gf_13_11, tw_t, w_gf_13_3, w_iv2, w_ire, trg, w64_r, true_and, and_true, Nat.reduceAdd, Nat.reduceSub, eq_self, tsh_0, tyk_13, tsh_77, tyk_8, tcq_8, tsh_5, tyk_11, tcq_13, tcq_11, tyk_4, tcq_4, tsh_113, tsh_650, tsh_499, tyk_27, tel_5, tyk_7, tcq_7, ci, cj]
  refine tc_r (D := 1) (fun d' hd' => z_box (s := j) (by omega) hd') (by omega) ?_
  rintro y M4 ⟨rfl, rfl⟩
  try simp only [kb_X11_join_0, w_ald_0, w_ild_1, w_ild_2, w_ild_3, w_iv3, tfr_0, tfr_1, tfr_2, tfr_3, tfr_4, w_iv1, w_gf_13_11, tw_t, w_gf_13_3, w_iv2, w_ire, trg, w64_r, true_and, and_true, Nat.reduceAdd, Nat.reduceSub, eq_self, tsh_0, tyk_13, tsh_77, tyk_8, tcq_8, tsh_5, tyk_11, tcq_13, tcq_11, tyk_4, tcq_4, tsh_113, tsh_650, tsh_499, tyk_27, tel_5, tyk_7, tcq_7, ci, cj]
  obtain ⟨w, w1, w2⟩ := k3.2.1.2.1 j (by omega)
  refine tc_n (D := 1) (fun d' hd' => z_embrace (b := 0) cl_650 (cl_sh (s := j) (by omega)) (by omega) c1 w1 (RV_g v2) (RV_g w2) (by decide) k3.1.1 hd') (by omega) ?_
  rintro M5 ⟨d1, d2⟩
  have k5 := KA_tr k3.1.2 (KA_b k3.2 (by decide) d2)
  have gd : BXG M5 650 := ⟨(if w.1 < v.1 then w.1 else v.1, if v.2 < w.2 then w.2 else v.2), d1, GB_em v2 w2⟩
  try simp only [kb_X11_join_0, w_ald_0, w_ild_1, w_ild_2, w_ild_3, w_iv3, tfr_0, tfr_1, tfr_2, tfr_3, tfr_4, w_iv1, w_gf_13_11, tw_t, w_gf_13_3, w_iv2, w_ire, trg, w64_r, true_and, and_true, Nat.reduceAdd, Nat.reduceSub, eq_self, tsh_0, tyk_13, tsh_77, tyk_8, tcq_8, tsh_5, tyk_11, tcq_13, tcq_11, tyk_4, tcq_4, tsh_113, tsh_650, tsh_499, tyk_27, tel_5, tyk_7, tcq_7, ci, cj]
  refine tc_i (D := 3) (fun d' hd' => v_fill a1 cl_650 gd (by decide) k5.2 k5.1.1 hd') (by omega) ?_
  rintro z M6 ⟨p1, p2⟩
  try simp only [kb_X11_join_0, w_ald_0, w_ild_1, w_ild_2, w_ild_3, w_iv3, tfr_0, tfr_1, tfr_2, tfr_3, tfr_4, w_iv1, w_gf_13_11, tw_t, w_gf_13_3, w_iv2, w_ire, trg, w64_r, true_and, and_true, Nat.reduceAdd, Nat.reduceSub, eq_self, tsh_0, tyk_13, tsh_77, tyk_8, tcq_8, tsh_5, tyk_11, tcq_13, tcq_11, tyk_4, tcq_4, tsh_113, tsh_650, tsh_499, tyk_27, tel_5, tyk_7, tcq_7, ci, cj]
  exact ⟨by omega, Or.inl ⟨_, rfl, rfl, p1, KA_tr k5.1.2 p2⟩⟩
theorem v_meet {x1 x2 x3 : Int} (h1 : (-2147483648 ≤ x1 ∧ x1 ≤ 2147483647)) (h2 : (-2147483648 ≤ x2 ∧ x2 ≤ 2147483647)) (h3 : (-2147483648 ≤ x3 ∧ x3 ≤ 2147483647)) (hK : KW M) (hC : CI M) (hd : 4 ≤ d) : tC e d 3374 [.inr (.inr (.inl 0)), .inl x1, .inl x2, .inl x3] M n (tQx n (tQi n (fun z M' => (0 ≤ z ∧ z ≤ 1) ∧ KA M M')) (fun _ M' => KA M M')) := by
  refine tst_X11_meet ?_
  refine tb_X11_meet_0 (c := true) ?_
  simp only [kb_X11_meet_0, w_ald_0, w_ild_1, w_ild_2, w_ild_3, w_iv3, tfr_0, tfr_1, tfr_2, tfr_3, tfr_4, w_iv1, w_gf_13_11, tw_t, w_gf_13_3, w_if_ne, w_new, w64_r, true_and, and_true, Nat.reduceAdd, Nat.reduceSub, eq_self, tsh_0, tyk_13, tsh_77, tyk_8, tcq_8, tsh_5, tyk_11, tcq_13, tcq_11, tyk_4, tcq_4, tsh_113, tsh_650, tsh_499, tyk_27, tel_5, tyk_7, tcq_7]
  refine tz_xn (D := 1) (fun d' hd' => k_X11_checkShelves cl_0 h1 h2 h3 hd') hC (by omega) rfl ?_ (fun s q => Or.inr ⟨_, rfl, rfl, KA_refl hC hK⟩)
  rintro ⟨a1, a2, a3⟩
  obtain ⟨i, rfl⟩ : ∃ k : Nat, x2 = (k : Int) := ⟨x2.toNat, by omega⟩
  obtain ⟨j, rfl⟩ : ∃ k : Nat, x3 = (k : Int) := ⟨x3.toNat, by omega⟩
  try simp only [kb_X11_meet_0, w_ald_0, w_ild_1, w_ild_2, w_ild_3, w_iv3, tfr_0, tfr_1, tfr_2, tfr_3, tfr_4, w_iv1, w_gf_13_11, tw_t, w_gf_13_3, w_if_ne, w_new, w64_r, true_and, and_true, Nat.reduceAdd, Nat.reduceSub, eq_self, tsh_0, tyk_13, tsh_77, tyk_8, tcq_8, tsh_5, tyk_11, tcq_13, tcq_11, tyk_4, tcq_4, tsh_113, tsh_650, tsh_499, tyk_27, tel_5, tyk_7, tcq_7]
  refine tz_xn (D := 2) (fun d' hd' => k_X11_checkHeld cl_0 h2 hd') hC (by omega) rfl ?_ (fun s q => Or.inr ⟨_, rfl, rfl, KA_refl hC hK⟩)
  intro _
  try simp only [kb_X11_meet_0, w_ald_0, w_ild_1, w_ild_2, w_ild_3, w_iv3, tfr_0, tfr_1, tfr_2, tfr_3, tfr_4, w_iv1, w_gf_13_11, tw_t, w_gf_13_3, w_if_ne, w_new, w64_r, true_and, and_true, Nat.reduceAdd, Nat.reduceSub, eq_self, tsh_0, tyk_13, tsh_77, tyk_8, tcq_8, tsh_5, tyk_11, tcq_13, tcq_11, tyk_4, tcq_4, tsh_113, tsh_650, tsh_499, tyk_27, tel_5, tyk_7, tcq_7]
  refine tz_xn (D := 2) (fun d' hd' => k_X11_checkHeld cl_0 h3 hd') hC (by omega) rfl ?_ (fun s q => Or.inr ⟨_, rfl, rfl, KA_refl hC hK⟩)
  intro _
  try simp only [kb_X11_meet_0, w_ald_0, w_ild_1, w_ild_2, w_ild_3, w_iv3, tfr_0, tfr_1, tfr_2, tfr_3, tfr_4, w_iv1, w_gf_13_11, tw_t, w_gf_13_3, w_if_ne, w_new, w64_r, true_and, and_true, Nat.reduceAdd, Nat.reduceSub, eq_self, tsh_0, tyk_13, tsh_77, tyk_8, tcq_8, tsh_5, tyk_11, tcq_13, tcq_11, tyk_4, tcq_4, tsh_113, tsh_650, tsh_499, tyk_27, tel_5, tyk_7, tcq_7]
  refine tc_r (D := 1) (fun d' hd' => z_box (s := i) (by omega) hd') (by omega) ?_
  rintro y M2 ⟨rfl, rfl⟩
  have ci := (cl_sh (s := i) (by omega)).1
  have cj := (cl_sh (s := j) (by omega)).1
  try simp only [kb_X11_meet_0, w_ald_0, w_ild_1, w_ild_2, w_ild_3, w_iv3, tfr_0, tfr_1, tfr_2, tfr_3, tfr_4, w_iv1, w_gf_13_11, tw_t, w_gf_13_3, w_if_ne, w_new, w64_r, true_and, and_true, Nat.reduceAdd, Nat.reduceSub, eq_self, tsh_0, tyk_13, tsh_77, tyk_8, tcq_8, tsh_5, tyk_11, tcq_13, tcq_11, tyk_4, tcq_4, tsh_113, tsh_650, tsh_499, tyk_27, tel_5, tyk_7, tcq_7, ci, cj]
  obtain ⟨v, v1, v2⟩ := hK.1.2.1 i (by omega)
  refine tc_n (D := 1) (fun d' hd' => z_copy (b := 0) cl_650 (cl_sh (by omega)) v1 (by decide) hC hd') (by omega) ?_
  rintro M3 ⟨c1, c2⟩
  have k3 := KA_b hK (by decide) c2
  try simp only [kb_X11_meet_0, w_ald_0, w_ild_1, w_ild_2, w_ild_3, w_iv3, tfr_0, tfr_1, tfr_2, tfr_3, tfr_4, w_iv1, w_gf_13_11, tw_t, w_gf_13_3, w_if_ne, w_new, w64_r, true_and, and_true, Nat.reduceAdd, Nat.reduceSub, eq_self, tsh_0, tyk_13, tsh_77, tyk_8, tcq_8, tsh_5, tyk_11, tcq_13, tcq_11, tyk_4, tcq_4, tsh_113, tsh_650, tsh_499, tyk_27, tel_5, tyk_7, tcq_7, ci, cj]
  refine tc_r (D := 1) (fun d' hd' => z_box (s := j) (by omega) hd') (by omega) ?_
  rintro y M4 ⟨rfl, rfl⟩
  try simp only [kb_X11_meet_0, w_ald_0, w_ild_1, w_ild_2, w_ild_3, w_iv3, tfr_0, tfr_1, tfr_2, tfr_3, tfr_4, w_iv1, w_gf_13_11, tw_t, w_gf_13_3, w_if_ne, w_new, w64_r, true_and, and_true, Nat.reduceAdd, Nat.reduceSub, eq_self, tsh_0, tyk_13, tsh_77, tyk_8, tcq_8, tsh_5, tyk_11, tcq_13, tcq_11, tyk_4, tcq_4, tsh_113, tsh_650, tsh_499, tyk_27, tel_5, tyk_7, tcq_7, ci, cj]
  obtain ⟨w, w1, w2⟩ := k3.2.1.2.1 j (by omega)
  refine tc_i (D := 1) (fun d' hd' => z_cutDownTo (b := 0) cl_650 (cl_sh (s := j) (by omega)) (by omega) c1 w1 (RV_g v2) (RV_g w2) (by decide) k3.1.1 hd') (by omega) ?_
  rintro z5 M5 ⟨d1, d2, d3⟩
  have k5 := KA_tr k3.1.2 (KA_b k3.2 (by decide) d2)
  try simp only [kb_X11_meet_0, w_ald_0, w_ild_1, w_ild_2, w_ild_3, w_iv3, tfr_0, tfr_1, tfr_2, tfr_3, tfr_4, w_iv1, w_gf_13_11, tw_t, w_gf_13_3, w_if_ne, w_new, w64_r, true_and, and_true, Nat.reduceAdd, Nat.reduceSub, eq_self, tsh_0, tyk_13, tsh_77, tyk_8, tcq_8, tsh_5, tyk_11, tcq_13, tcq_11, tyk_4, tcq_4, tsh_113, tsh_650, tsh_499, tyk_27, tel_5, tyk_7, tcq_7, ci, cj]
  repeat refine And.intro (by omega) ?_
  refine ⟨fun q => ?_, fun _ => Or.inr ⟨_, rfl, rfl, k5⟩⟩
  have ord : (if v.1 < w.1 then w.1 else v.1) ≤ (if w.2 < v.2 then w.2 else v.2) := by
    rcases d3 with ⟨_, g⟩ | ⟨g, _⟩
    · exact g
    · exact absurd g q
  have gd : BXG M5 650 := ⟨(if v.1 < w.1 then w.1 else v.1, if w.2 < v.2 then w.2 else v.2), d1, GB_cu v2 w2 ord⟩
  refine tb_X11_meet_60 (c := true) ?_
  simp only [kb_X11_meet_60, w_ald_0, w_ild_1, w_gf_13_11, tw_t, w_iv2, tfr_0, tfr_1, tfr_2, tfr_3, tfr_4, w_ire, trg, w64_r, true_and, and_true, Nat.reduceAdd, Nat.reduceSub, eq_self, tsh_0, tyk_13, tsh_77, tyk_8, tcq_8, tsh_5, tyk_11, tcq_13, tcq_11, tyk_4, tcq_4, tsh_113, tsh_650, tsh_499, tyk_27, tel_5, tyk_7, tcq_7, ci, cj]
  refine tc_i (D := 3) (fun d' hd' => v_fill a1 cl_650 gd (by decide) k5.2 k5.1.1 hd') (by omega) ?_
  rintro z M6 ⟨p1, p2⟩
  try simp only [kb_X11_meet_60, w_ald_0, w_ild_1, w_gf_13_11, tw_t, w_iv2, tfr_0, tfr_1, tfr_2, tfr_3, tfr_4, w_ire, trg, w64_r, true_and, and_true, Nat.reduceAdd, Nat.reduceSub, eq_self, tsh_0, tyk_13, tsh_77, tyk_8, tcq_8, tsh_5, tyk_11, tcq_13, tcq_11, tyk_4, tcq_4, tsh_113, tsh_650, tsh_499, tyk_27, tel_5, tyk_7, tcq_7, ci, cj]
  exact ⟨by omega, Or.inl ⟨_, rfl, rfl, p1, KA_tr k5.1.2 p2⟩⟩
theorem tsh_530 : tsh 530 = 9 := by rw [tsh_def]; decide +kernel
theorem v_piece {x1 x2 : Int} (h1 : (-2147483648 ≤ x1 ∧ x1 ≤ 2147483647)) (h2 : (-2147483648 ≤ x2 ∧ x2 ≤ 2147483647)) (hK : KW M) (hC : CI M) (hd : 4 ≤ d) : tC e d 3379 [.inr (.inr (.inl 0)), .inl x1, .inl x2] M n (tQx n (tQi n (fun z M' => (0 ≤ z ∧ z ≤ 1) ∧ KA M M')) (fun _ M' => KA M M')) := by
  refine tst_X11_piece ?_
  refine tb_X11_piece_0 (c := true) ?_
  simp only [kb_X11_piece_0, w_ald_0, w_ild_1, w_iv1, tfr_0, tfr_1, tfr_2, tfr_3, tfr_4, w_ild_2, w_gf_13_7, tw_t, w_iv2, w_ire, trg, w64_r, true_and, and_true, Nat.reduceAdd, Nat.reduceSub, eq_self, tsh_0, tyk_13, tsh_77, tyk_8, tcq_8, tsh_5, tyk_11, tcq_13, tcq_11, tyk_4, tcq_4, tsh_113, tsh_650, tsh_499, tyk_27, tel_5, tyk_7, tcq_7, tsh_530, tyk_9, tcq_9]
  refine tz_xn (D := 0) (fun d' hd' => k_X11_checkShelf cl_0 h1 hd') hC (by omega) rfl ?_ (fun s q => Or.inr ⟨_, rfl, rfl, KA_refl hC hK⟩)
  intro a1
  try simp only [kb_X11_piece_0, w_ald_0, w_ild_1, w_iv1, tfr_0, tfr_1, tfr_2, tfr_3, tfr_4, w_ild_2, w_gf_13_7, tw_t, w_iv2, w_ire, trg, w64_r, true_and, and_true, Nat.reduceAdd, Nat.reduceSub, eq_self, tsh_0, tyk_13, tsh_77, tyk_8, tcq_8, tsh_5, tyk_11, tcq_13, tcq_11, tyk_4, tcq_4, tsh_113, tsh_650, tsh_499, tyk_27, tel_5, tyk_7, tcq_7, tsh_530, tyk_9, tcq_9]
  refine tz_xn (D := 0) (fun d' hd' => k_X11_checkPiece cl_0 h2 hd') hC (by omega) rfl ?_ (fun s q => Or.inr ⟨_, rfl, rfl, KA_refl hC hK⟩)
  intro a2
  obtain ⟨i, rfl⟩ : ∃ k : Nat, x2 = (k : Int) := ⟨x2.toNat, by omega⟩
  try simp only [kb_X11_piece_0, w_ald_0, w_ild_1, w_iv1, tfr_0, tfr_1, tfr_2, tfr_3, tfr_4, w_ild_2, w_gf_13_7, tw_t, w_iv2, w_ire, trg, w64_r, true_and, and_true, Nat.reduceAdd, Nat.reduceSub, eq_self, tsh_0, tyk_13, tsh_77, tyk_8, tcq_8, tsh_5, tyk_11, tcq_13, tcq_11, tyk_4, tcq_4, tsh_113, tsh_650, tsh_499, tyk_27, tel_5, tyk_7, tcq_7, tsh_530, tyk_9, tcq_9]
  refine tc_r (D := 1) (fun d' hd' => z_pbox (P := 530) (i := i) (Or.inl rfl) (by omega) hd') (by omega) ?_
  rintro y M2 ⟨rfl, rfl⟩
  have cf := (cl_pc (P := 530) (i := i) (Or.inl rfl) (by omega))
  have cfs := cf.1
  try simp only [kb_X11_piece_0, w_ald_0, w_ild_1, w_iv1, tfr_0, tfr_1, tfr_2, tfr_3, tfr_4, w_ild_2, w_gf_13_7, tw_t, w_iv2, w_ire, trg, w64_r, true_and, and_true, Nat.reduceAdd, Nat.reduceSub, eq_self, tsh_0, tyk_13, tsh_77, tyk_8, tcq_8, tsh_5, tyk_11, tcq_13, tcq_11, tyk_4, tcq_4, tsh_113, tsh_650, tsh_499, tyk_27, tel_5, tyk_7, tcq_7, tsh_530, tyk_9, tcq_9, cfs]
  refine tc_i (D := 3) (fun d' hd' => v_fill a1 cf (hK.2.1.2 i (by omega)) (by omega) hK hC hd') (by omega) ?_
  rintro z M6 ⟨p1, p2⟩
  try simp only [kb_X11_piece_0, w_ald_0, w_ild_1, w_iv1, tfr_0, tfr_1, tfr_2, tfr_3, tfr_4, w_ild_2, w_gf_13_7, tw_t, w_iv2, w_ire, trg, w64_r, true_and, and_true, Nat.reduceAdd, Nat.reduceSub, eq_self, tsh_0, tyk_13, tsh_77, tyk_8, tcq_8, tsh_5, tyk_11, tcq_13, tcq_11, tyk_4, tcq_4, tsh_113, tsh_650, tsh_499, tyk_27, tel_5, tyk_7, tcq_7, tsh_530, tyk_9, tcq_9, cfs]
  exact ⟨by omega, Or.inl ⟨_, rfl, rfl, p1, p2⟩⟩
theorem v_value {x1 x2 x3 x4 : Int} (h1 : (-2147483648 ≤ x1 ∧ x1 ≤ 2147483647)) (h2 : (-2147483648 ≤ x2 ∧ x2 ≤ 2147483647)) (h3 : (-2147483648 ≤ x3 ∧ x3 ≤ 2147483647)) (h4 : (-2147483648 ≤ x4 ∧ x4 ≤ 2147483647)) (he : EVr e) (hK : KW M) (hC : CI M) (hd : 10 ≤ d) : tC e d 3398 [.inr (.inr (.inl 0)), .inl x1, .inl x2, .inl x3, .inl x4] M n (tQx n (tQi n (fun z M' => (0 ≤ z ∧ z ≤ 1) ∧ KA M M')) (fun _ M' => KA M M')) := by
  refine tst_X11_value ?_
  refine tb_X11_value_0 (c := true) ?_
  simp only [kb_X11_value_0, w_ald_0, w_ild_1, w_ild_2, w_ild_3, w_ild4, w_iv4, tfr_0, tfr_1, tfr_2, tfr_3, tfr_4, w_gf_13_4, tw_t, w_gf_13_3, w_iv1, w_iv2, w_gf_13_5, w_aa, w_ire, trg, w64_r, true_and, and_true, Nat.reduceAdd, Nat.reduceSub, eq_self, tsh_0, tyk_13, tsh_77, tyk_8, tcq_8, tsh_5, tyk_11, tcq_13, tcq_11, tyk_4, tcq_4, tsh_113, tsh_650, tsh_499, tyk_27, tel_5, tyk_7, tcq_7, tsh_530, tyk_9, tcq_9]
  refine tc_xn (D := 3) (fun d' hd' => x_cfc h1 h2 h3 h4 hC hd') (by omega) rfl ?_ (fun s M' q => Or.inr ⟨_, rfl, rfl, by rw [q]; exact KA_refl hC hK⟩)
  rintro M1 ⟨⟨⟨a1, a2, a3, a4⟩, a5⟩, rfl⟩
  obtain ⟨i, rfl⟩ : ∃ k : Nat, x3 = (k : Int) := ⟨x3.toNat, by omega⟩
  obtain ⟨j, rfl⟩ : ∃ k : Nat, x4 = (k : Int) := ⟨x4.toNat, by omega⟩
  have hf0 := fm_cl hC a2
  have sf := hf0.1
  have hfm := FM_cl hf0
  have hfr := hfm
  unfold FMC at hfr
  have ci := (cl_sh (s := i) (by omega)).1
  have cj := (cl_sh (s := j) (by omega)).1
  try simp only [kb_X11_value_0, w_ald_0, w_ild_1, w_ild_2, w_ild_3, w_ild4, w_iv4, tfr_0, tfr_1, tfr_2, tfr_3, tfr_4, w_gf_13_4, tw_t, w_gf_13_3, w_iv1, w_iv2, w_gf_13_5, w_aa, w_ire, trg, w64_r, true_and, and_true, Nat.reduceAdd, Nat.reduceSub, eq_self, tsh_0, tyk_13, tsh_77, tyk_8, tcq_8, tsh_5, tyk_11, tcq_13, tcq_11, tyk_4, tcq_4, tsh_113, tsh_650, tsh_499, tyk_27, tel_5, tyk_7, tcq_7, tsh_530, tyk_9, tcq_9, sf, ci, cj]
  refine tc_r (D := 1) (fun d' hd' => z_box (s := i) (by omega) hd') (by omega) ?_
  rintro y M2 ⟨rfl, rfl⟩
  try simp only [kb_X11_value_0, w_ald_0, w_ild_1, w_ild_2, w_ild_3, w_ild4, w_iv4, tfr_0, tfr_1, tfr_2, tfr_3, tfr_4, w_gf_13_4, tw_t, w_gf_13_3, w_iv1, w_iv2, w_gf_13_5, w_aa, w_ire, trg, w64_r, true_and, and_true, Nat.reduceAdd, Nat.reduceSub, eq_self, tsh_0, tyk_13, tsh_77, tyk_8, tcq_8, tsh_5, tyk_11, tcq_13, tcq_11, tyk_4, tcq_4, tsh_113, tsh_650, tsh_499, tyk_27, tel_5, tyk_7, tcq_7, tsh_530, tyk_9, tcq_9, sf, ci, cj]
  refine tc_r (D := 1) (fun d' hd' => z_box (s := j) (by omega) hd') (by omega) ?_
  rintro y M3 ⟨rfl, rfl⟩
  try simp only [kb_X11_value_0, w_ald_0, w_ild_1, w_ild_2, w_ild_3, w_ild4, w_iv4, tfr_0, tfr_1, tfr_2, tfr_3, tfr_4, w_gf_13_4, tw_t, w_gf_13_3, w_iv1, w_iv2, w_gf_13_5, w_aa, w_ire, trg, w64_r, true_and, and_true, Nat.reduceAdd, Nat.reduceSub, eq_self, tsh_0, tyk_13, tsh_77, tyk_8, tcq_8, tsh_5, tyk_11, tcq_13, tcq_11, tyk_4, tcq_4, tsh_113, tsh_650, tsh_499, tyk_27, tel_5, tyk_7, tcq_7, tsh_530, tyk_9, tcq_9, sf, ci, cj]
  refine tc_n (D := 0) (fun d' hd' => z_aim (b := 0) (cl_sh (s := i) (by omega)) (cl_sh (s := j) (by omega)) (by decide) hC) (by omega) ?_
  rintro M4 ⟨⟨b1, b2, b3⟩, b4, b5⟩
  have k4 : KA M3 M4 := KA_f hK b4.1 b4.2 (RO_u hK.1.1.2 (b5 79 4 (by decide)) (b5 79 5 (by decide))) (fun k i g => b5 k i (by unfold KPC at g; omega))
  have e4 : M4 499 x2 = M3 499 x2 := b5 499 x2 (by decide)
  try simp only [kb_X11_value_0, w_ald_0, w_ild_1, w_ild_2, w_ild_3, w_ild4, w_iv4, tfr_0, tfr_1, tfr_2, tfr_3, tfr_4, w_gf_13_4, tw_t, w_gf_13_3, w_iv1, w_iv2, w_gf_13_5, w_aa, w_ire, trg, w64_r, true_and, and_true, Nat.reduceAdd, Nat.reduceSub, eq_self, tsh_0, tyk_13, tsh_77, tyk_8, tcq_8, tsh_5, tyk_11, tcq_13, tcq_11, tyk_4, tcq_4, tsh_113, tsh_650, tsh_499, tyk_27, tel_5, tyk_7, tcq_7, tsh_530, tyk_9, tcq_9, sf, ci, cj, e4]
  repeat refine And.intro (by omega) ?_
  have df : M4 (M3 499 x2).toNat 6 = 1 := (b5 _ 6 (by omega)).trans a5
  obtain ⟨c, hc⟩ := k4.2.1.2.2 _ hfm df
  obtain ⟨v, hv⟩ := k4.2.1.2.1 i (by omega)
  obtain ⟨w, hw⟩ := k4.2.1.2.1 j (by omega)
  try simp only [kb_X11_value_0, w_ald_0, w_ild_1, w_ild_2, w_ild_3, w_ild4, w_iv4, tfr_0, tfr_1, tfr_2, tfr_3, tfr_4, w_gf_13_4, tw_t, w_gf_13_3, w_iv1, w_iv2, w_gf_13_5, w_aa, w_ire, trg, w64_r, true_and, and_true, Nat.reduceAdd, Nat.reduceSub, eq_self, tsh_0, tyk_13, tsh_77, tyk_8, tcq_8, tsh_5, tyk_11, tcq_13, tcq_11, tyk_4, tcq_4, tsh_113, tsh_650, tsh_499, tyk_27, tel_5, tyk_7, tcq_7, tsh_530, tyk_9, tcq_9, sf, ci, cj, e4]
  refine tc_i (D := 8) (fun d' hd' => z_makeValue (b := 0) hfm hc ⟨b1, cl_sh (s := i) (by omega), Or.inl (by omega)⟩ ⟨b2, cl_sh (s := j) (by omega), Or.inl (by omega)⟩ hv hw (KU k4.2 k4.1.1) he k4.2.1.1.2 (by decide) k4.1.1 hd') (by omega) ?_
  rintro z M6 ⟨f1, f2, f3, f4⟩
  have k6 := KA_p k4 f4 f3
  try simp only [kb_X11_value_0, w_ald_0, w_ild_1, w_ild_2, w_ild_3, w_ild4, w_iv4, tfr_0, tfr_1, tfr_2, tfr_3, tfr_4, w_gf_13_4, tw_t, w_gf_13_3, w_iv1, w_iv2, w_gf_13_5, w_aa, w_ire, trg, w64_r, true_and, and_true, Nat.reduceAdd, Nat.reduceSub, eq_self, tsh_0, tyk_13, tsh_77, tyk_8, tcq_8, tsh_5, tyk_11, tcq_13, tcq_11, tyk_4, tcq_4, tsh_113, tsh_650, tsh_499, tyk_27, tel_5, tyk_7, tcq_7, tsh_530, tyk_9, tcq_9, sf, ci, cj, e4]
  refine tc_xi (D := 5) (fun d' hd' => v_become a1 f1 (fun q => by
    obtain ⟨B', g1, g2⟩ := f2 q
    exact ⟨B', g2⟩) k6.2 k6.1.1 hd') (by omega) rfl ?_ (fun s M' q => Or.inr ⟨_, rfl, rfl, KA_tr k6.1.2 q⟩)
  rintro z2 M7 ⟨p1, p2⟩
  try simp only [kb_X11_value_0, w_ald_0, w_ild_1, w_ild_2, w_ild_3, w_ild4, w_iv4, tfr_0, tfr_1, tfr_2, tfr_3, tfr_4, w_gf_13_4, tw_t, w_gf_13_3, w_iv1, w_iv2, w_gf_13_5, w_aa, w_ire, trg, w64_r, true_and, and_true, Nat.reduceAdd, Nat.reduceSub, eq_self, tsh_0, tyk_13, tsh_77, tyk_8, tcq_8, tsh_5, tyk_11, tcq_13, tcq_11, tyk_4, tcq_4, tsh_113, tsh_650, tsh_499, tyk_27, tel_5, tyk_7, tcq_7, tsh_530, tyk_9, tcq_9, sf, ci, cj, e4]
  exact ⟨by omega, Or.inl ⟨_, rfl, rfl, p1, KA_tr k6.1.2 p2⟩⟩
end HAND
