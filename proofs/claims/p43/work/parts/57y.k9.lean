/-! WHAT HOLDS BETWEEN CALLS: kept by solve and area. -/
section HAND
variable {e : tE} {d n : Nat} {M : tM}
theorem v_crossed {a b c f m : Nat} {B : Nat → Int × Int} (ha : a < 10) (hb : b < 10) (hc : c < 10) (hf : f < 10) (hm : m ≤ 100) (hs : SK M m B) (he : EVr e) (hK : KW M) (hC : CI M) (hd : 8 ≤ d) : tC e d 3351 [.inr (.inr (.inl 0)), .inl (a : Int), .inl (b : Int), .inl (c : Int), .inl (f : Int)] M n (tQi n (fun z M' => (0 ≤ z ∧ z ≤ 2) ∧ KA M M' ∧ (z = 0 → ∃ B' : Nat → Int × Int, SK M' (m + 1) B'))) := by
  have sa := (cl_sh ha).1
  have sb := (cl_sh hb).1
  have sc := (cl_sh hc).1
  have sf := (cl_sh hf).1
  refine tst_X11_crossed ?_
  refine tb_X11_crossed_0 (c := true) ?_
  simp only [kb_X11_crossed_0, w_ald_0, w_gf_13_4, tw_t, w_gf_13_3, w_ild_1, w_iv1, tfr_0, tfr_1, tfr_2, tfr_3, tfr_4, w_ild_2, w_bi, w_lc0, w_ic, w_iv3, w_ist5, tkl_n, tkl_i, tkl_l, tkl_r, w_ild5, w_if_eq, w_ire, trg, w64_r, true_and, and_true, Nat.reduceAdd, Nat.reduceSub, eq_self, tsh_0, tyk_13, tcq_13, tsh_77, tyk_8, tcq_8, tyk_4, tcq_4, tsh_113, tsh_650, tsh_653, tsh_656, tsh_5, tyk_11, tcq_11, sa, sb]
  refine tc_r (D := 1) (fun d' hd' => z_box ha hd') (by omega) ?_
  rintro y M1 ⟨rfl, rfl⟩
  try simp only [kb_X11_crossed_0, w_ald_0, w_gf_13_4, tw_t, w_gf_13_3, w_ild_1, w_iv1, tfr_0, tfr_1, tfr_2, tfr_3, tfr_4, w_ild_2, w_bi, w_lc0, w_ic, w_iv3, w_ist5, tkl_n, tkl_i, tkl_l, tkl_r, w_ild5, w_if_eq, w_ire, trg, w64_r, true_and, and_true, Nat.reduceAdd, Nat.reduceSub, eq_self, tsh_0, tyk_13, tcq_13, tsh_77, tyk_8, tcq_8, tyk_4, tcq_4, tsh_113, tsh_650, tsh_653, tsh_656, tsh_5, tyk_11, tcq_11, sa, sb]
  obtain ⟨v, hv⟩ := hK.1.2.1 a ha
  refine tc_n (D := 2) (fun d' hd' => v_push (by omega) hs (cl_sh ha) (by omega) hv hK hC hd') (by omega) ?_
  rintro M2 ⟨⟨B2, s2⟩, k2, m2⟩
  try simp only [kb_X11_crossed_0, w_ald_0, w_gf_13_4, tw_t, w_gf_13_3, w_ild_1, w_iv1, tfr_0, tfr_1, tfr_2, tfr_3, tfr_4, w_ild_2, w_bi, w_lc0, w_ic, w_iv3, w_ist5, tkl_n, tkl_i, tkl_l, tkl_r, w_ild5, w_if_eq, w_ire, trg, w64_r, true_and, and_true, Nat.reduceAdd, Nat.reduceSub, eq_self, tsh_0, tyk_13, tcq_13, tsh_77, tyk_8, tcq_8, tyk_4, tcq_4, tsh_113, tsh_650, tsh_653, tsh_656, tsh_5, tyk_11, tcq_11, sa, sb]
  refine tc_r (D := 1) (fun d' hd' => z_box hb hd') (by omega) ?_
  rintro y M3 ⟨rfl, rfl⟩
  try simp only [kb_X11_crossed_0, w_ald_0, w_gf_13_4, tw_t, w_gf_13_3, w_ild_1, w_iv1, tfr_0, tfr_1, tfr_2, tfr_3, tfr_4, w_ild_2, w_bi, w_lc0, w_ic, w_iv3, w_ist5, tkl_n, tkl_i, tkl_l, tkl_r, w_ild5, w_if_eq, w_ire, trg, w64_r, true_and, and_true, Nat.reduceAdd, Nat.reduceSub, eq_self, tsh_0, tyk_13, tcq_13, tsh_77, tyk_8, tcq_8, tyk_4, tcq_4, tsh_113, tsh_650, tsh_653, tsh_656, tsh_5, tyk_11, tcq_11, sa, sb]
  obtain ⟨v2, hv2⟩ := k2.2.1.2.1 b hb
  refine tc_n (D := 2) (fun d' hd' => v_push (by omega) s2 (cl_sh hb) (by omega) hv2 k2.2 k2.1.1 hd') (by omega) ?_
  rintro M4 ⟨⟨B4, s4⟩, k4, m4⟩
  have kk4 := KA_tr k2.1.2 k4
  try simp only [kb_X11_crossed_0, w_ald_0, w_gf_13_4, tw_t, w_gf_13_3, w_ild_1, w_iv1, tfr_0, tfr_1, tfr_2, tfr_3, tfr_4, w_ild_2, w_bi, w_lc0, w_ic, w_iv3, w_ist5, tkl_n, tkl_i, tkl_l, tkl_r, w_ild5, w_if_eq, w_ire, trg, w64_r, true_and, and_true, Nat.reduceAdd, Nat.reduceSub, eq_self, tsh_0, tyk_13, tcq_13, tsh_77, tyk_8, tcq_8, tyk_4, tcq_4, tsh_113, tsh_650, tsh_653, tsh_656, tsh_5, tyk_11, tcq_11, sa, sb]
  refine tc_i (D := 7) (fun d' hd' => v_pair (by decide) (by omega) s4 he kk4.2 kk4.1.1 hd') (by omega) ?_
  rintro z5 M5 ⟨hz5, k5, m5, v5⟩
  have kk5 := KA_tr kk4.1.2 k5
  try simp only [kb_X11_crossed_0, w_ald_0, w_gf_13_4, tw_t, w_gf_13_3, w_ild_1, w_iv1, tfr_0, tfr_1, tfr_2, tfr_3, tfr_4, w_ild_2, w_bi, w_lc0, w_ic, w_iv3, w_ist5, tkl_n, tkl_i, tkl_l, tkl_r, w_ild5, w_if_eq, w_ire, trg, w64_r, true_and, and_true, Nat.reduceAdd, Nat.reduceSub, eq_self, tsh_0, tyk_13, tcq_13, tsh_77, tyk_8, tcq_8, tyk_4, tcq_4, tsh_113, tsh_650, tsh_653, tsh_656, tsh_5, tyk_11, tcq_11, sa, sb]
  repeat refine And.intro (by omega) ?_
  refine ⟨fun q => ?_, fun q => ⟨_, rfl, rfl, hz5, kk5, fun q2 => absurd q2 (by omega)⟩⟩
  obtain ⟨B5, s5⟩ := v5 (by omega)
  rw [show m + 1 + 1 - 1 = m + 1 by omega] at s5
  refine tb_X11_crossed_51 (c := true) ?_
  simp only [kb_X11_crossed_51, w_ald_0, w_gf_13_4, tw_t, w_gf_13_3, w_ild_3, w_iv1, tfr_0, tfr_1, tfr_2, tfr_3, tfr_4, w_ild4, w_bi, w_lc0, w_ic, w_iv3, w_ist5, tkl_n, tkl_i, tkl_l, tkl_r, w_ild5, w_if_eq, w_ire, trg, w64_r, true_and, and_true, Nat.reduceAdd, Nat.reduceSub, eq_self, tsh_0, tyk_13, tcq_13, tsh_77, tyk_8, tcq_8, tyk_4, tcq_4, tsh_113, tsh_650, tsh_653, tsh_656, tsh_5, tyk_11, tcq_11, sc, sf]
  refine tc_r (D := 1) (fun d' hd' => z_box hc hd') (by omega) ?_
  rintro y M6 ⟨rfl, rfl⟩
  try simp only [kb_X11_crossed_51, w_ald_0, w_gf_13_4, tw_t, w_gf_13_3, w_ild_3, w_iv1, tfr_0, tfr_1, tfr_2, tfr_3, tfr_4, w_ild4, w_bi, w_lc0, w_ic, w_iv3, w_ist5, tkl_n, tkl_i, tkl_l, tkl_r, w_ild5, w_if_eq, w_ire, trg, w64_r, true_and, and_true, Nat.reduceAdd, Nat.reduceSub, eq_self, tsh_0, tyk_13, tcq_13, tsh_77, tyk_8, tcq_8, tyk_4, tcq_4, tsh_113, tsh_650, tsh_653, tsh_656, tsh_5, tyk_11, tcq_11, sc, sf]
  obtain ⟨v6, hv6⟩ := kk5.2.1.2.1 c hc
  refine tc_n (D := 2) (fun d' hd' => v_push (by omega) s5 (cl_sh hc) (by omega) hv6 kk5.2 kk5.1.1 hd') (by omega) ?_
  rintro M7 ⟨⟨B7, s7⟩, k7, m7⟩
  have kk7 := KA_tr kk5.1.2 k7
  try simp only [kb_X11_crossed_51, w_ald_0, w_gf_13_4, tw_t, w_gf_13_3, w_ild_3, w_iv1, tfr_0, tfr_1, tfr_2, tfr_3, tfr_4, w_ild4, w_bi, w_lc0, w_ic, w_iv3, w_ist5, tkl_n, tkl_i, tkl_l, tkl_r, w_ild5, w_if_eq, w_ire, trg, w64_r, true_and, and_true, Nat.reduceAdd, Nat.reduceSub, eq_self, tsh_0, tyk_13, tcq_13, tsh_77, tyk_8, tcq_8, tyk_4, tcq_4, tsh_113, tsh_650, tsh_653, tsh_656, tsh_5, tyk_11, tcq_11, sc, sf]
  refine tc_r (D := 1) (fun d' hd' => z_box hf hd') (by omega) ?_
  rintro y M8 ⟨rfl, rfl⟩
  try simp only [kb_X11_crossed_51, w_ald_0, w_gf_13_4, tw_t, w_gf_13_3, w_ild_3, w_iv1, tfr_0, tfr_1, tfr_2, tfr_3, tfr_4, w_ild4, w_bi, w_lc0, w_ic, w_iv3, w_ist5, tkl_n, tkl_i, tkl_l, tkl_r, w_ild5, w_if_eq, w_ire, trg, w64_r, true_and, and_true, Nat.reduceAdd, Nat.reduceSub, eq_self, tsh_0, tyk_13, tcq_13, tsh_77, tyk_8, tcq_8, tyk_4, tcq_4, tsh_113, tsh_650, tsh_653, tsh_656, tsh_5, tyk_11, tcq_11, sc, sf]
  obtain ⟨v8, hv8⟩ := kk7.2.1.2.1 f hf
  refine tc_n (D := 2) (fun d' hd' => v_push (by omega) s7 (cl_sh hf) (by omega) hv8 kk7.2 kk7.1.1 hd') (by omega) ?_
  rintro M9 ⟨⟨B9, s9⟩, k9, m9⟩
  have kk9 := KA_tr kk7.1.2 k9
  try simp only [kb_X11_crossed_51, w_ald_0, w_gf_13_4, tw_t, w_gf_13_3, w_ild_3, w_iv1, tfr_0, tfr_1, tfr_2, tfr_3, tfr_4, w_ild4, w_bi, w_lc0, w_ic, w_iv3, w_ist5, tkl_n, tkl_i, tkl_l, tkl_r, w_ild5, w_if_eq, w_ire, trg, w64_r, true_and, and_true, Nat.reduceAdd, Nat.reduceSub, eq_self, tsh_0, tyk_13, tcq_13, tsh_77, tyk_8, tcq_8, tyk_4, tcq_4, tsh_113, tsh_650, tsh_653, tsh_656, tsh_5, tyk_11, tcq_11, sc, sf]
  refine tc_i (D := 7) (fun d' hd' => v_pair (by decide) (by omega) s9 he kk9.2 kk9.1.1 hd') (by omega) ?_
  rintro z10 M10 ⟨hz10, k10, m10, v10⟩
  have kk10 := KA_tr kk9.1.2 k10
  try simp only [kb_X11_crossed_51, w_ald_0, w_gf_13_4, tw_t, w_gf_13_3, w_ild_3, w_iv1, tfr_0, tfr_1, tfr_2, tfr_3, tfr_4, w_ild4, w_bi, w_lc0, w_ic, w_iv3, w_ist5, tkl_n, tkl_i, tkl_l, tkl_r, w_ild5, w_if_eq, w_ire, trg, w64_r, true_and, and_true, Nat.reduceAdd, Nat.reduceSub, eq_self, tsh_0, tyk_13, tcq_13, tsh_77, tyk_8, tcq_8, tyk_4, tcq_4, tsh_113, tsh_650, tsh_653, tsh_656, tsh_5, tyk_11, tcq_11, sc, sf]
  repeat refine And.intro (by omega) ?_
  refine ⟨fun q => ?_, fun q => ⟨_, rfl, rfl, hz10, kk10, fun q2 => absurd q2 (by omega)⟩⟩
  obtain ⟨B10, s10⟩ := v10 (by omega)
  rw [show m + 1 + 1 + 1 - 1 = m + 1 + 1 by omega] at s10
  refine tb_X11_crossed_103 (c := true) ?_
  simp only [kb_X11_crossed_103, w_ald_0, w_gf_13_4, tw_t, w_bi, w_lc0, w_ic, w_iv3, tfr_0, tfr_1, tfr_2, tfr_3, tfr_4, w_ire, trg, w64_r, true_and, and_true, Nat.reduceAdd, Nat.reduceSub, eq_self, tsh_0, tyk_13, tcq_13, tsh_77, tyk_8, tcq_8, tyk_4, tcq_4, tsh_113, tsh_650, tsh_653, tsh_656, tsh_5, tyk_11, tcq_11]
  refine tc_i (D := 7) (fun d' hd' => v_pair (by decide) (by omega) s10 he kk10.2 kk10.1.1 hd') (by omega) ?_
  rintro z11 M11 ⟨hz11, k11, m11, v11⟩
  try simp only [kb_X11_crossed_103, w_ald_0, w_gf_13_4, tw_t, w_bi, w_lc0, w_ic, w_iv3, tfr_0, tfr_1, tfr_2, tfr_3, tfr_4, w_ire, trg, w64_r, true_and, and_true, Nat.reduceAdd, Nat.reduceSub, eq_self, tsh_0, tyk_13, tcq_13, tsh_77, tyk_8, tcq_8, tyk_4, tcq_4, tsh_113, tsh_650, tsh_653, tsh_656, tsh_5, tyk_11, tcq_11]
  exact ⟨_, rfl, rfl, hz11, KA_tr kk10.1.2 k11, v11⟩
theorem v_solve {x1 x2 x3 : Int} (h1 : (-2147483648 ≤ x1 ∧ x1 ≤ 2147483647)) (h2 : (-2147483648 ≤ x2 ∧ x2 ≤ 2147483647)) (h3 : 0 ≤ x3 ∧ x3 ≤ 1) (he : EVr e) (hK : KW M) (hC : CI M) (hd : 10 ≤ d) : tC e d 3390 [.inr (.inr (.inl 0)), .inl x1, .inl x2, .inl x3] M n (tQx n (tQi n (fun z M' => (0 ≤ z ∧ z ≤ 1) ∧ KA M M')) (fun _ M' => KA M M')) := by
  refine tst_X11_solve ?_
  refine tb_X11_solve_0 (c := true) ?_
  simp only [kb_X11_solve_0, w_ald_0, w_ild_1, w_iv1, tfr_0, tfr_1, tfr_2, tfr_3, tfr_4, w_ild_2, w_if_lt, w_ic, w_ic_le, w_nil, w64_r, true_and, and_true, Nat.reduceAdd, Nat.reduceSub, eq_self, tsh_0, tyk_13, tcq_13, tsh_77, tyk_8, tcq_8, tyk_4, tcq_4, tsh_113, tsh_650, tsh_653, tsh_656, tsh_5, tyk_11, tcq_11]
  refine tz_xn (D := 0) (fun d' hd' => k_X11_checkShelf cl_0 h1 hd') hC (by omega) rfl ?_ (fun s q => Or.inr ⟨_, rfl, rfl, KA_refl hC hK⟩)
  intro a1
  try simp only [kb_X11_solve_0, w_ald_0, w_ild_1, w_iv1, tfr_0, tfr_1, tfr_2, tfr_3, tfr_4, w_ild_2, w_if_lt, w_ic, w_ic_le, w_nil, w64_r, true_and, and_true, Nat.reduceAdd, Nat.reduceSub, eq_self, tsh_0, tyk_13, tcq_13, tsh_77, tyk_8, tcq_8, tyk_4, tcq_4, tsh_113, tsh_650, tsh_653, tsh_656, tsh_5, tyk_11, tcq_11]
  have n14 : tT e d 3390 14 [some (.inr (.inr (.inl (0)))), some (.inl (x1)), some (.inl (x2)), some (.inl (x3)), none] [] M n (tQx n (tQi n (fun z M' => (0 ≤ z ∧ z ≤ 1) ∧ KA M M')) (fun _ M' => KA M M')) := by
    refine tb_X11_solve_14 (c := true) ?_
    simp only [kb_X11_solve_14, w_new, w64_r, true_and, and_true, Nat.reduceAdd, Nat.reduceSub, eq_self]
    exact Or.inr ⟨_, rfl, rfl, KA_refl hC hK⟩
  repeat refine And.intro (by omega) ?_
  refine ⟨fun _ => n14, fun g => ?_⟩
  repeat refine And.intro (by omega) ?_
  refine ⟨fun g2 => ?_, fun _ => n14⟩
  obtain ⟨s, rfl⟩ : ∃ k : Nat, x2 = (k : Int) := ⟨x2.toNat, by omega⟩
  have n133 : ∀ (N : tM) (z : Int), (0 ≤ z ∧ z ≤ 2) → KA M N → (z = 0 → ∃ B' : Nat → Int × Int, SK N 1 B') → tT e d 3390 133 [some (.inr (.inr (.inl (0)))), some (.inl (x1)), some (.inl ((s : Int))), some (.inl (x3)), some (.inl (z))] [] N n (tQx n (tQi n (fun z M' => (0 ≤ z ∧ z ≤ 1) ∧ KA M M')) (fun _ M' => KA M M')) := by
    intro N z hz kN sN
    refine tb_X11_solve_133 (c := true) ?_
    simp only [kb_X11_solve_133, w_ald_0, w_ild_1, w_ild4, w_iv2, tfr_0, tfr_1, tfr_2, tfr_3, tfr_4, w_ire, trg, w64_r, true_and, and_true, Nat.reduceAdd, Nat.reduceSub, eq_self, tsh_0, tyk_13, tcq_13, tsh_77, tyk_8, tcq_8, tyk_4, tcq_4, tsh_113, tsh_650, tsh_653, tsh_656, tsh_5, tyk_11, tcq_11]
    refine tc_xi (D := 5) (fun d' hd' => v_become a1 hz sN kN.2 kN.1.1 hd') (by omega) rfl ?_ (fun s M' q => Or.inr ⟨_, rfl, rfl, KA_tr kN.1.2 q⟩)
    rintro z2 M7 ⟨p1, p2⟩
    try simp only [kb_X11_solve_133, w_ald_0, w_ild_1, w_ild4, w_iv2, tfr_0, tfr_1, tfr_2, tfr_3, tfr_4, w_ire, trg, w64_r, true_and, and_true, Nat.reduceAdd, Nat.reduceSub, eq_self, tsh_0, tyk_13, tcq_13, tsh_77, tyk_8, tcq_8, tyk_4, tcq_4, tsh_113, tsh_650, tsh_653, tsh_656, tsh_5, tyk_11, tcq_11]
    exact ⟨by omega, Or.inl ⟨_, rfl, rfl, p1, KA_tr kN.1.2 p2⟩⟩
  have n115 : ∀ (N : tM) (z : Int), (0 ≤ z ∧ z ≤ 2) → KA M N → (z = 0 → ∃ B' : Nat → Int × Int, SK N 2 B') → tT e d 3390 115 [some (.inr (.inr (.inl (0)))), some (.inl (x1)), some (.inl ((s : Int))), some (.inl (x3)), some (.inl (z))] [] N n (tQx n (tQi n (fun z M' => (0 ≤ z ∧ z ≤ 1) ∧ KA M M')) (fun _ M' => KA M M')) := by
    intro N z hz kN sN
    refine tb_X11_solve_115 (c := true) ?_
    simp only [kb_X11_solve_115, w_ild4, w_if_ne, w_ald_0, w_gf_13_4, tw_t, w_bi, w_lc0, w_ic, w_iv3, tfr_0, tfr_1, tfr_2, tfr_3, tfr_4, w_ist4, tkl_n, tkl_i, tkl_l, tkl_r, w_nil, w64_r, true_and, and_true, Nat.reduceAdd, Nat.reduceSub, eq_self, tsh_0, tyk_13, tcq_13, tsh_77, tyk_8, tcq_8, tyk_4, tcq_4, tsh_113, tsh_650, tsh_653, tsh_656, tsh_5, tyk_11, tcq_11]
    repeat refine And.intro (by omega) ?_
    refine ⟨fun q => n133 N z hz kN (fun q2 => absurd q2 (by omega)), fun q => ?_⟩
    obtain ⟨B, sB⟩ := sN (by omega)
    refine tc_i (D := 7) (fun d' hd' => v_pair (by decide) (by decide) sB he kN.2 kN.1.1 hd') (by omega) ?_
    rintro z2 M2 ⟨hz2, k2, m2, v2⟩
    try simp only [kb_X11_solve_115, w_ild4, w_if_ne, w_ald_0, w_gf_13_4, tw_t, w_bi, w_lc0, w_ic, w_iv3, tfr_0, tfr_1, tfr_2, tfr_3, tfr_4, w_ist4, tkl_n, tkl_i, tkl_l, tkl_r, w_nil, w64_r, true_and, and_true, Nat.reduceAdd, Nat.reduceSub, eq_self, tsh_0, tyk_13, tcq_13, tsh_77, tyk_8, tcq_8, tyk_4, tcq_4, tsh_113, tsh_650, tsh_653, tsh_656, tsh_5, tyk_11, tcq_11]
    repeat refine And.intro (by omega) ?_
    exact n133 M2 z2 hz2 (KA_tr kN.1.2 k2) v2
  have n92 : ∀ (N : tM) (z : Int) (w : Option tV), (0 ≤ z ∧ z ≤ 2) → KA M N → (z = 0 → ∃ B' : Nat → Int × Int, SK N 1 B') → tT e d 3390 92 [some (.inr (.inr (.inl (0)))), some (.inl (x1)), some (.inl ((s : Int))), some (.inl (x3)), w] [.inl z] N n (tQx n (tQi n (fun z M' => (0 ≤ z ∧ z ≤ 1) ∧ KA M M')) (fun _ M' => KA M M')) := by
    intro N z w hz kN sN
    refine tb_X11_solve_92 (c := true) ?_
    simp only [kb_X11_solve_92, w_ist4, tkl_n, tkl_i, tkl_l, tkl_r, w_ild4, w_if_ne, w_ald_0, w_ild_2, w_ic, w_iadd, w_iv4, tfr_0, tfr_1, tfr_2, tfr_3, tfr_4, w_nil, w64_r, true_and, and_true, Nat.reduceAdd, Nat.reduceSub, eq_self, tsh_0, tyk_13, tcq_13, tsh_77, tyk_8, tcq_8, tyk_4, tcq_4, tsh_113, tsh_650, tsh_653, tsh_656, tsh_5, tyk_11, tcq_11]
    repeat refine And.intro (by omega) ?_
    refine ⟨fun q => n115 N z hz kN (fun q2 => absurd q2 (by omega)), fun q => ?_⟩
    obtain ⟨B, sB⟩ := sN (by omega)
    rw [show (s : Int) + 4 = ((s + 4 : Nat) : Int) by omega, show (s : Int) + 1 = ((s + 1 : Nat) : Int) by omega, show (s : Int) + 3 = ((s + 3 : Nat) : Int) by omega]
    repeat refine And.intro (by omega) ?_
    refine tc_i (D := 8) (fun d' hd' => v_crossed (by omega) (by omega) (by omega) (by omega) (by decide) sB he kN.2 kN.1.1 hd') (by omega) ?_
    rintro z2 M2 ⟨hz2, k2, v2⟩
    try simp only [kb_X11_solve_92, w_ist4, tkl_n, tkl_i, tkl_l, tkl_r, w_ild4, w_if_ne, w_ald_0, w_ild_2, w_ic, w_iadd, w_iv4, tfr_0, tfr_1, tfr_2, tfr_3, tfr_4, w_nil, w64_r, true_and, and_true, Nat.reduceAdd, Nat.reduceSub, eq_self, tsh_0, tyk_13, tcq_13, tsh_77, tyk_8, tcq_8, tyk_4, tcq_4, tsh_113, tsh_650, tsh_653, tsh_656, tsh_5, tyk_11, tcq_11]
    repeat refine And.intro (by omega) ?_
    exact n115 M2 z2 hz2 (KA_tr kN.1.2 k2) v2
  have n48 : ∀ (w : Option tV), tT e d 3390 48 [some (.inr (.inr (.inl (0)))), some (.inl (x1)), some (.inl ((s : Int))), some (.inl (x3)), w] [] M n (tQx n (tQi n (fun z M' => (0 ≤ z ∧ z ≤ 1) ∧ KA M M')) (fun _ M' => KA M M')) := by
    intro w
    refine tb_X11_solve_48 (c := true) ?_
    simp only [kb_X11_solve_48, w_ald_0, w_gf_13_4, tw_t, w_iv0, tfr_0, tfr_1, tfr_2, tfr_3, tfr_4, w_ild_3, w_if_eq, w_ild_2, w_ic, w_iadd, w_iv4, w_goto, w64_r, true_and, and_true, Nat.reduceAdd, Nat.reduceSub, eq_self, tsh_0, tyk_13, tcq_13, tsh_77, tyk_8, tcq_8, tyk_4, tcq_4, tsh_113, tsh_650, tsh_653, tsh_656, tsh_5, tyk_11, tcq_11]
    refine tc_n (D := 0) (fun d' hd' => v_clear hK hC) (by omega) ?_
    rintro M1 ⟨s1, k1, m1⟩
    try simp only [kb_X11_solve_48, w_ald_0, w_gf_13_4, tw_t, w_iv0, tfr_0, tfr_1, tfr_2, tfr_3, tfr_4, w_ild_3, w_if_eq, w_ild_2, w_ic, w_iadd, w_iv4, w_goto, w64_r, true_and, and_true, Nat.reduceAdd, Nat.reduceSub, eq_self, tsh_0, tyk_13, tcq_13, tsh_77, tyk_8, tcq_8, tyk_4, tcq_4, tsh_113, tsh_650, tsh_653, tsh_656, tsh_5, tyk_11, tcq_11]
    repeat refine And.intro (by omega) ?_
    refine ⟨fun q => ?_, fun q => ?_⟩
    · refine tb_X11_solve_76 (c := true) ?_
      simp only [kb_X11_solve_76, w_ald_0, w_ild_2, w_ic, w_iadd, w_iv4, tfr_0, tfr_1, tfr_2, tfr_3, tfr_4, w_nil, w64_r, true_and, and_true, Nat.reduceAdd, Nat.reduceSub, eq_self, tsh_0, tyk_13, tcq_13, tsh_77, tyk_8, tcq_8, tyk_4, tcq_4, tsh_113, tsh_650, tsh_653, tsh_656, tsh_5, tyk_11, tcq_11]
      rw [show (s : Int) + 2 = ((s + 2 : Nat) : Int) by omega, show (s : Int) + 4 = ((s + 4 : Nat) : Int) by omega, show (s : Int) + 1 = ((s + 1 : Nat) : Int) by omega, show (s : Int) + 5 = ((s + 5 : Nat) : Int) by omega]
      repeat refine And.intro (by omega) ?_
      refine tc_i (D := 8) (fun d' hd' => v_crossed (by omega) (by omega) (by omega) (by omega) (by decide) s1 he k1.2 k1.1.1 hd') (by omega) ?_
      rintro z2 M2 ⟨hz2, k2, v2⟩
      try simp only [kb_X11_solve_76, w_ald_0, w_ild_2, w_ic, w_iadd, w_iv4, tfr_0, tfr_1, tfr_2, tfr_3, tfr_4, w_nil, w64_r, true_and, and_true, Nat.reduceAdd, Nat.reduceSub, eq_self, tsh_0, tyk_13, tcq_13, tsh_77, tyk_8, tcq_8, tyk_4, tcq_4, tsh_113, tsh_650, tsh_653, tsh_656, tsh_5, tyk_11, tcq_11]
      exact n92 M2 z2 _ hz2 (KA_tr k1.1.2 k2) v2
    · rw [show (s : Int) + 5 = ((s + 5 : Nat) : Int) by omega, show (s : Int) + 2 = ((s + 2 : Nat) : Int) by omega, show (s : Int) + 3 = ((s + 3 : Nat) : Int) by omega]
      repeat refine And.intro (by omega) ?_
      refine tc_i (D := 8) (fun d' hd' => v_crossed (by omega) (by omega) (by omega) (by omega) (by decide) s1 he k1.2 k1.1.1 hd') (by omega) ?_
      rintro z2 M2 ⟨hz2, k2, v2⟩
      try simp only [kb_X11_solve_48, w_ald_0, w_gf_13_4, tw_t, w_iv0, tfr_0, tfr_1, tfr_2, tfr_3, tfr_4, w_ild_3, w_if_eq, w_ild_2, w_ic, w_iadd, w_iv4, w_goto, w64_r, true_and, and_true, Nat.reduceAdd, Nat.reduceSub, eq_self, tsh_0, tyk_13, tcq_13, tsh_77, tyk_8, tcq_8, tyk_4, tcq_4, tsh_113, tsh_650, tsh_653, tsh_656, tsh_5, tyk_11, tcq_11]
      exact n92 M2 z2 _ hz2 (KA_tr k1.1.2 k2) v2
  have nl : ∀ (fu : Nat) (i : Nat), 6 - i = fu → i ≤ 6 → tT e d 3390 27 [some (.inr (.inr (.inl (0)))), some (.inl (x1)), some (.inl ((s : Int))), some (.inl (x3)), some (.inl ((i : Int)))] [] M n (tQx n (tQi n (fun z M' => (0 ≤ z ∧ z ≤ 1) ∧ KA M M')) (fun _ M' => KA M M')) := by
    intro fu
    induction fu with
    | zero =>
      intro i hf hi
      refine tb_X11_solve_27 (c := true) ?_
      simp only [kb_X11_solve_27, w_ild4, w_bi, w_ic_ge, w_ald_0, w_ild_2, w_iadd, w_iv1, tfr_0, tfr_1, tfr_2, tfr_3, tfr_4, w_inc4, tkl_n, tkl_i, tkl_l, tkl_r, w_goto, w64_r, true_and, and_true, Nat.reduceAdd, Nat.reduceSub, eq_self, tsh_0, tyk_13, tcq_13, tsh_77, tyk_8, tcq_8, tyk_4, tcq_4, tsh_113, tsh_650, tsh_653, tsh_656, tsh_5, tyk_11, tcq_11]
      repeat refine And.intro (by omega) ?_
      refine ⟨fun _ => n48 _, fun q => absurd (by omega) q⟩
    | succ fu ih =>
      intro i hf hi
      refine tb_X11_solve_27 (c := true) ?_
      simp only [kb_X11_solve_27, w_ild4, w_bi, w_ic_ge, w_ald_0, w_ild_2, w_iadd, w_iv1, tfr_0, tfr_1, tfr_2, tfr_3, tfr_4, w_inc4, tkl_n, tkl_i, tkl_l, tkl_r, w_goto, w64_r, true_and, and_true, Nat.reduceAdd, Nat.reduceSub, eq_self, tsh_0, tyk_13, tcq_13, tsh_77, tyk_8, tcq_8, tyk_4, tcq_4, tsh_113, tsh_650, tsh_653, tsh_656, tsh_5, tyk_11, tcq_11]
      repeat refine And.intro (by omega) ?_
      first | refine ⟨fun q => absurd q (by omega), fun _ => ?_⟩ | refine fun _ => ?_
      repeat refine And.intro (by omega) ?_
      refine tz_xn (D := 2) (fun d' hd' => k_X11_checkHeld cl_0 (by omega) hd') hC (by omega) rfl ?_ (fun s q => Or.inr ⟨_, rfl, rfl, KA_refl hC hK⟩)
      intro _
      try simp only [kb_X11_solve_27, w_ild4, w_bi, w_ic_ge, w_ald_0, w_ild_2, w_iadd, w_iv1, tfr_0, tfr_1, tfr_2, tfr_3, tfr_4, w_inc4, tkl_n, tkl_i, tkl_l, tkl_r, w_goto, w64_r, true_and, and_true, Nat.reduceAdd, Nat.reduceSub, eq_self, tsh_0, tyk_13, tcq_13, tsh_77, tyk_8, tcq_8, tyk_4, tcq_4, tsh_113, tsh_650, tsh_653, tsh_656, tsh_5, tyk_11, tcq_11]
      repeat refine And.intro (by omega) ?_
      rw [show ((i : Nat) : Int) + 1 = ((i + 1 : Nat) : Int) by omega]
      exact ih (i + 1) (by omega) (by omega)
  refine tb_X11_solve_24 (c := true) ?_
  simp only [kb_X11_solve_24, w_ic, w_ist4, tkl_n, tkl_i, tkl_l, tkl_r, w_nil, w64_r, true_and, and_true, Nat.reduceAdd, Nat.reduceSub, eq_self]
  exact nl 6 0 rfl (by decide)
end HAND
