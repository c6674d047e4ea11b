/-! WHAT HOLDS BETWEEN CALLS: a formula is read, its atoms. -/
section HAND
variable {e : tE} {d n : Nat} {M : tM}
theorem z_tNum {r c w p T : Nat} (hr : FMC r) (h : FPI M r c w 0) (hp : c + w ≤ p) (e9 : M r 9 = (p : Int)) (hT : M 1 1 = (T : Int)) (hpT : p < T) (hdg : 48 ≤ sgA M (p : Int) ∧ sgA M (p : Int) ≤ 57) (hC : CI M) (hd : 3 ≤ d) : tC e d 1813 [.inr (.inr (.inl r)), .inr (.inr (.inl 1))] M n (tQi n (fun z M' => TKP r T M M' z)) := by
  obtain ⟨t0, t1, t2, t3, t4, t5⟩ := FM_of hr
  have hr2 := FM_r hr
  have tr := tx_r hC
  refine tst_X5_takesNumber ?_
  have hdg0 := hdg
  have n118 : ∀ (N : tM) (j : Nat) (num dg sc pt : Int), 1 ≤ j → FPF r M N → (∀ (k : Nat) (i : Int), ¬ (k = r ∧ i = 9) → N k i = M k i) → N r 9 = ((p + j : Nat) : Int) → p + j ≤ T → ((-9223372036854775808 ≤ num ∧ num < 9223372036854775808)) → (0 ≤ dg ∧ dg ≤ 12) → (0 ≤ sc ∧ sc ≤ dg) → (0 ≤ pt ∧ pt ≤ 1) → tT e d 1813 118 [some (.inr (.inr (.inl (r)))), some (.inr (.inr (.inl (1)))), some (.inr (.inl (num))), none, some (.inl (dg)), some (.inl (sc)), some (.inl (pt)), some (.inl ((j : Int)))] [] N n (tQi n (fun z M' => TKP r T M M' z)) := by
    intro N j num dg sc pt hj fN gN n9 hjT hnum hdg hsc hpt
    have n130 : tT e d 1813 130 [some (.inr (.inr (.inl (r)))), some (.inr (.inr (.inl (1)))), some (.inr (.inl (num))), none, some (.inl (dg)), some (.inl (sc)), some (.inl (pt)), some (.inl ((j : Int)))] [] N n (tQi n (fun z M' => TKP r T M M' z)) := by
      have hN : FPI N r c w 0 := FPI_f h (fun k i g => gN k i (by omega)) (gN r 4 (by omega)) (gN r 8 (by omega))
      refine tb_X5_takesNumber_130 (c := true) ?_
      simp only [kb_X5_takesNumber_130, w_ald_0, w_bi, w_lld_2, w_ild5, w_iv3, tfr_0, tfr_1, tfr_2, tfr_3, tfr_4, w_iv0, w_ic, w_ire, trg, w64_r, true_and, and_true, Nat.reduceAdd, Nat.reduceSub, eq_self, tyk_7, tcq_7, tyk_42, tyk_28, tyk_43, tyx_15, tcq_60, tsx_1, tyx_12, tcx_12, t0]
      refine tc_n (D := 0) (fun d' hd' => z_fapp (x1 := 35) (x3 := sc) hr hN.1.1.1 (by omega) (by decide) hnum (by omega) (fun q => absurd q (by decide)) fN.1.1) (by omega) ?_
      rintro N1 ⟨f1, a1⟩
      have h1 := FPI_leaf hN (by omega) a1 (by omega) (Or.inl rfl) (fun _ => ⟨hnum, by omega⟩)
      try simp only [kb_X5_takesNumber_130, w_ald_0, w_bi, w_lld_2, w_ild5, w_iv3, tfr_0, tfr_1, tfr_2, tfr_3, tfr_4, w_iv0, w_ic, w_ire, trg, w64_r, true_and, and_true, Nat.reduceAdd, Nat.reduceSub, eq_self, tyk_7, tcq_7, tyk_42, tyk_28, tyk_43, tyx_15, tcq_60, tsx_1, tyx_12, tcx_12, t0]
      refine tc_n (D := 2) (fun d' hd' => z_close hr h1 (by omega) f1.1.1 hd') (by omega) ?_
      rintro N2 ⟨f2, g2, k2, c2, w2, q2, h2⟩
      try simp only [kb_X5_takesNumber_130, w_ald_0, w_bi, w_lld_2, w_ild5, w_iv3, tfr_0, tfr_1, tfr_2, tfr_3, tfr_4, w_iv0, w_ic, w_ire, trg, w64_r, true_and, and_true, Nat.reduceAdd, Nat.reduceSub, eq_self, tyk_7, tcq_7, tyk_42, tyk_28, tyk_43, tyx_15, tcq_60, tsx_1, tyx_12, tcx_12, t0]
      refine ⟨by decide, _, rfl, rfl, by decide, FPF_tr fN (FPF_tr f1 f2), ?_, fun _ => ⟨c2, w2, 1, p + j, h2, by omega, ?_, hjT, ?_⟩⟩
      · rw [g2 6 (by decide) (by decide) (by decide), a1.1 6 (by decide)]
        exact gN r 6 (by omega)
      · rw [g2 9 (by decide) (by decide) (by decide), a1.1 9 (by decide)]
        exact n9
      · rw [k2]
        rfl
    refine tb_X5_takesNumber_118 (c := true) ?_
    simp only [kb_X5_takesNumber_118, w_ild6, w_if_eq, w_ild5, w_if_ne, w_ic, w_ire, trg, w64_r, true_and, and_true, Nat.reduceAdd, Nat.reduceSub, eq_self, t0]
    repeat refine And.intro (by omega) ?_
    refine ⟨fun _ => n130, fun _ => ?_⟩
    try simp only [kb_X5_takesNumber_118, w_ild6, w_if_eq, w_ild5, w_if_ne, w_ic, w_ire, trg, w64_r, true_and, and_true, Nat.reduceAdd, Nat.reduceSub, eq_self, t0]
    repeat refine And.intro (by omega) ?_
    refine ⟨fun _ => n130, fun _ => ?_⟩
    exact ⟨by decide, _, rfl, rfl, by decide, fN, gN r 6 (by omega), fun q => absurd q (by decide)⟩
  have nl : ∀ (fu : Nat) (N : tM) (j : Nat) (num dg sc pt : Int), 60 - j = fu → j ≤ 60 → FPF r M N → (∀ (k : Nat) (i : Int), ¬ (k = r ∧ i = 9) → N k i = M k i) → N r 9 = ((p + j : Nat) : Int) → p + j ≤ T → ((-9223372036854775808 ≤ num ∧ num < 9223372036854775808)) → (0 ≤ dg ∧ dg ≤ 12) → (0 ≤ sc ∧ sc ≤ dg) → (0 ≤ pt ∧ pt ≤ 1) → (j = 0 → dg = 0) → tT e d 1813 14 [some (.inr (.inr (.inl (r)))), some (.inr (.inr (.inl (1)))), some (.inr (.inl (num))), none, some (.inl (dg)), some (.inl (sc)), some (.inl (pt)), some (.inl ((j : Int)))] [] N n (tQi n (fun z M' => TKP r T M M' z)) := by
    intro fu
    induction fu with
    | zero =>
      intro N j num dg sc pt hf hj fN gN n9 hjT hnum hdg hsc hpt h0
      refine tb_X5_takesNumber_14 (c := true) ?_
      simp only [kb_X5_takesNumber_14, w_ild7, w_bi, w_ic_ge, w_ald_1, w_ald_0, w_gf_7_9, tw_t, w_iv1, tfr_0, tfr_1, tfr_2, tfr_3, tfr_4, w_if_eq, w_ild4, w_ic_ne, w_ic, w_ire, trg, w64_r, true_and, and_true, Nat.reduceAdd, Nat.reduceSub, eq_self, tyk_7, tcq_7, tyk_42, tyk_28, tyk_43, tyx_15, tcq_60, tsx_1, tyx_12, tcx_12, t0]
      repeat refine And.intro (by omega) ?_
      refine ⟨fun _ => n118 N j num dg sc pt (by omega) fN gN n9 hjT hnum hdg hsc hpt, fun q => absurd (by omega) q⟩
    | succ fu ih =>
      intro N j num dg sc pt hf hj fN gN n9 hjT hnum hdg hsc hpt h0
      have sN : sgA N ((p + j : Nat) : Int) = sgA M ((p + j : Nat) : Int) := sgA_f hr fN _
      -- the next place
      have n102 : ∀ (num2 dg2 sc2 pt2 : Int), p + j < T → ((-9223372036854775808 ≤ num2 ∧ num2 < 9223372036854775808)) → (0 ≤ dg2 ∧ dg2 ≤ 12) → (0 ≤ sc2 ∧ sc2 ≤ dg2) → (0 ≤ pt2 ∧ pt2 ≤ 1) → tT e d 1813 102 [some (.inr (.inr (.inl (r)))), some (.inr (.inr (.inl (1)))), some (.inr (.inl (num2))), none, some (.inl (dg2)), some (.inl (sc2)), some (.inl (pt2)), some (.inl ((j : Int)))] [] N n (tQi n (fun z M' => TKP r T M M' z)) := by
        intro num2 dg2 sc2 pt2 hlt hn2 hd2 hs2 hp2
        have f1 := FPF_put (f := 9) (v := ((p + j : Nat) : Int) + 1) hr (fun _ => by show (-2147483648 : Int) ≤ ((p + j : Nat) : Int) + 1 ∧ ((p + j : Nat) : Int) + 1 ≤ 2147483647; omega) fN.1.1
        refine tb_X5_takesNumber_102 (c := true) ?_
        simp only [kb_X5_takesNumber_102, w_ald_0, w_dupi, w_dupr, w_gf_7_9, tw_t, w_ic, w_iadd, w_pf_7_9, w_inc7, tkl_n, tkl_i, tkl_l, tkl_r, w_goto, w64_r, true_and, and_true, Nat.reduceAdd, Nat.reduceSub, eq_self, tyk_7, tcq_7, tyk_42, tyk_28, tyk_43, tyx_15, tcq_60, tsx_1, tyx_12, tcx_12, t0]
        rw [n9]
        repeat refine And.intro (by omega) ?_
        rw [show ((j : Nat) : Int) + 1 = ((j + 1 : Nat) : Int) by omega]
        refine ih _ (j + 1) num2 dg2 sc2 pt2 (by omega) (by omega) (FPF_tr fN f1) (fun k i g => (if_neg g).trans (gN k i g)) ?_ (by omega) hn2 hd2 hs2 hp2 (by omega)
        rw [tU_eq]
        omega
      refine tb_X5_takesNumber_14 (c := true) ?_
      simp only [kb_X5_takesNumber_14, w_ild7, w_bi, w_ic_ge, w_ald_1, w_ald_0, w_gf_7_9, tw_t, w_iv1, tfr_0, tfr_1, tfr_2, tfr_3, tfr_4, w_if_eq, w_ild4, w_ic_ne, w_ic, w_ire, trg, w64_r, true_and, and_true, Nat.reduceAdd, Nat.reduceSub, eq_self, tyk_7, tcq_7, tyk_42, tyk_28, tyk_43, tyx_15, tcq_60, tsx_1, tyx_12, tcx_12, t0]
      rw [n9]
      repeat refine And.intro (by omega) ?_
      first | refine ⟨fun q => absurd q (by omega), fun _ => ?_⟩ | refine fun _ => ?_
      refine tc_i (D := 1) (fun d' hd' => z_isDig (by omega) fN.1.1 hd') (by omega) ?_
      rintro z1 M2 ⟨g1, rfl⟩
      have rz : 0 ≤ z1 ∧ z1 ≤ 1 := by rcases g1 with ⟨q, _⟩ | ⟨q, _⟩ <;> rw [q] <;> decide
      rw [sN] at g1
      try simp only [kb_X5_takesNumber_14, w_ild7, w_bi, w_ic_ge, w_ald_1, w_ald_0, w_gf_7_9, tw_t, w_iv1, tfr_0, tfr_1, tfr_2, tfr_3, tfr_4, w_if_eq, w_ild4, w_ic_ne, w_ic, w_ire, trg, w64_r, true_and, and_true, Nat.reduceAdd, Nat.reduceSub, eq_self, tyk_7, tcq_7, tyk_42, tyk_28, tyk_43, tyx_15, tcq_60, tsx_1, tyx_12, tcx_12, t0]
      repeat refine And.intro (by omega) ?_
      refine ⟨fun q => ?_, fun q => ?_⟩
      · -- no digit
        have j1 : 1 ≤ j := by
          rcases Nat.eq_zero_or_pos j with q2 | q2
          · subst q2
            rcases g1 with ⟨g, _⟩ | ⟨_, g⟩
            · omega
            · exact absurd hdg0 (by rw [Nat.add_zero] at g; exact g)
          · exact q2
        have sr := sgA_r hC ((p + j : Nat) : Int)
        refine tb_X5_takesNumber_81 (c := true) ?_
        simp only [kb_X5_takesNumber_81, w_ald_1, w_ald_0, w_gf_7_9, tw_t, w_iv1, tfr_0, tfr_1, tfr_2, tfr_3, tfr_4, w_bi, w_ic_ne, w_ild6, w_if_ne, w_ic, w_ist6, tkl_n, tkl_i, tkl_l, tkl_r, w_nil, w64_r, true_and, and_true, Nat.reduceAdd, Nat.reduceSub, eq_self, tyk_7, tcq_7, tyk_42, tyk_28, tyk_43, tyx_15, tcq_60, tsx_1, tyx_12, tcx_12, t0]
        rw [n9]
        refine tc_i (D := 0) (fun d' hd' => z_tat (by omega) fN.1.1) (by omega) ?_
        rintro z2 M3 ⟨hz2, rfl⟩
        rw [sN] at hz2
        rw [← hz2] at sr
        try simp only [kb_X5_takesNumber_81, w_ald_1, w_ald_0, w_gf_7_9, tw_t, w_iv1, tfr_0, tfr_1, tfr_2, tfr_3, tfr_4, w_bi, w_ic_ne, w_ild6, w_if_ne, w_ic, w_ist6, tkl_n, tkl_i, tkl_l, tkl_r, w_nil, w64_r, true_and, and_true, Nat.reduceAdd, Nat.reduceSub, eq_self, tyk_7, tcq_7, tyk_42, tyk_28, tyk_43, tyx_15, tcq_60, tsx_1, tyx_12, tcx_12, t0]
        repeat refine And.intro (by omega) ?_
        refine ⟨fun _ => n118 M3 j num dg sc pt j1 fN gN n9 hjT hnum hdg hsc hpt, fun q2 => ?_⟩
        try simp only [kb_X5_takesNumber_81, w_ald_1, w_ald_0, w_gf_7_9, tw_t, w_iv1, tfr_0, tfr_1, tfr_2, tfr_3, tfr_4, w_bi, w_ic_ne, w_ild6, w_if_ne, w_ic, w_ist6, tkl_n, tkl_i, tkl_l, tkl_r, w_nil, w64_r, true_and, and_true, Nat.reduceAdd, Nat.reduceSub, eq_self, tyk_7, tcq_7, tyk_42, tyk_28, tyk_43, tyx_15, tcq_60, tsx_1, tyx_12, tcx_12, t0]
        repeat refine And.intro (by omega) ?_
        refine ⟨fun _ => n118 M3 j num dg sc pt j1 fN gN n9 hjT hnum hdg hsc hpt, fun _ => ?_⟩
        try simp only [kb_X5_takesNumber_81, w_ald_1, w_ald_0, w_gf_7_9, tw_t, w_iv1, tfr_0, tfr_1, tfr_2, tfr_3, tfr_4, w_bi, w_ic_ne, w_ild6, w_if_ne, w_ic, w_ist6, tkl_n, tkl_i, tkl_l, tkl_r, w_nil, w64_r, true_and, and_true, Nat.reduceAdd, Nat.reduceSub, eq_self, tyk_7, tcq_7, tyk_42, tyk_28, tyk_43, tyx_15, tcq_60, tsx_1, tyx_12, tcx_12, t0]
        have lt := (sgA_in (M := M) (p := ((p + j : Nat) : Int)) (by omega)).2
        exact n102 num dg sc 1 (by omega) hnum hdg hsc (by decide)
      · have dgt : 48 ≤ sgA M ((p + j : Nat) : Int) ∧ sgA M ((p + j : Nat) : Int) ≤ 57 := by
          rcases g1 with ⟨_, g⟩ | ⟨g, _⟩
          · exact g
          · omega
        have lt := (sgA_in (M := M) (p := ((p + j : Nat) : Int)) (by omega)).2
        try simp only [kb_X5_takesNumber_14, w_ild7, w_bi, w_ic_ge, w_ald_1, w_ald_0, w_gf_7_9, tw_t, w_iv1, tfr_0, tfr_1, tfr_2, tfr_3, tfr_4, w_if_eq, w_ild4, w_ic_ne, w_ic, w_ire, trg, w64_r, true_and, and_true, Nat.reduceAdd, Nat.reduceSub, eq_self, tyk_7, tcq_7, tyk_42, tyk_28, tyk_43, tyx_15, tcq_60, tsx_1, tyx_12, tcx_12, t0]
        repeat refine And.intro (by omega) ?_
        refine ⟨fun q3 => ?_, fun q3 => ?_⟩
        rotate_left
        · exact ⟨by decide, _, rfl, rfl, by decide, fN, gN r 6 (by omega), fun q => absurd q (by decide)⟩
        refine tb_X5_takesNumber_41 (c := true) ?_
        simp only [kb_X5_takesNumber_41, w_lld_2, w_ld2, w_lmul, tw_t, w_ald_1, w_ald_0, w_gf_7_9, w_iv1, tfr_0, tfr_1, tfr_2, tfr_3, tfr_4, w_bi, w_isub, w_i2l, w_ladd, w_lst_2, tkl_n, tkl_i, tkl_l, tkl_r, w_inc4, w_ild5, w_ild6, w_if_eq, w_ic, w_goto, w64_r, true_and, and_true, Nat.reduceAdd, Nat.reduceSub, eq_self, tyk_7, tcq_7, tyk_42, tyk_28, tyk_43, tyx_15, tcq_60, tsx_1, tyx_12, tcx_12, t0]
        rw [n9]
        refine tc_i (D := 0) (fun d' hd' => z_tat (by omega) fN.1.1) (by omega) ?_
        rintro z2 M3 ⟨hz2, rfl⟩
        rw [sN] at hz2
        try simp only [kb_X5_takesNumber_41, w_lld_2, w_ld2, w_lmul, tw_t, w_ald_1, w_ald_0, w_gf_7_9, w_iv1, tfr_0, tfr_1, tfr_2, tfr_3, tfr_4, w_bi, w_isub, w_i2l, w_ladd, w_lst_2, tkl_n, tkl_i, tkl_l, tkl_r, w_inc4, w_ild5, w_ild6, w_if_eq, w_ic, w_goto, w64_r, true_and, and_true, Nat.reduceAdd, Nat.reduceSub, eq_self, tyk_7, tcq_7, tyk_42, tyk_28, tyk_43, tyx_15, tcq_60, tsx_1, tyx_12, tcx_12, t0]
        repeat refine And.intro (by omega) ?_
        have n75 : ∀ (num2 a : Int), ((-9223372036854775808 ≤ num2 ∧ num2 < 9223372036854775808)) → (0 ≤ a ∧ a ≤ 1) → tT e d 1813 75 [some (.inr (.inr (.inl (r)))), some (.inr (.inr (.inl (1)))), some (.inr (.inl (num2))), none, some (.inl (dg + 1)), some (.inl (sc)), some (.inl (pt)), some (.inl ((j : Int)))] [.inl a, .inl sc] M3 n (tQi n (fun z M' => TKP r T M M' z)) := by
          intro num2 a hn2 ha
          refine tb_X5_takesNumber_75 (c := true) ?_
          simp only [kb_X5_takesNumber_75, w_iadd, w_ist5, tkl_n, tkl_i, tkl_l, tkl_r, w_goto, w64_r, true_and, and_true, Nat.reduceAdd, Nat.reduceSub, eq_self, t0]
          repeat refine And.intro (by omega) ?_
          exact n102 num2 (dg + 1) (sc + a) pt (by omega) hn2 (by omega) (by omega) hpt
        refine ⟨fun _ => ?_, fun _ => ?_⟩
        · refine tb_X5_takesNumber_74 (c := true) ?_
          simp only [kb_X5_takesNumber_74, w_ic, w_nil, w64_r, true_and, and_true, Nat.reduceAdd, Nat.reduceSub, eq_self, t0]
          exact n75 _ 0 (by rw [w64_r]; trivial) (by decide)
        · try simp only [kb_X5_takesNumber_41, w_lld_2, w_ld2, w_lmul, tw_t, w_ald_1, w_ald_0, w_gf_7_9, w_iv1, tfr_0, tfr_1, tfr_2, tfr_3, tfr_4, w_bi, w_isub, w_i2l, w_ladd, w_lst_2, tkl_n, tkl_i, tkl_l, tkl_r, w_inc4, w_ild5, w_ild6, w_if_eq, w_ic, w_goto, w64_r, true_and, and_true, Nat.reduceAdd, Nat.reduceSub, eq_self, tyk_7, tcq_7, tyk_42, tyk_28, tyk_43, tyx_15, tcq_60, tsx_1, tyx_12, tcx_12, t0]
          exact n75 _ 1 (by rw [w64_r]; trivial) (by decide)
  refine tb_X5_takesNumber_0 (c := true) ?_
  simp only [kb_X5_takesNumber_0, w_lc0, w_lst_2, tkl_n, tkl_i, tkl_l, tkl_r, w_ic, w_ist4, w_ist5, w_ist6, w_ist7, w_nil, w64_r, true_and, and_true, Nat.reduceAdd, Nat.reduceSub, eq_self, t0]
  exact nl 60 M 0 0 0 0 0 rfl (by decide) (FPF_refl hC) (fun _ _ _ => rfl) e9 (by omega) (by decide) (by decide) (by decide) (by decide) (fun _ => rfl)
theorem z_tAtm {r c w p T : Nat} (hr : FMC r) (h : FPI M r c w 0) (hp : c + w ≤ p) (e9 : M r 9 = (p : Int)) (hT : M 1 1 = (T : Int)) (hpT : p < T) (e10 : M r 10 = 1) (hC : CI M) (hd : 4 ≤ d) : tC e d 1810 [.inr (.inr (.inl r)), .inr (.inr (.inl 1))] M n (tQi n (fun z M' => TKP r T M M' z)) := by
  obtain ⟨t0, t1, t2, t3, t4, t5⟩ := FM_of hr
  have hr2 := FM_r hr
  have tr := tx_r hC
  have sr := sgA_r hC (p : Int)
  refine tst_X5_takesAtom ?_
  refine tb_X5_takesAtom_0 (c := false) ?_
  simp only [kb_X5_takesAtom_0, w_ald_1, w_ald_0, w_gf_7_9, tw_f, w_iv1, tfr_0, tfr_1, tfr_2, tfr_3, tfr_4, w_if_eq, w_ire, trg, true_and, and_true, Nat.reduceAdd, Nat.reduceSub, eq_self, tyk_7, tcq_7, tyk_42, tyk_28, tyk_43, tyx_15, tcq_60, tsx_1, tyx_12, tcx_12, t0]
  rw [e9]
  refine tc_i (D := 1) (fun d' hd' => z_isDig (by omega) hC hd') (by omega) ?_
  rintro z1 M1 ⟨g1, rfl⟩
  have rz : 0 ≤ z1 ∧ z1 ≤ 1 := by rcases g1 with ⟨q, _⟩ | ⟨q, _⟩ <;> rw [q] <;> decide
  try simp only [kb_X5_takesAtom_0, w_ald_1, w_ald_0, w_gf_7_9, tw_f, w_iv1, tfr_0, tfr_1, tfr_2, tfr_3, tfr_4, w_if_eq, w_ire, trg, true_and, and_true, Nat.reduceAdd, Nat.reduceSub, eq_self, tyk_7, tcq_7, tyk_42, tyk_28, tyk_43, tyx_15, tcq_60, tsx_1, tyx_12, tcx_12, t0]
  repeat refine And.intro (by omega) ?_
  refine ⟨fun q => ?_, fun q => ?_⟩
  rotate_left
  · have dgt : 48 ≤ sgA M1 (p : Int) ∧ sgA M1 (p : Int) ≤ 57 := by
      rcases g1 with ⟨_, g⟩ | ⟨g, _⟩
      · exact g
      · omega
    try simp only [kb_X5_takesAtom_0, w_ald_1, w_ald_0, w_gf_7_9, tw_f, w_iv1, tfr_0, tfr_1, tfr_2, tfr_3, tfr_4, w_if_eq, w_ire, trg, true_and, and_true, Nat.reduceAdd, Nat.reduceSub, eq_self, tyk_7, tcq_7, tyk_42, tyk_28, tyk_43, tyx_15, tcq_60, tsx_1, tyx_12, tcx_12, t0]
    refine tc_i (D := 3) (fun d' hd' => z_tNum hr h hp e9 hT hpT dgt hC hd') (by omega) ?_
    rintro z2 M2 g2
    have := g2.1
    try simp only [kb_X5_takesAtom_0, w_ald_1, w_ald_0, w_gf_7_9, tw_f, w_iv1, tfr_0, tfr_1, tfr_2, tfr_3, tfr_4, w_if_eq, w_ire, trg, true_and, and_true, Nat.reduceAdd, Nat.reduceSub, eq_self, tyk_7, tcq_7, tyk_42, tyk_28, tyk_43, tyx_15, tcq_60, tsx_1, tyx_12, tcx_12, t0]
    exact ⟨by omega, _, rfl, rfl, g2⟩
  clear g1
  -- the place goes on
  have n124 : ∀ (N : tM) (z : Int) (c2 w2 b2 : Nat), FPF r M1 N → N r 6 = M1 r 6 → N r 9 = (p : Int) → FPI N r c2 w2 b2 → c2 + w2 ≤ p + 1 → N r 10 = 1 - (b2 : Int) → tT e d 1810 124 [some (.inr (.inr (.inl (r)))), some (.inr (.inr (.inl (1)))), some (.inl (z))] [] N n (tQi n (fun z M' => TKP r T M1 M' z)) := by
    intro N z c2 w2 b2 fN e6 n9 hN hc2 n10
    have f1 := FPF_put (f := 9) (v := (p : Int) + 1) hr (fun _ => by show (-2147483648 : Int) ≤ (p : Int) + 1 ∧ (p : Int) + 1 ≤ 2147483647; omega) fN.1.1
    refine tb_X5_takesAtom_124 (c := false) ?_
    simp only [kb_X5_takesAtom_124, w_ald_0, w_dupi, w_dupr, w_gf_7_9, tw_f, w_ic, w_iadd, w_pf_7_9, w_ire, trg, true_and, and_true, Nat.reduceAdd, Nat.reduceSub, eq_self, tyk_7, tcq_7, tyk_42, tyk_28, tyk_43, tyx_15, tcq_60, tsx_1, tyx_12, tcx_12, t0]
    rw [n9]
    repeat refine And.intro (by omega) ?_
    refine ⟨_, rfl, rfl, by decide, FPF_tr fN f1, ?_, fun _ => ⟨c2, w2, b2, p + 1, FPI_f hN (fun k i g => tU_nk (by omega)) (tU_ni (by decide)) (tU_ni (by decide)), hc2, ?_, by omega, ?_⟩⟩
    · rw [tU_ni (by decide)]
      exact e6
    · rw [tU_eq]
      omega
    · rw [tU_ni (by decide)]
      exact n10
  have n44 : ∀ z : Int, (z = 120 ∨ z = 121 ∨ z = 112) → tT e d 1810 44 [some (.inr (.inr (.inl (r)))), some (.inr (.inr (.inl (1)))), some (.inl (z))] [] M1 n (tQi n (fun z M' => TKP r T M1 M' z)) := by
    intro z hz
    refine tb_X5_takesAtom_44 (c := false) ?_
    simp only [kb_X5_takesAtom_44, w_ald_0, w_ild_2, w_lc0, w_ic, w_iv3, tfr_0, tfr_1, tfr_2, tfr_3, tfr_4, w_gf_7_5, tw_f, w_if_ne, w_bi, w_ic_ne, w_nil, true_and, and_true, Nat.reduceAdd, Nat.reduceSub, eq_self, tyk_7, tcq_7, tyk_42, tyk_28, tyk_43, tyx_15, tcq_60, tsx_1, tyx_12, tcx_12, t0]
    refine tc_n (D := 0) (fun d' hd' => z_fapp hr h.1.1.1 (by omega) (by omega) (by decide) (by decide) (fun q => by omega) hC) (by omega) ?_
    rintro N1 ⟨f1, a1⟩
    have h1 := FPI_leaf h (by omega) a1 (by decide) (by omega) (fun q => by omega)
    have r5 : 0 ≤ N1 r 5 ∧ N1 r 5 ≤ 1 := fm_c f1.1.1 (FM_7 hr) (by decide) rfl
    have n70 : ∀ v : Int, (0 ≤ v ∧ v ≤ 1) → tT e d 1810 70 [some (.inr (.inr (.inl (r)))), some (.inr (.inr (.inl (1)))), some (.inl (z))] [.inl v, .inr (.inr (.inl r))] N1 n (tQi n (fun z M' => TKP r T M1 M' z)) := by
      intro v hv
      have f2 := FPF_put (f := 5) (v := v) hr (fun _ => by show 0 ≤ v ∧ v ≤ 1; exact hv) f1.1.1
      have u2 : ∀ (k : Nat) (i : Int), ¬ (k = r ∧ i = 5) → tU N1 r 5 v k i = N1 k i := fun k i q => if_neg q
      refine tb_X5_takesAtom_70 (c := false) ?_
      simp only [kb_X5_takesAtom_70, w_pf_7_5, w_ald_0, w_iv0, tfr_0, tfr_1, tfr_2, tfr_3, tfr_4, w_goto, true_and, and_true, Nat.reduceAdd, Nat.reduceSub, eq_self, tyk_7, tcq_7, tyk_42, tyk_28, tyk_43, tyx_15, tcq_60, tsx_1, tyx_12, tcx_12, t0]
      generalize tU N1 r 5 v = N2 at *
      have h2 : FPI N2 r (c + 1) w 1 := FPI_f h1 (fun k i g => u2 k i (by omega)) (u2 r 4 (by omega)) (u2 r 8 (by omega))
      refine ⟨by omega, ?_⟩
      refine tc_n (D := 2) (fun d' hd' => z_close hr h2 (by omega) f2.1.1 hd') (by omega) ?_
      rintro N3 ⟨f3, g3, k3, c3, w3, q3, h3⟩
      try simp only [kb_X5_takesAtom_70, w_pf_7_5, w_ald_0, w_iv0, tfr_0, tfr_1, tfr_2, tfr_3, tfr_4, w_goto, true_and, and_true, Nat.reduceAdd, Nat.reduceSub, eq_self, tyk_7, tcq_7, tyk_42, tyk_28, tyk_43, tyx_15, tcq_60, tsx_1, tyx_12, tcx_12, t0]
      refine n124 N3 z c3 w3 1 (FPF_tr f1 (FPF_tr f2 f3)) ?_ ?_ h3 (by omega) (by rw [k3]; rfl)
      · rw [g3 6 (by decide) (by decide) (by decide), u2 r 6 (by omega)]
        exact a1.1 6 (by decide)
      · rw [g3 9 (by decide) (by decide) (by decide), u2 r 9 (by omega)]
        exact (a1.1 9 (by decide)).trans e9
    have n65 : tT e d 1810 65 [some (.inr (.inr (.inl (r)))), some (.inr (.inr (.inl (1)))), some (.inl (z))] [.inr (.inr (.inl r))] N1 n (tQi n (fun z M' => TKP r T M1 M' z)) := by
      refine tb_X5_takesAtom_65 (c := false) ?_
      simp only [kb_X5_takesAtom_65, w_ic, w_goto, true_and, and_true, Nat.reduceAdd, Nat.reduceSub, eq_self, t0]
      exact n70 1 (by decide)
    try simp only [kb_X5_takesAtom_44, w_ald_0, w_ild_2, w_lc0, w_ic, w_iv3, tfr_0, tfr_1, tfr_2, tfr_3, tfr_4, w_gf_7_5, tw_f, w_if_ne, w_bi, w_ic_ne, w_nil, true_and, and_true, Nat.reduceAdd, Nat.reduceSub, eq_self, tyk_7, tcq_7, tyk_42, tyk_28, tyk_43, tyx_15, tcq_60, tsx_1, tyx_12, tcx_12, t0]
    repeat refine And.intro (by omega) ?_
    refine ⟨fun _ => n65, fun _ => ?_⟩
    try simp only [kb_X5_takesAtom_44, w_ald_0, w_ild_2, w_lc0, w_ic, w_iv3, tfr_0, tfr_1, tfr_2, tfr_3, tfr_4, w_gf_7_5, tw_f, w_if_ne, w_bi, w_ic_ne, w_nil, true_and, and_true, Nat.reduceAdd, Nat.reduceSub, eq_self, tyk_7, tcq_7, tyk_42, tyk_28, tyk_43, tyx_15, tcq_60, tsx_1, tyx_12, tcx_12, t0]
    repeat refine And.intro (by omega) ?_
    refine ⟨fun _ => ?_, fun _ => n65⟩
    refine tb_X5_takesAtom_69 (c := false) ?_
    simp only [kb_X5_takesAtom_69, w_ic, w_nil, true_and, and_true, Nat.reduceAdd, Nat.reduceSub, eq_self, t0]
    exact n70 0 (by decide)
  have nh : ∀ (N : tM) (z x : Int), ¬ (x = 43 ∨ x = 45 ∨ x = 42 ∨ x = 47) → (0 ≤ x ∧ x ≤ 65535) → FPF r M1 N ∧ (∀ i : Int, i ≠ 8 → N r i = M1 r i) ∧ N r 8 = (w : Int) + 1 ∧ (∀ (k : Nat) (i : Int), r < k → (k ≤ r + 4 ∨ i ≠ (w : Int)) → N k i = M1 k i) ∧ N (r + 5) (w : Int) = x → tT e d 1810 124 [some (.inr (.inr (.inl (r)))), some (.inr (.inr (.inl (1)))), some (.inl (z))] [] N n (tQi n (fun z M' => TKP r T M1 M' z)) := by
    rintro N z x hx rx ⟨f1, v1, v2, v3, v4⟩
    exact n124 N z c (w + 1) 0 f1 (v1 6 (by decide)) ((v1 9 (by decide)).trans e9) (FPI_hold h (by omega) v1 v2 v3 v4 (Or.inr ⟨hx, rfl⟩)) (by omega) (by rw [v1 10 (by decide), e10]; rfl)
  refine tb_X5_takesAtom_17 (c := false) ?_
  simp only [kb_X5_takesAtom_17, w_ald_1, w_ald_0, w_gf_7_9, tw_f, w_iv1, tfr_0, tfr_1, tfr_2, tfr_3, tfr_4, w_ist_2, tkl_n, tkl_i, tkl_l, tkl_r, w_ild_2, w_bi, w_ic_eq, w_ic_ne, w_nil, true_and, and_true, Nat.reduceAdd, Nat.reduceSub, eq_self, tyk_7, tcq_7, tyk_42, tyk_28, tyk_43, tyx_15, tcq_60, tsx_1, tyx_12, tcx_12, t0]
  rw [e9]
  refine tc_i (D := 0) (fun d' hd' => z_tat (by omega) hC) (by omega) ?_
  rintro z M2 ⟨hz, rfl⟩
  rw [← hz] at sr
  try simp only [kb_X5_takesAtom_17, w_ald_1, w_ald_0, w_gf_7_9, tw_f, w_iv1, tfr_0, tfr_1, tfr_2, tfr_3, tfr_4, w_ist_2, tkl_n, tkl_i, tkl_l, tkl_r, w_ild_2, w_bi, w_ic_eq, w_ic_ne, w_nil, true_and, and_true, Nat.reduceAdd, Nat.reduceSub, eq_self, tyk_7, tcq_7, tyk_42, tyk_28, tyk_43, tyx_15, tcq_60, tsx_1, tyx_12, tcx_12, t0]
  repeat refine And.intro (by omega) ?_
  refine ⟨fun q1 => n44 z (by omega), fun q1 => ?_⟩
  repeat refine And.intro (by omega) ?_
  refine ⟨fun q2 => n44 z (by omega), fun q2 => ?_⟩
  repeat refine And.intro (by omega) ?_
  refine ⟨fun q3 => ?_, fun q3 => n44 z (by omega)⟩
  refine tb_X5_takesAtom_80 (c := false) ?_
  simp only [kb_X5_takesAtom_80, w_ild_2, w_bi, w_ic_ne, w_ald_0, w_iv1, tfr_0, tfr_1, tfr_2, tfr_3, tfr_4, w_goto, true_and, and_true, Nat.reduceAdd, Nat.reduceSub, eq_self, tyk_7, tcq_7, tyk_42, tyk_28, tyk_43, tyx_15, tcq_60, tsx_1, tyx_12, tcx_12, t0]
  repeat refine And.intro (by omega) ?_
  refine ⟨fun q4 => ?_, fun q4 => ?_⟩
  rotate_left
  · try simp only [kb_X5_takesAtom_80, w_ild_2, w_bi, w_ic_ne, w_ald_0, w_iv1, tfr_0, tfr_1, tfr_2, tfr_3, tfr_4, w_goto, true_and, and_true, Nat.reduceAdd, Nat.reduceSub, eq_self, tyk_7, tcq_7, tyk_42, tyk_28, tyk_43, tyx_15, tcq_60, tsx_1, tyx_12, tcx_12, t0]
    refine tc_n (D := 0) (fun d' hd' => z_fhold (x1 := 126) hr h.1.1.2 (by omega) (by decide) hC) (by omega) ?_
    intro N1 g1
    try simp only [kb_X5_takesAtom_80, w_ild_2, w_bi, w_ic_ne, w_ald_0, w_iv1, tfr_0, tfr_1, tfr_2, tfr_3, tfr_4, w_goto, true_and, and_true, Nat.reduceAdd, Nat.reduceSub, eq_self, tyk_7, tcq_7, tyk_42, tyk_28, tyk_43, tyx_15, tcq_60, tsx_1, tyx_12, tcx_12, t0]
    exact nh N1 z 126 (by decide) (by decide) g1
  have n122 : tT e d 1810 122 [some (.inr (.inr (.inl (r)))), some (.inr (.inr (.inl (1)))), some (.inl (z))] [] M2 n (tQi n (fun z M' => TKP r T M2 M' z)) := by
    refine tb_X5_takesAtom_122 (c := false) ?_
    simp only [kb_X5_takesAtom_122, w_ic, w_ire, trg, true_and, and_true, Nat.reduceAdd, Nat.reduceSub, eq_self, t0]
    exact ⟨by decide, _, rfl, rfl, by decide, FPF_refl hC, rfl, fun q => absurd q (by decide)⟩
  have n114 : ¬ (z = 43 ∨ z = 45 ∨ z = 42 ∨ z = 47) → tT e d 1810 114 [some (.inr (.inr (.inl (r)))), some (.inr (.inr (.inl (1)))), some (.inl (z))] [] M2 n (tQi n (fun z M' => TKP r T M2 M' z)) := by
    intro hx
    refine tb_X5_takesAtom_114 (c := false) ?_
    simp only [kb_X5_takesAtom_114, w_ald_0, w_ild_2, w_iv1, tfr_0, tfr_1, tfr_2, tfr_3, tfr_4, w_goto, true_and, and_true, Nat.reduceAdd, Nat.reduceSub, eq_self, tyk_7, tcq_7, tyk_42, tyk_28, tyk_43, tyx_15, tcq_60, tsx_1, tyx_12, tcx_12, t0]
    refine tc_n (D := 0) (fun d' hd' => z_fhold hr h.1.1.2 (by omega) sr hC) (by omega) ?_
    intro N1 g1
    try simp only [kb_X5_takesAtom_114, w_ald_0, w_ild_2, w_iv1, tfr_0, tfr_1, tfr_2, tfr_3, tfr_4, w_goto, true_and, and_true, Nat.reduceAdd, Nat.reduceSub, eq_self, tyk_7, tcq_7, tyk_42, tyk_28, tyk_43, tyx_15, tcq_60, tsx_1, tyx_12, tcx_12, t0]
    exact nh N1 z z hx sr g1
  refine tb_X5_takesAtom_95 (c := false) ?_
  simp only [kb_X5_takesAtom_95, w_ild_2, w_bi, w_ic_eq, w_is1, tfr_0, tfr_1, tfr_2, tfr_3, tfr_4, w_if_eq, w_nil, true_and, and_true, Nat.reduceAdd, Nat.reduceSub, eq_self, t0]
  repeat refine And.intro (by omega) ?_
  refine ⟨fun q5 => n114 (by omega), fun q5 => ?_⟩
  try simp only [kb_X5_takesAtom_95, w_ild_2, w_bi, w_ic_eq, w_is1, tfr_0, tfr_1, tfr_2, tfr_3, tfr_4, w_if_eq, w_nil, true_and, and_true, Nat.reduceAdd, Nat.reduceSub, eq_self, t0]
  refine tc_i (D := 0) (fun d' hd' => z_isAhead sr) (by omega) ?_
  rintro z1 M3 ⟨g1, rfl⟩
  have rz : 0 ≤ z1 ∧ z1 ≤ 1 := by rcases g1 with ⟨q, _⟩ | ⟨q, _⟩ <;> rw [q] <;> decide
  try simp only [kb_X5_takesAtom_95, w_ild_2, w_bi, w_ic_eq, w_is1, tfr_0, tfr_1, tfr_2, tfr_3, tfr_4, w_if_eq, w_nil, true_and, and_true, Nat.reduceAdd, Nat.reduceSub, eq_self, t0]
  repeat refine And.intro (by omega) ?_
  refine ⟨fun _ => n122, fun q6 => ?_⟩
  try simp only [kb_X5_takesAtom_95, w_ild_2, w_bi, w_ic_eq, w_is1, tfr_0, tfr_1, tfr_2, tfr_3, tfr_4, w_if_eq, w_nil, true_and, and_true, Nat.reduceAdd, Nat.reduceSub, eq_self, t0]
  repeat refine And.intro (by omega) ?_
  refine ⟨fun _ => n122, fun q7 => ?_⟩
  refine n114 ?_
  rcases g1 with ⟨_, g⟩ | ⟨g, _⟩
  · omega
  · omega
end HAND
