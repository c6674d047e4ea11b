/-! WHAT HOLDS BETWEEN CALLS: kept by read, its number. -/
/-- what is read so far -/
def NMR (M : tM) : Prop := ((0 ≤ M 80 0 ∧ M 80 0 ≤ 200000000000000) ∧ 0 ≤ M 80 1) ∧ (0 ≤ M 79 1 ∧ M 79 1 ≤ 1)
section HAND
variable {e : tE} {d n : Nat} {M : tM}
theorem tsx_79 : tsh 79 = 10 := by rw [tsh_def]; decide +kernel
theorem tsx_80 : tsh 80 = 3 := by rw [tsh_def]; decide +kernel
theorem cx_80 : cl 80 3 := ⟨tsx_80, by decide⟩
theorem cx_79 : cl 79 10 := ⟨tsx_79, by decide⟩
theorem z_takeDigit {dg bh : Int} (hd : 0 ≤ dg ∧ dg ≤ 9) (hb : -1 ≤ bh ∧ bh ≤ 60) (hN : NMR M) (hp : M 80 1 + (if 0 ≤ bh ∧ bh < 10 then TT (10 - bh.toNat) else 1) ≤ 10000000000) (hC : CI M) : tC e d 2573 [.inr (.inr (.inl 79)), .inl dg, .inl bh] M n (tQn n (fun M' => NMR M' ∧ TKF M M' ∧ (if 0 ≤ bh ∧ bh < 10 then M' 80 1 + TT (9 - bh.toNat) ≤ 10000000000 else M' 80 1 = M 80 1))) := by
  obtain ⟨⟨⟨w1, w2⟩, p1⟩, r1, r2⟩ := hN
  have hp2 : M 80 1 < 10000000000 := by
    split at hp
    · have := TT_pos (10 - bh.toNat)
      omega
    · omega
  refine tst_X8_takeDigit ?_
  have n94 : ∀ M1 : tM, (NMR M1 ∧ TKF M M1 ∧ (if 0 ≤ bh ∧ bh < 10 then M1 80 1 + TT (9 - bh.toNat) ≤ 10000000000 else M1 80 1 = M 80 1)) → tT e d 2573 94 [some (.inr (.inr (.inl (79)))), some (.inl (dg)), some (.inl (bh))] [] M1 n (tQn n (fun M' => NMR M' ∧ TKF M M' ∧ (if 0 ≤ bh ∧ bh < 10 then M' 80 1 + TT (9 - bh.toNat) ≤ 10000000000 else M' 80 1 = M 80 1))) := by
    intro M1 h
    refine tb_X8_takeDigit_94 (c := false) ?_
    simp only [kb_X8_takeDigit_94, w_re, true_and, and_true, Nat.reduceAdd, Nat.reduceSub, eq_self]
    exact ⟨rfl, rfl, h⟩
  have e9 : w64 (M 80 0) = M 80 0 := w64_e (by omega)
  have e10 : w64 (M 80 1) = M 80 1 := w64_e (by omega)
  have bdT : ∀ (f : Nat) (x : Int), (f = 0 ∨ f = 1) → TKF M (tU M 80 (f : Int) x) := fun f x hf => by
    have bd := BD_put (b := 0) (v := x) hC cx_80 hf (Or.inl (by decide))
    exact ⟨⟨bd.1, bd.2.1⟩, fun k i q _ => bd.2.2 k i q⟩
  refine tb_X8_takeDigit_0 (c := false) ?_
  simp only [kb_X8_takeDigit_0, w_ild_2, w_if_ge, w_ald_0, w_gf_10_0, tw_f, w_gf_3_0, w_ld2, w_lcmp, ne_eq, tlc_r, tlc_eq, tlc_lt, tlc_ge, tlc_gt, tlc_le, w_lmul, w_ild_1, w_i2l, w_ladd, w_pf_3_0, w_goto, true_and, and_true, Nat.reduceAdd, Nat.reduceSub, eq_self, tsx_1, tsx_2, tyx_12, tyx_15, tcx_12, tsx_79, tsx_80, tyk_10, tcq_10, tyk_3, tcq_3]
  repeat refine And.intro (by omega) ?_
  refine ⟨fun g => ?_, fun g => ?_⟩
  · obtain ⟨b, rfl⟩ : ∃ k : Nat, bh = (k : Int) := ⟨bh.toNat, by omega⟩
    rw [Int.toNat_natCast] at hp n94 ⊢
    refine tb_X8_takeDigit_42 (c := false) ?_
    simp only [kb_X8_takeDigit_42, w_ild_2, w_bi, w_ic_ge, w_ald_0, w_gf_10_0, tw_f, w_dupi, w_dupr, w_gf_3_1, w_ild_1, w_i2l, w_gs, w_isub, w_la, w_lax, w_lmul, w_ladd, w_pf_3_1, w_goto, true_and, and_true, Nat.reduceAdd, Nat.reduceSub, eq_self, tsx_1, tsx_2, tyx_12, tyx_15, tcx_12, tsx_79, tsx_80, tyk_10, tcq_10, tyk_3, tcq_3]
    repeat refine And.intro (by omega) ?_
    refine ⟨fun g2 => ?_, fun g2 => ?_⟩
    · -- behind the digits
      have n91 : ∀ x : Int, (0 ≤ x ∧ x ≤ 1) → tT e d 2573 91 [some (.inr (.inr (.inl (79)))), some (.inl (dg)), some (.inl ((b : Int)))] [.inl x, .inr (.inr (.inl 79))] M n (tQn n (fun M' => NMR M' ∧ TKF M M' ∧ (if 0 ≤ (b : Int) ∧ (b : Int) < 10 then M' 80 1 + TT (9 - b) ≤ 10000000000 else M' 80 1 = M 80 1))) := by
        intro x hx
        have c2 : CI (tU M 79 1 x) := CI_put hC tsx_79 (fun _ => by show 0 ≤ x ∧ x ≤ 1; exact hx)
        have p2 : pE 0 M (tU M 79 1 x) := pE_put (prt_f (a := 10) (f := 1) (Or.inl (by decide)) cx_79 (by decide) (fun q => absurd q (by decide)) (by decide))
        refine tb_X8_takeDigit_91 (c := false) ?_
        simp only [kb_X8_takeDigit_91, w_pf_10_1, w_nil, true_and, and_true, Nat.reduceAdd, Nat.reduceSub, eq_self, tsx_1, tsx_2, tyx_12, tyx_15, tcx_12, tsx_79, tsx_80, tyk_10, tcq_10, tyk_3, tcq_3]
        repeat refine And.intro (by omega) ?_
        refine n94 _ ⟨⟨⟨?_, ?_⟩, ?_⟩, ⟨⟨c2, p2⟩, fun k i q1 q2 => ?_⟩, ?_⟩
        · rw [tU_nk (by decide)]
          exact ⟨w1, w2⟩
        · rw [tU_nk (by decide)]
          exact p1
        · rw [tU_eq]
          exact hx
        · show (if k = 79 ∧ i = 1 then x else M k i) = M k i
          exact if_neg q2
        · rw [if_neg (by omega)]
          exact tU_nk (by decide)
      have n86 : tT e d 2573 86 [some (.inr (.inr (.inl (79)))), some (.inl (dg)), some (.inl ((b : Int)))] [.inr (.inr (.inl 79))] M n (tQn n (fun M' => NMR M' ∧ TKF M M' ∧ (if 0 ≤ (b : Int) ∧ (b : Int) < 10 then M' 80 1 + TT (9 - b) ≤ 10000000000 else M' 80 1 = M 80 1))) := by
        refine tb_X8_takeDigit_86 (c := false) ?_
        simp only [kb_X8_takeDigit_86, w_ic, w_goto, true_and, and_true, Nat.reduceAdd, Nat.reduceSub, eq_self]
        exact n91 1 (by decide)
      refine tb_X8_takeDigit_74 (c := false) ?_
      simp only [kb_X8_takeDigit_74, w_ald_0, w_gf_10_1, tw_f, w_if_ne, w_ild_1, w_if_le, w_nil, true_and, and_true, Nat.reduceAdd, Nat.reduceSub, eq_self, tsx_1, tsx_2, tyx_12, tyx_15, tcx_12, tsx_79, tsx_80, tyk_10, tcq_10, tyk_3, tcq_3]
      repeat refine And.intro (by omega) ?_
      refine ⟨fun _ => n86, fun _ => ?_⟩
      repeat refine And.intro (by omega) ?_
      refine ⟨fun _ => ?_, fun _ => n86⟩
      refine tb_X8_takeDigit_90 (c := false) ?_
      simp only [kb_X8_takeDigit_90, w_ic, w_nil, true_and, and_true, Nat.reduceAdd, Nat.reduceSub, eq_self]
      exact n91 0 (by decide)
    · have t1 := TT_pos (9 - b)
      have t2 := TT_le10 (k := 9 - b) (by omega)
      have et : txv e 0 (9 - (b : Int)) = TT (9 - b) := by
        rw [show 9 - (b : Int) = ((9 - b : Nat) : Int) by omega]
        exact tz_tx _ (by omega)
      have e11 : TT (10 - b) = TT (9 - b) * 10 := by
        rw [show 10 - b = (9 - b) + 1 by omega, TT_add, show TT 1 = 10 by unfold TT; rw [tn_def]; rfl]
      rw [if_pos (by omega), e11] at hp
      have m0 : 0 ≤ dg * TT (9 - b) := Int.mul_nonneg hd.1 (Int.le_of_lt t1)
      have m1 : dg * TT (9 - b) ≤ 9 * TT (9 - b) := Int.mul_le_mul_of_nonneg_right hd.2 (Int.le_of_lt t1)
      rw [et]
      first | refine ⟨by decide, rfl, ⟨by omega, by show _ < ((19 : Nat) : Int); omega⟩, ?_⟩ | refine ⟨by decide, ⟨by omega, by show _ < ((19 : Nat) : Int); omega⟩, ?_⟩ | skip
      generalize hm : dg * TT (9 - b) = mm at *
      have e12 : w64 mm = mm := w64_e (by omega)
      have e13 : w64 (M 80 1 + mm) = M 80 1 + mm := w64_e (by omega)
      try simp only [e10, e12, e13]
      repeat refine And.intro (by omega) ?_
      refine ⟨rfl, ⟨by omega, by show _ < ((19 : Nat) : Int); omega⟩, ?_⟩
      refine n94 _ ⟨⟨⟨?_, ?_⟩, ?_⟩, bdT 1 _ (Or.inr rfl), ?_⟩
      · rw [show tU M 80 1 (M 80 1 + mm) 80 0 = M 80 0 from tU_ni (by decide)]
        exact ⟨w1, w2⟩
      · rw [tU_eq]
        omega
      · rw [tU_nk (by decide)]
        exact ⟨r1, r2⟩
      · rw [if_pos (by omega), tU_eq]
        omega
  · have hbn : ¬ (0 ≤ bh ∧ bh < 10) := by omega
    try simp only [e9]
    repeat refine And.intro (by omega) ?_
    refine ⟨fun g2 => n94 M ⟨⟨⟨⟨w1, w2⟩, p1⟩, r1, r2⟩, ⟨⟨hC, pE_refl⟩, fun _ _ _ _ => rfl⟩, by rw [if_neg hbn]⟩, fun g2 => ?_⟩
    have e14 : w64 (M 80 0 * 10) = M 80 0 * 10 := w64_e (by omega)
    have e15 : w64 (M 80 0 * 10 + dg) = M 80 0 * 10 + dg := w64_e (by omega)
    try simp only [e9, e14, e15]
    repeat refine And.intro (by omega) ?_
    refine n94 _ ⟨⟨⟨?_, ?_⟩, ?_⟩, bdT 0 _ (Or.inl rfl), ?_⟩
    · rw [show tU M 80 0 (M 80 0 * 10 + dg) 80 0 = M 80 0 * 10 + dg from tU_eq ..]
      omega
    · rw [show tU M 80 0 (M 80 0 * 10 + dg) 80 1 = M 80 1 from tU_ni (by decide)]
      exact p1
    · rw [tU_nk (by decide)]
      exact ⟨r1, r2⟩
    · rw [if_neg hbn]
      exact tU_ni (by decide)
theorem NMR_n {N : tM} (h : NMR N) (hp : N 80 1 < 10000000000) : ∃ t : Int, RN N t ∧ RV t := by
  obtain ⟨⟨⟨w1, w2⟩, p1⟩, r1, r2⟩ := h
  refine ⟨2 * (N 80 0 * 10000000000 + N 80 1) + N 79 1, ⟨⟨?_, ?_⟩, ?_⟩, ?_⟩
  · omega
  · omega
  · omega
  · unfold RV
    omega
theorem z_takeText {c : Nat} (hc : M 1 1 = (c : Int)) (hpt : ptS (fun k => M 2 (k : Int)) c ≤ 1) (hC : CI M) (hd : 2 ≤ d) : tC e d 2574 [.inr (.inr (.inl 79)), .inr (.inr (.inl 1))] M n (tQn n (fun M' => ∃ t : Int, RN M' t ∧ RV t ∧ TKF M M')) := by
  have t1 := tx_r hC
  refine tst_X8_takeText ?_
  have sgN : ∀ (N : tM) (p : Int), TKF M N → sgA N p = sgA M p := fun N p f => by
    unfold sgA
    rw [f.2 1 1 (by decide) (by decide), f.2 2 p (by decide) (by omega)]
  have n87 : ∀ (N : tM) (L2 L3 : Option tV), (∃ t : Int, RN N t ∧ RV t ∧ TKF M N) → tT e d 2574 87 [some (.inr (.inr (.inl (79)))), some (.inr (.inr (.inl (1)))), L2, L3] [] N n (tQn n (fun M' => ∃ t : Int, RN M' t ∧ RV t ∧ TKF M M')) := by
    intro N L2 L3 h
    refine tb_X8_takeText_87 (c := false) ?_
    simp only [kb_X8_takeText_87, w_re, true_and, and_true, Nat.reduceAdd, Nat.reduceSub, eq_self]
    exact ⟨rfl, rfl, h⟩
  have nl : ∀ (fu : Nat) (N : tM) (i : Nat) (bh : Int), c - i = fu → i ≤ c → NMR N → TKF M N → ((ptS (fun k => M 2 (k : Int)) i = 0 ∧ bh = -1 ∧ N 80 1 = 0) ∨ (1 ≤ ptS (fun k => M 2 (k : Int)) i ∧ (0 ≤ bh ∧ bh ≤ (i : Int)) ∧ N 80 1 + (if 0 ≤ bh ∧ bh < 10 then TT (10 - bh.toNat) else 1) ≤ 10000000000)) → tT e d 2574 11 [some (.inr (.inr (.inl (79)))), some (.inr (.inr (.inl (1)))), some (.inl (bh)), some (.inl ((i : Int)))] [] N n (tQn n (fun M' => ∃ t : Int, RN M' t ∧ RV t ∧ TKF M M')) := by
    intro fu
    induction fu with
    | zero =>
      intro N i bh hf hi hN fN hb
      have ec : N 1 1 = (c : Int) := (fN.2 1 1 (by decide) (by decide)).trans hc
      have hp : N 80 1 < 10000000000 := by
        rcases hb with ⟨_, _, q⟩ | ⟨_, _, q⟩
        · omega
        · split at q
          · have := TT_pos (10 - bh.toNat)
            omega
          · omega
      obtain ⟨t, q1, q2⟩ := NMR_n hN hp
      have sr := sgA_r fN.1.1 0
      refine tb_X8_takeText_11 (c := false) ?_
      simp only [kb_X8_takeText_11, w_ild_3, w_ald_1, w_gf_12_1, tw_f, w_ic_ge, w_iv1, tfr_0, tfr_1, tfr_2, tfr_3, tfr_4, w_bi, w_ic_ne, w_ic, w_ist_2, tkl_n, tkl_i, tkl_l, tkl_r, w_goto, true_and, and_true, Nat.reduceAdd, Nat.reduceSub, eq_self, tsx_1, tsx_2, tyx_12, tyx_15, tcx_12, tsx_79, tsx_80, tyk_10, tcq_10, tyk_3, tcq_3]
      rw [ec]
      repeat refine And.intro (by omega) ?_
      refine ⟨fun _ => ?_, fun q => absurd (by omega) q⟩
      refine tb_X8_takeText_73 (c := false) ?_
      simp only [kb_X8_takeText_73, w_ald_1, w_ic, w_iv1, tfr_0, tfr_1, tfr_2, tfr_3, tfr_4, w_bi, w_ic_ne, w_ald_0, w_iv0, w_nil, true_and, and_true, Nat.reduceAdd, Nat.reduceSub, eq_self, tsx_1, tsx_2, tyx_12, tyx_15, tcx_12, tsx_79, tsx_80, tyk_10, tcq_10, tyk_3, tcq_3]
      refine tc_i (D := 0) (fun d' hd' => z_tat (by decide) fN.1.1) (by omega) ?_
      rintro z N1 ⟨rfl, rfl⟩
      try simp only [kb_X8_takeText_73, w_ald_1, w_ic, w_iv1, tfr_0, tfr_1, tfr_2, tfr_3, tfr_4, w_bi, w_ic_ne, w_ald_0, w_iv0, w_nil, true_and, and_true, Nat.reduceAdd, Nat.reduceSub, eq_self, tsx_1, tsx_2, tyx_12, tyx_15, tcx_12, tsx_79, tsx_80, tyk_10, tcq_10, tyk_3, tcq_3]
      repeat refine And.intro (by omega) ?_
      refine ⟨fun _ => n87 N1 _ _ ⟨t, q1, q2, fN⟩, fun _ => ?_⟩
      refine tc_n (D := 1) (fun d' hd' => y_rturn (b := 0) q1 q2 (by decide) fN.1.1 hd') (by omega) ?_
      rintro N2 ⟨q3, q4⟩
      try simp only [kb_X8_takeText_73, w_ald_1, w_ic, w_iv1, tfr_0, tfr_1, tfr_2, tfr_3, tfr_4, w_bi, w_ic_ne, w_ald_0, w_iv0, w_nil, true_and, and_true, Nat.reduceAdd, Nat.reduceSub, eq_self, tsx_1, tsx_2, tyx_12, tyx_15, tcx_12, tsx_79, tsx_80, tyk_10, tcq_10, tyk_3, tcq_3]
      refine n87 N2 _ _ ⟨-t, q3, ?_, TKF_tr fN ⟨⟨q4.1, q4.2.1⟩, fun k i a _ => q4.2.2 k i a⟩⟩
      unfold RV at q2 ⊢
      omega
    | succ fu ih =>
      intro N i bh hf hi hN fN hb
      have ec : N 1 1 = (c : Int) := (fN.2 1 1 (by decide) (by decide)).trans hc
      have es : sgA N (i : Int) = M 2 (i : Int) := by rw [sgN N _ fN]; unfold sgA; rw [if_pos (by omega)]
      have sr := sgA_r fN.1.1 (i : Int)
      rw [es] at sr
      have p1 : ptS (fun k => M 2 (k : Int)) (i + 1) = ptS (fun k => M 2 (k : Int)) i + (if M 2 (i : Int) = 46 then 1 else 0) := rfl
      have pm := ptS_m (fun k => M 2 (k : Int)) (show i + 1 ≤ c by omega)
      have n67 : ∀ (N2 : tM) (b2 : Int), NMR N2 → TKF M N2 → (-1 ≤ b2 ∧ b2 ≤ 60) → ((ptS (fun k => M 2 (k : Int)) (i + 1) = 0 ∧ b2 = -1 ∧ N2 80 1 = 0) ∨ (1 ≤ ptS (fun k => M 2 (k : Int)) (i + 1) ∧ (0 ≤ b2 ∧ b2 ≤ ((i + 1 : Nat) : Int)) ∧ N2 80 1 + (if 0 ≤ b2 ∧ b2 < 10 then TT (10 - b2.toNat) else 1) ≤ 10000000000)) → tT e d 2574 67 [some (.inr (.inr (.inl (79)))), some (.inr (.inr (.inl (1)))), some (.inl (b2)), some (.inl ((i : Int)))] [] N2 n (tQn n (fun M' => ∃ t : Int, RN M' t ∧ RV t ∧ TKF M M')) := by
        intro N2 b2 h1 h2 h3 h4
        refine tb_X8_takeText_67 (c := false) ?_
        simp only [kb_X8_takeText_67, w_inc3, tkl_n, tkl_i, tkl_l, tkl_r, w_goto, true_and, and_true, Nat.reduceAdd, Nat.reduceSub, eq_self]
        repeat refine And.intro (by omega) ?_
        rw [show ((i : Nat) : Int) + 1 = ((i + 1 : Nat) : Int) by omega]
        exact ih N2 (i + 1) b2 (by omega) (by omega) h1 h2 h4
      have hbr : -1 ≤ bh ∧ bh ≤ 60 := by omega
      refine tb_X8_takeText_11 (c := false) ?_
      simp only [kb_X8_takeText_11, w_ild_3, w_ald_1, w_gf_12_1, tw_f, w_ic_ge, w_iv1, tfr_0, tfr_1, tfr_2, tfr_3, tfr_4, w_bi, w_ic_ne, w_ic, w_ist_2, tkl_n, tkl_i, tkl_l, tkl_r, w_goto, true_and, and_true, Nat.reduceAdd, Nat.reduceSub, eq_self, tsx_1, tsx_2, tyx_12, tyx_15, tcx_12, tsx_79, tsx_80, tyk_10, tcq_10, tyk_3, tcq_3]
      rw [ec]
      repeat refine And.intro (by omega) ?_
      first | refine ⟨fun q => absurd q (by omega), fun _ => ?_⟩ | refine fun _ => ?_
      repeat refine And.intro (by omega) ?_
      refine tc_i (D := 0) (fun d' hd' => z_tat (by omega) fN.1.1) (by omega) ?_
      rintro z N1 ⟨rfl, rfl⟩
      rw [es]
      try simp only [kb_X8_takeText_11, w_ild_3, w_ald_1, w_gf_12_1, tw_f, w_ic_ge, w_iv1, tfr_0, tfr_1, tfr_2, tfr_3, tfr_4, w_bi, w_ic_ne, w_ic, w_ist_2, tkl_n, tkl_i, tkl_l, tkl_r, w_goto, true_and, and_true, Nat.reduceAdd, Nat.reduceSub, eq_self, tsx_1, tsx_2, tyx_12, tyx_15, tcx_12, tsx_79, tsx_80, tyk_10, tcq_10, tyk_3, tcq_3]
      repeat refine And.intro (by omega) ?_
      refine ⟨fun g => ?_, fun g => ?_⟩
      · -- a digit, or something else
        rw [if_neg g] at p1
        refine tb_X8_takeText_34 (c := false) ?_
        simp only [kb_X8_takeText_34, w_ald_1, w_ild_3, w_iv1, tfr_0, tfr_1, tfr_2, tfr_3, tfr_4, w_if_eq, w_ald_0, w_bi, w_isub, w_ild_2, w_iv2, w_if_ge, w_ic, w_goto, true_and, and_true, Nat.reduceAdd, Nat.reduceSub, eq_self, tsx_1, tsx_2, tyx_12, tyx_15, tcx_12, tsx_79, tsx_80, tyk_10, tcq_10, tyk_3, tcq_3]
        repeat refine And.intro (by omega) ?_
        refine tc_i (D := 1) (fun d' hd' => z_isDig (by omega) fN.1.1 hd') (by omega) ?_
        rintro z N2 ⟨hz, rfl⟩
        rw [es] at hz
        try simp only [kb_X8_takeText_34, w_ald_1, w_ild_3, w_iv1, tfr_0, tfr_1, tfr_2, tfr_3, tfr_4, w_if_eq, w_ald_0, w_bi, w_isub, w_ild_2, w_iv2, w_if_ge, w_ic, w_goto, true_and, and_true, Nat.reduceAdd, Nat.reduceSub, eq_self, tsx_1, tsx_2, tyx_12, tyx_15, tcx_12, tsx_79, tsx_80, tyk_10, tcq_10, tyk_3, tcq_3]
        repeat refine And.intro (by omega) ?_
        refine ⟨fun _ => n67 N2 bh hN fN hbr ?_, fun _ => ?_⟩
        · rcases hb with ⟨a1, a2, a3⟩ | ⟨a1, a2, a3⟩
          · exact Or.inl ⟨by omega, a2, a3⟩
          · exact Or.inr ⟨by omega, by omega, a3⟩
        repeat refine And.intro (by omega) ?_
        refine tc_i (D := 0) (fun d' hd' => z_tat (by omega) fN.1.1) (by omega) ?_
        rintro z2 N3 ⟨rfl, rfl⟩
        rw [es]
        try simp only [kb_X8_takeText_34, w_ald_1, w_ild_3, w_iv1, tfr_0, tfr_1, tfr_2, tfr_3, tfr_4, w_if_eq, w_ald_0, w_bi, w_isub, w_ild_2, w_iv2, w_if_ge, w_ic, w_goto, true_and, and_true, Nat.reduceAdd, Nat.reduceSub, eq_self, tsx_1, tsx_2, tyx_12, tyx_15, tcx_12, tsx_79, tsx_80, tyk_10, tcq_10, tyk_3, tcq_3]
        repeat refine And.intro (by omega) ?_
        have hpp : N3 80 1 + (if 0 ≤ bh ∧ bh < 10 then TT (10 - bh.toNat) else 1) ≤ 10000000000 := by
          rcases hb with ⟨a1, a2, a3⟩ | ⟨a1, a2, a3⟩
          · rw [if_neg (by omega)]
            omega
          · exact a3
        refine tc_n (D := 0) (fun d' hd' => z_takeDigit (by omega) hbr hN hpp fN.1.1) (by omega) ?_
        rintro N4 ⟨h1, h2, h3⟩
        have fN4 := TKF_tr fN h2
        try simp only [kb_X8_takeText_34, w_ald_1, w_ild_3, w_iv1, tfr_0, tfr_1, tfr_2, tfr_3, tfr_4, w_if_eq, w_ald_0, w_bi, w_isub, w_ild_2, w_iv2, w_if_ge, w_ic, w_goto, true_and, and_true, Nat.reduceAdd, Nat.reduceSub, eq_self, tsx_1, tsx_2, tyx_12, tyx_15, tcx_12, tsx_79, tsx_80, tyk_10, tcq_10, tyk_3, tcq_3]
        have n65 : ∀ x : Int, (x = 0 ∧ bh < 0) ∨ (x = 1 ∧ 0 ≤ bh) → tT e d 2574 65 [some (.inr (.inr (.inl (79)))), some (.inr (.inr (.inl (1)))), some (.inl (bh)), some (.inl ((i : Int)))] [.inl x, .inl bh] N4 n (tQn n (fun M' => ∃ t : Int, RN M' t ∧ RV t ∧ TKF M M')) := by
          intro x hx
          refine tb_X8_takeText_65 (c := false) ?_
          simp only [kb_X8_takeText_65, w_iadd, w_ist_2, tkl_n, tkl_i, tkl_l, tkl_r, w_nil, true_and, and_true, Nat.reduceAdd, Nat.reduceSub, eq_self]
          repeat refine And.intro (by omega) ?_
          refine n67 N4 (bh + x) h1 fN4 (by omega) ?_
          rcases hb with ⟨a1, a2, a3⟩ | ⟨a1, a2, a3⟩
          · rw [if_neg (by omega)] at h3
            exact Or.inl ⟨by omega, by omega, by omega⟩
          · refine Or.inr ⟨by omega, by omega, ?_⟩
            have x1 : x = 1 := by omega
            subst x1
            by_cases q : bh < 10
            · rw [if_pos (by omega)] at h3
              by_cases q2 : bh < 9
              · rw [if_pos (by omega), show 10 - (bh + 1).toNat = 9 - bh.toNat by omega]
                exact h3
              · rw [if_neg (by omega)]
                have := TT_pos (9 - bh.toNat)
                omega
            · rw [if_neg (by omega)] at h3 a3
              rw [if_neg (by omega), h3]
              exact a3
        repeat refine And.intro (by omega) ?_
        refine ⟨fun _ => ?_, fun _ => n65 0 (Or.inl ⟨rfl, by omega⟩)⟩
        refine tb_X8_takeText_64 (c := false) ?_
        simp only [kb_X8_takeText_64, w_ic, w_nil, true_and, and_true, Nat.reduceAdd, Nat.reduceSub, eq_self]
        exact n65 1 (Or.inr ⟨rfl, by omega⟩)
      · rw [if_pos (by omega)] at p1
        refine n67 N1 0 hN fN (by decide) (Or.inr ⟨by omega, by omega, ?_⟩)
        have hz0 : N1 80 1 = 0 := by
          rcases hb with ⟨a1, a2, a3⟩ | ⟨a1, a2, a3⟩
          · exact a3
          · omega
        rw [if_pos (by decide), hz0]
        show (0 : Int) + TT 10 ≤ _
        rw [TT_10]
        decide
  refine tb_X8_takeText_0 (c := false) ?_
  simp only [kb_X8_takeText_0, w_ald_0, w_lc0, w_ic, w_iv3, tfr_0, tfr_1, tfr_2, tfr_3, tfr_4, w_ist_2, tkl_n, tkl_i, tkl_l, tkl_r, w_ist_3, w_nil, true_and, and_true, Nat.reduceAdd, Nat.reduceSub, eq_self, tsx_1, tsx_2, tyx_12, tyx_15, tcx_12, tsx_79, tsx_80, tyk_10, tcq_10, tyk_3, tcq_3]
  refine tc_n (D := 0) (fun d' hd' => y_rassign (b := 0) (by decide) (by decide) (by decide) hC) (by omega) ?_
  rintro N ⟨⟨⟨q1, q2⟩, q3⟩, q4, q5⟩
  try simp only [kb_X8_takeText_0, w_ald_0, w_lc0, w_ic, w_iv3, tfr_0, tfr_1, tfr_2, tfr_3, tfr_4, w_ist_2, tkl_n, tkl_i, tkl_l, tkl_r, w_ist_3, w_nil, true_and, and_true, Nat.reduceAdd, Nat.reduceSub, eq_self, tsx_1, tsx_2, tyx_12, tyx_15, tcx_12, tsx_79, tsx_80, tyk_10, tcq_10, tyk_3, tcq_3]
  have z1 : N 80 0 = 0 := q1
  have z2 : N 80 1 = 0 := q2
  have z3 : N 79 1 = 0 := q3
  refine nl c N 0 (-1) rfl (by omega) ⟨⟨by omega, by omega⟩, by omega⟩ ⟨q4, q5⟩ (Or.inl ⟨rfl, rfl, z2⟩)
theorem z_tellText {c : Nat} (hc : M 1 1 = (c : Int)) (hpt : ptS (fun k => M 2 (k : Int)) c ≤ 1) (hK : KW M) (hC : CI M) (hd : 3 ≤ d) : tC e d 523 [.inr (.inr (.inl 78)), .inr (.inr (.inl 113)), .inr (.inr (.inl 1))] M n (tQi n (fun z M' => (0 ≤ z ∧ z ≤ 2) ∧ (z = 0 → BXG M' 113) ∧ RO M' ∧ MKF 0 M M' ∧ M' 77 2 = M 77 2)) := by
  refine tst_X0_tellText ?_
  refine tb_X0_tellText_0 (c := false) ?_
  simp only [kb_X0_tellText_0, w_ald_0, w_gf_2_0, tw_f, w_ald_2, w_iv1, tfr_0, tfr_1, tfr_2, tfr_3, tfr_4, w_ald_1, w_ire, trg, true_and, and_true, Nat.reduceAdd, Nat.reduceSub, eq_self, tsh_78, tyk_2, tcq_2, tsx_79, tyk_10, tcq_10, tyk_4, tcq_4, tsx_1, tyx_12, tcx_12, tsh_113]
  refine tc_n (D := 2) (fun d' hd' => z_takeText hc hpt hC hd') (by omega) ?_
  rintro M1 ⟨t, q1, q2, f1⟩
  have hu := KU hK hC
  have u1 : M1 78 5 = M 78 5 := f1.2 78 5 (by decide) (by decide)
  try simp only [kb_X0_tellText_0, w_ald_0, w_gf_2_0, tw_f, w_ald_2, w_iv1, tfr_0, tfr_1, tfr_2, tfr_3, tfr_4, w_ald_1, w_ire, trg, true_and, and_true, Nat.reduceAdd, Nat.reduceSub, eq_self, tsh_78, tyk_2, tcq_2, tsx_79, tyk_10, tcq_10, tyk_4, tcq_4, tsx_1, tyx_12, tcx_12, tsh_113]
  refine tc_i (D := 2) (fun d' hd' => z_told (b := 0) cl_113 q1 q2 (by rw [u1]; exact hu) (by decide) f1.1.1 hd') (by omega) ?_
  rintro z M2 ⟨⟨h1, h2⟩, f2⟩
  try simp only [kb_X0_tellText_0, w_ald_0, w_gf_2_0, tw_f, w_ald_2, w_iv1, tfr_0, tfr_1, tfr_2, tfr_3, tfr_4, w_ald_1, w_ire, trg, true_and, and_true, Nat.reduceAdd, Nat.reduceSub, eq_self, tsh_78, tyk_2, tcq_2, tsx_79, tyk_10, tcq_10, tyk_4, tcq_4, tsx_1, tyx_12, tcx_12, tsh_113]
  have ro : RO M2 := RO_b (RO_u hK.1.1.2 (f1.2 79 4 (by decide) (by decide)) (f1.2 79 5 (by decide) (by decide))) f2 (by decide)
  refine ⟨_, rfl, rfl, ST_2 h2, fun hz => ⟨(_, _), h1, ST_0 h2 hz, dnup_o (by rw [u1]; exact hu) (Int.le_refl _)⟩, ro, ⟨⟨f2.1.1, pE_tr f1.1.2 f2.1.2⟩, fun i q => (f2.2 77 i (by decide) (by decide)).trans (f1.2 77 i (by decide) (by omega)), fun k i q => (f2.2 k i (by omega) (by omega)).trans (f1.2 k i (by omega) (by omega))⟩, (f2.2 77 2 (by decide) (by decide)).trans (f1.2 77 2 (by decide) (by decide))⟩
theorem z_makeFrom {c : Nat} (ht : M 77 2 = 0) (hc : M 1 1 = (c : Int)) (hpt : ptS (fun k => M 2 (k : Int)) c ≤ 1) (hK : KW M) (hC : CI M) (hd : 4 ≤ d) : tC e d 2056 [.inr (.inr (.inl 77)), .inr (.inr (.inl 1))] M n (tQi n (fun z M' => (0 ≤ z ∧ z ≤ 2) ∧ KA M M' ∧ (z = 0 → ∃ B : Nat → Int × Int, SK M' 1 B))) := by
  refine tst_X6_makeFrom ?_
  refine tb_X6_makeFrom_0 (c := false) ?_
  simp only [kb_X6_makeFrom_0, w_ald_0, w_gf_8_2, tw_f, w_si, w_ic_lt, w_ic, w_ire, trg, true_and, and_true, Nat.reduceAdd, Nat.reduceSub, eq_self, tsh_77, tyk_8, tcq_8, tsh_78, tyk_2, tcq_2, tyk_4, tcq_4, tsh_113, tsx_1, tyx_12, tcx_12]
  rw [ht]
  repeat refine And.intro (by omega) ?_
  refine ⟨fun _ => ?_, fun q => absurd (by omega) q⟩
  refine tb_X6_makeFrom_12 (c := false) ?_
  simp only [kb_X6_makeFrom_12, w_ald_0, w_dupi, w_dupr, w_gf_8_2, tw_f, w_ic, w_iadd, w_pf_8_2, w_gf_8_0, w_iv0, tfr_0, tfr_1, tfr_2, tfr_3, tfr_4, w_ald_1, w_iv2, w_ire, trg, true_and, and_true, Nat.reduceAdd, Nat.reduceSub, eq_self, tsh_77, tyk_8, tcq_8, tsh_78, tyk_2, tcq_2, tyk_4, tcq_4, tsh_113, tsx_1, tyx_12, tcx_12]
  rw [ht]
  repeat refine And.intro (by omega) ?_
  have ft := MKF_top (b := 0) (M := M) (v := 1) (by decide) hC (by decide)
  have tk : ∀ (k : Nat) (i : Int), k ≠ 77 → tU M 77 2 1 k i = M k i := fun k i q => tU_nk q
  have t2 : tU M 77 2 1 77 2 = 1 := tU_eq ..
  have k1 := KA_m hK (RO_u hK.1.1.2 (tk 79 4 (by decide)) (tk 79 5 (by decide))) ft
  rw [show (0 : Int) + 1 = 1 from rfl]
  generalize tU M 77 2 1 = M1 at *
  refine tc_r (D := 1) (fun d' hd' => z_result t2 hd') (by omega) ?_
  rintro y M2 ⟨rfl, rfl⟩
  try simp only [kb_X6_makeFrom_12, w_ald_0, w_dupi, w_dupr, w_gf_8_2, tw_f, w_ic, w_iadd, w_pf_8_2, w_gf_8_0, w_iv0, tfr_0, tfr_1, tfr_2, tfr_3, tfr_4, w_ald_1, w_iv2, w_ire, trg, true_and, and_true, Nat.reduceAdd, Nat.reduceSub, eq_self, tsh_77, tyk_8, tcq_8, tsh_78, tyk_2, tcq_2, tyk_4, tcq_4, tsh_113, tsx_1, tyx_12, tcx_12]
  have ea : (fun k : Nat => M2 2 (k : Int)) = fun k : Nat => M 2 (k : Int) := funext fun k => tk 2 _ (by decide)
  refine tc_i (D := 3) (fun d' hd' => z_tellText (c := c) ((tk 1 1 (by decide)).trans hc) (by rw [ea]; exact hpt) k1.2 k1.1.1 hd') (by omega) ?_
  rintro z M3 ⟨h1, h2, h3, h4, h5⟩
  try simp only [kb_X6_makeFrom_12, w_ald_0, w_dupi, w_dupr, w_gf_8_2, tw_f, w_ic, w_iadd, w_pf_8_2, w_gf_8_0, w_iv0, tfr_0, tfr_1, tfr_2, tfr_3, tfr_4, w_ald_1, w_iv2, w_ire, trg, true_and, and_true, Nat.reduceAdd, Nat.reduceSub, eq_self, tsh_77, tyk_8, tcq_8, tsh_78, tyk_2, tcq_2, tyk_4, tcq_4, tsh_113, tsx_1, tyx_12, tcx_12]
  refine ⟨_, rfl, rfl, h1, KA_tr k1.1.2 (KA_m k1.2 h3 h4), fun hz => ?_⟩
  obtain ⟨v, v1, v2⟩ := h2 hz
  refine ⟨fun _ => v, h5.trans t2, fun i hi => ?_⟩
  have hi0 : i = 0 := by omega
  subst hi0
  exact ⟨v1, v2⟩
theorem v_read {x1 : Int} (h1 : (-2147483648 ≤ x1 ∧ x1 ≤ 2147483647)) (hK : KW M) (hC : CI M) (hd : 6 ≤ d) : tC e d 3383 [.inr (.inr (.inl 0)), .inl x1] M n (tQx n (tQi n (fun z M' => (0 ≤ z ∧ z ≤ 1) ∧ KA M M')) (fun _ M' => KA M M')) := by
  have t1 := tx_r hC
  obtain ⟨c, hc⟩ : ∃ c : Nat, M 1 1 = (c : Int) := ⟨(M 1 1).toNat, by omega⟩
  refine tst_X11_read ?_
  refine tb_X11_read_0 (c := true) ?_
  simp only [kb_X11_read_0, w_ald_0, w_ild_1, w_iv1, tfr_0, tfr_1, tfr_2, tfr_3, tfr_4, w_gf_13_1, tw_t, w_iv0, w_if_ne, w_new, w64_r, true_and, and_true, Nat.reduceAdd, Nat.reduceSub, eq_self, tsh_0, tyk_13, tcq_13, tsh_77, tyk_8, tcq_8, tsx_1, tyx_12, tcx_12]
  refine tz_xn (D := 0) (fun d' hd' => k_X11_checkShelf cl_0 h1 hd') hC (by omega) rfl ?_ (fun s q => Or.inr ⟨_, rfl, rfl, KA_refl hC hK⟩)
  intro a1
  try simp only [kb_X11_read_0, w_ald_0, w_ild_1, w_iv1, tfr_0, tfr_1, tfr_2, tfr_3, tfr_4, w_gf_13_1, tw_t, w_iv0, w_if_ne, w_new, w64_r, true_and, and_true, Nat.reduceAdd, Nat.reduceSub, eq_self, tsh_0, tyk_13, tcq_13, tsh_77, tyk_8, tcq_8, tsx_1, tyx_12, tcx_12]
  refine tc_i (D := 2) (fun d' hd' => z_isNumber hc hC hd') (by omega) ?_
  rintro z M1 ⟨hz, hp, rfl⟩
  try simp only [kb_X11_read_0, w_ald_0, w_ild_1, w_iv1, tfr_0, tfr_1, tfr_2, tfr_3, tfr_4, w_gf_13_1, tw_t, w_iv0, w_if_ne, w_new, w64_r, true_and, and_true, Nat.reduceAdd, Nat.reduceSub, eq_self, tsh_0, tyk_13, tcq_13, tsh_77, tyk_8, tcq_8, tsx_1, tyx_12, tcx_12]
  repeat refine And.intro (by omega) ?_
  refine ⟨fun q => ?_, fun _ => Or.inr ⟨_, rfl, rfl, KA_refl hC hK⟩⟩
  refine tb_X11_read_25 (c := true) ?_
  simp only [kb_X11_read_25, w_ald_0, w_gf_13_4, tw_t, w_iv0, tfr_0, tfr_1, tfr_2, tfr_3, tfr_4, w_ild_1, w_gf_13_1, w_iv1, w_iv2, w_ist_2, tkl_n, tkl_i, tkl_l, tkl_r, w_ild_2, w_ire, trg, w64_r, true_and, and_true, Nat.reduceAdd, Nat.reduceSub, eq_self, tsh_0, tyk_13, tcq_13, tsh_77, tyk_8, tcq_8, tsx_1, tyx_12, tcx_12]
  refine tc_n (D := 0) (fun d' hd' => z_clear (b := 0) (by decide) hC) (by omega) ?_
  rintro M2 ⟨b1, _, b2, b3⟩
  have k2 := KA_m hK (RO_u hK.1.1.2 (b2 79 4 (by decide)) (b2 79 5 (by decide))) b3
  try simp only [kb_X11_read_25, w_ald_0, w_gf_13_4, tw_t, w_iv0, tfr_0, tfr_1, tfr_2, tfr_3, tfr_4, w_ild_1, w_gf_13_1, w_iv1, w_iv2, w_ist_2, tkl_n, tkl_i, tkl_l, tkl_r, w_ild_2, w_ire, trg, w64_r, true_and, and_true, Nat.reduceAdd, Nat.reduceSub, eq_self, tsh_0, tyk_13, tcq_13, tsh_77, tyk_8, tcq_8, tsx_1, tyx_12, tcx_12]
  have ea : (fun k : Nat => M2 2 (k : Int)) = fun k : Nat => M1 2 (k : Int) := funext fun k => b2 2 _ (by decide)
  refine tc_i (D := 4) (fun d' hd' => z_makeFrom (c := c) b1 ((b2 1 1 (by decide)).trans hc) (by rw [ea]; exact hp (by omega)) k2.2 k2.1.1 hd') (by omega) ?_
  rintro z3 M3 ⟨hz3, k3, v3⟩
  have kk3 := KA_tr k2.1.2 k3
  try simp only [kb_X11_read_25, w_ald_0, w_gf_13_4, tw_t, w_iv0, tfr_0, tfr_1, tfr_2, tfr_3, tfr_4, w_ild_1, w_gf_13_1, w_iv1, w_iv2, w_ist_2, tkl_n, tkl_i, tkl_l, tkl_r, w_ild_2, w_ire, trg, w64_r, true_and, and_true, Nat.reduceAdd, Nat.reduceSub, eq_self, tsh_0, tyk_13, tcq_13, tsh_77, tyk_8, tcq_8, tsx_1, tyx_12, tcx_12]
  refine tc_xi (D := 5) (fun d' hd' => v_become a1 hz3 v3 kk3.2 kk3.1.1 hd') (by omega) rfl ?_ (fun s M' q => Or.inr ⟨_, rfl, rfl, KA_tr kk3.1.2 q⟩)
  rintro z4 M4 ⟨p1, p2⟩
  have kk4 := KA_tr kk3.1.2 p2
  try simp only [kb_X11_read_25, w_ald_0, w_gf_13_4, tw_t, w_iv0, tfr_0, tfr_1, tfr_2, tfr_3, tfr_4, w_ild_1, w_gf_13_1, w_iv1, w_iv2, w_ist_2, tkl_n, tkl_i, tkl_l, tkl_r, w_ild_2, w_ire, trg, w64_r, true_and, and_true, Nat.reduceAdd, Nat.reduceSub, eq_self, tsh_0, tyk_13, tcq_13, tsh_77, tyk_8, tcq_8, tsx_1, tyx_12, tcx_12]
  refine tc_n (D := 0) (fun d' hd' => z_tclear (Or.inl rfl) kk4.1.1) (by omega) ?_
  rintro M5 f5
  try simp only [kb_X11_read_25, w_ald_0, w_gf_13_4, tw_t, w_iv0, tfr_0, tfr_1, tfr_2, tfr_3, tfr_4, w_ild_1, w_gf_13_1, w_iv1, w_iv2, w_ist_2, tkl_n, tkl_i, tkl_l, tkl_r, w_ild_2, w_ire, trg, w64_r, true_and, and_true, Nat.reduceAdd, Nat.reduceSub, eq_self, tsh_0, tyk_13, tcq_13, tsh_77, tyk_8, tcq_8, tsx_1, tyx_12, tcx_12]
  exact ⟨by omega, Or.inl ⟨_, rfl, rfl, p1, KA_tr kk4.1.2 (KA_tx kk4.2 f5)⟩⟩
end HAND
