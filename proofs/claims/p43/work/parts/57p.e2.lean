/-! THE CLASS BY VALUES: e to the power. -/
theorem smn_r {neg : Bool} {st : Int} (hs : 0 ≤ st ∧ st ≤ 125000000000000000000000000000000000000000000000000000) : ∀ k : Nat, 0 ≤ smn neg st k ∧ smn neg st k ≤ 2 * 1000000000000000000000000000000000000000000000000000000 := by
  intro k
  match k with
  | 0 => exact ⟨by show (0 : Int) ≤ 1000000000000000000000000000000000000000000000000000000; decide, by show (1000000000000000000000000000000000000000000000000000000 : Int) ≤ 2 * 1000000000000000000000000000000000000000000000000000000; decide⟩
  | k + 1 =>
    have g := smn_b hs k
    have r := tmn_r hs (k + 1)
    have t1 := tmn_1 hs
    cases neg
    · omega
    · omega
theorem TT_54 : TT 54 = 1000000000000000000000000000000000000000000000000000000 := by
  unfold TT
  rw [tn_def]
  rfl
theorem TT_63 : TT 63 = 1000000000000000000000000000000000000000000000000000000 * 1000000000 := by
  unfold TT
  rw [tn_def]
  rfl
/-- the whole sum -/
noncomputable def cxS (neg : Bool) (st : Int) : Int := Classical.choose (show ∃ N : Int, N = smn neg st 499 from ⟨_, rfl⟩)
theorem cxS_def (neg : Bool) (st : Int) : cxS neg st = smn neg st 499 := Classical.choose_spec (show ∃ N : Int, N = smn neg st 499 from ⟨_, rfl⟩)
/-- the step of a number's powers -/
def exst (v : Int) : Int := (if v < 0 then -v else v) * 390625 * 1000000000000000000000000000000000000
theorem exst_r {v : Int} (rv : -310000000000 < v ∧ v < 310000000000) : 0 ≤ exst v ∧ exst v ≤ 125000000000000000000000000000000000000000000000000000 := by
  unfold exst
  split <;> omega
/-- the cells of the step, the term and the sum -/
def SPF (b : Nat) (M M' : tM) : Prop := (CI M' ∧ pE b M M') ∧ ∀ (k : Nat) (i : Int), (k < 90 ∨ 98 < k) → M' k i = M k i
theorem SPF_tr {b : Nat} {M M1 M2 : tM} (h1 : SPF b M M1) (h2 : SPF b M1 M2) : SPF b M M2 := ⟨⟨h2.1.1, pE_tr h1.1.2 h2.1.2⟩, fun k i g => (h2.2 k i g).trans (h1.2 k i g)⟩
theorem SPF_g {b r : Nat} {M M1 : tM} (hr : r = 90 ∨ r = 93 ∨ r = 96) (h : GE b M M1 r) : SPF b M M1 := ⟨h.1, fun k i g => h.2 k i (by omega) (by omega)⟩
section HAND
variable {e : tE} {b d n : Nat} {M : tM}
theorem f_sumPowers {x : Nat} {v : Int} (h1 : cl x 3) (hv : BB M x v) (rv : -310000000000 < v ∧ v < 310000000000) (hb : b < 2) (hC : CI M) (hd : 1 ≤ d) : tC e d 1289 [.inr (.inr (.inl 86)), .inr (.inr (.inl x))] M n (tQn n (fun M' => LX M' 96 (cxS (decide (v < 0)) (exst v)) ∧ SPF b M M')) := by
  have hx := h1.1
  have rs := exst_r rv
  generalize hS : exst v = st at *
  obtain ⟨v1, v2⟩ := hv
  refine tst_X3_sumPowers ?_
  have n110 : ∀ (fu : Nat) (M1 : tM) (k : Nat) (z hl : Int), 499 - k = fu → k ≤ 499 → ((z = 1 ∧ v < 0) ∨ (z = 0 ∧ ¬ v < 0)) → LX M1 90 st → LX M1 93 (tmn st k) → LX M1 96 (smn (decide (v < 0)) st k) → SPF b M M1 → tT e d 1289 110 [some (.inr (.inr (.inl (86)))), some (.inr (.inr (.inl (x)))), some (.inr (.inl (v))), none, some (.inl (z)), some (.inr (.inl (hl))), none, some (.inl ((k : Int) + 1))] [] M1 n (tQn n (fun M' => LX M' 96 (cxS (decide (v < 0)) st) ∧ SPF b M M')) := by
    intro fu
    induction fu with
    | zero =>
      intro M1 k z hl hf hk hz a1 a2 a3 a4
      have hke : k = 499 := by omega
      subst hke
      refine tb_X3_sumPowers_110 (c := false) ?_
      simp only [kb_X3_sumPowers_110, w_ild7, w_si, w_ic_ge, w_ald_0, w_gf_5_5, tw_f, w_gf_5_4, w_iv2, tfr_0, tfr_1, tfr_2, tfr_3, tfr_4, w_iv1, w_iv0, w_if_eq, w_goto, true_and, and_true, Nat.reduceAdd, Nat.reduceSub, eq_self, tsh_86, tyk_5, tcq_5, tsh_87, tsh_90, tsh_93, tsh_96, tsh_99, tsh_102, tyk_6, tcq_6, tsh_79, tyk_10, tcq_10, tyk_3, tcq_3]
      repeat refine And.intro (by omega) ?_
      refine ⟨fun _ => ?_, fun q => absurd (by omega) q⟩
      refine tb_X3_sumPowers_199 (c := false) ?_
      simp only [kb_X3_sumPowers_199, w_re, true_and, and_true, Nat.reduceAdd, Nat.reduceSub, eq_self]
      rw [← cxS_def] at a3
      exact ⟨rfl, rfl, a3, a4⟩
    | succ fu ih =>
      intro M1 k z hl hf hk hz a1 a2 a3 a4
      have rt := tmn_r rs k
      have rt1 := tmn_r rs (k + 1)
      have rm := smn_r (neg := decide (v < 0)) rs k
      have p1 : st * tmn st k ≤ 125000000000000000000000000000000000000000000000000000 * 1000000000000000000000000000000000000000000000000000000 := Int.mul_le_mul rs.2 rt.2 rt.1 (by decide)
      refine tb_X3_sumPowers_110 (c := false) ?_
      simp only [kb_X3_sumPowers_110, w_ild7, w_si, w_ic_ge, w_ald_0, w_gf_5_5, tw_f, w_gf_5_4, w_iv2, tfr_0, tfr_1, tfr_2, tfr_3, tfr_4, w_iv1, w_iv0, w_if_eq, w_goto, true_and, and_true, Nat.reduceAdd, Nat.reduceSub, eq_self, tsh_86, tyk_5, tcq_5, tsh_87, tsh_90, tsh_93, tsh_96, tsh_99, tsh_102, tyk_6, tcq_6, tsh_79, tyk_10, tcq_10, tyk_3, tcq_3]
      repeat refine And.intro (by omega) ?_
      first | refine ⟨fun q => absurd q (by omega), fun _ => ?_⟩ | refine fun _ => ?_
      refine tc_n (D := 0) (fun d' hd' => f_toProduct (b := b) fx_93 fx_90 fx_93 a1 a2 (by omega) hb a4.1.1) (by omega) ?_
      rintro M2 ⟨q1, q2⟩
      try simp only [kb_X3_sumPowers_110, w_ild7, w_si, w_ic_ge, w_ald_0, w_gf_5_5, tw_f, w_gf_5_4, w_iv2, tfr_0, tfr_1, tfr_2, tfr_3, tfr_4, w_iv1, w_iv0, w_if_eq, w_goto, true_and, and_true, Nat.reduceAdd, Nat.reduceSub, eq_self, tsh_86, tyk_5, tcq_5, tsh_87, tsh_90, tsh_93, tsh_96, tsh_99, tsh_102, tyk_6, tcq_6, tsh_79, tyk_10, tcq_10, tyk_3, tcq_3]
      refine tc_n (D := 0) (fun d' hd' => f_over (b := b) (D := (k : Int) + 1) fx_93 q1 (by omega) hb q2.1.1) (by omega) ?_
      rintro M3 ⟨q3, q4⟩
      try simp only [kb_X3_sumPowers_110, w_ild7, w_si, w_ic_ge, w_ald_0, w_gf_5_5, tw_f, w_gf_5_4, w_iv2, tfr_0, tfr_1, tfr_2, tfr_3, tfr_4, w_iv1, w_iv0, w_if_eq, w_goto, true_and, and_true, Nat.reduceAdd, Nat.reduceSub, eq_self, tsh_86, tyk_5, tcq_5, tsh_87, tsh_90, tsh_93, tsh_96, tsh_99, tsh_102, tyk_6, tcq_6, tsh_79, tyk_10, tcq_10, tyk_3, tcq_3]
      rw [show tpv st (tmn st k) / ((k : Int) + 1) = tmn st (k + 1) from rfl] at q3
      refine tc_i (D := 0) (fun d' hd' => f_isZero fx_93 q3) (by omega) ?_
      rintro w M4 ⟨q5, rfl⟩
      try simp only [kb_X3_sumPowers_110, w_ild7, w_si, w_ic_ge, w_ald_0, w_gf_5_5, tw_f, w_gf_5_4, w_iv2, tfr_0, tfr_1, tfr_2, tfr_3, tfr_4, w_iv1, w_iv0, w_if_eq, w_goto, true_and, and_true, Nat.reduceAdd, Nat.reduceSub, eq_self, tsh_86, tyk_5, tcq_5, tsh_87, tsh_90, tsh_93, tsh_96, tsh_99, tsh_102, tyk_6, tcq_6, tsh_79, tyk_10, tcq_10, tyk_3, tcq_3]
      have g2 := GE_tr q2 q4
      have b1 : LX M4 90 st := LX_u a1 (fun i => g2.2 _ _ (by decide) (by decide))
      have b3 : LX M4 96 (smn (decide (v < 0)) st k) := LX_u a3 (fun i => g2.2 _ _ (by decide) (by decide))
      have b4 := SPF_tr a4 (SPF_g (Or.inr (Or.inl rfl)) g2)
      repeat refine And.intro (by omega) ?_
      refine ⟨fun g => ?_, fun g => ?_⟩
      · -- goes on
        have n193 : ∀ M5 : tM, LX M5 96 (smn (decide (v < 0)) st (k + 1)) → GE b M4 M5 96 → tT e d 1289 193 [some (.inr (.inr (.inl (86)))), some (.inr (.inr (.inl (x)))), some (.inr (.inl (v))), none, some (.inl (z)), some (.inr (.inl (hl))), none, some (.inl ((k : Int) + 1))] [] M5 n (tQn n (fun M' => LX M' 96 (cxS (decide (v < 0)) st) ∧ SPF b M M')) := by
          intro M5 c1 c2
          refine tb_X3_sumPowers_193 (c := false) ?_
          simp only [kb_X3_sumPowers_193, w_inc7, tkl_n, tkl_i, tkl_l, tkl_r, w_goto, true_and, and_true, Nat.reduceAdd, Nat.reduceSub, eq_self]
          repeat refine And.intro (by omega) ?_
          rw [show ((k : Nat) : Int) + 1 + 1 = ((k + 1 : Nat) : Int) + 1 by omega]
          exact ih M5 (k + 1) z hl (by omega) (by omega) hz (LX_u b1 (fun i => c2.2 _ _ (by decide) (by decide))) (LX_u q3 (fun i => c2.2 _ _ (by decide) (by decide))) c1 (SPF_tr b4 (SPF_g (Or.inr (Or.inr rfl)) c2))
        have n182 : ¬ (v < 0 ∧ k % 2 = 0) → tT e d 1289 182 [some (.inr (.inr (.inl (86)))), some (.inr (.inr (.inl (x)))), some (.inr (.inl (v))), none, some (.inl (z)), some (.inr (.inl (hl))), none, some (.inl ((k : Int) + 1))] [] M4 n (tQn n (fun M' => LX M' 96 (cxS (decide (v < 0)) st) ∧ SPF b M M')) := by
          intro hn
          refine tb_X3_sumPowers_182 (c := false) ?_
          simp only [kb_X3_sumPowers_182, w_ald_0, w_gf_5_6, tw_f, w_gf_5_5, w_iv1, tfr_0, tfr_1, tfr_2, tfr_3, tfr_4, w_nil, true_and, and_true, Nat.reduceAdd, Nat.reduceSub, eq_self, tsh_86, tyk_5, tcq_5, tsh_87, tsh_90, tsh_93, tsh_96, tsh_99, tsh_102, tyk_6, tcq_6, tsh_79, tyk_10, tcq_10, tyk_3, tcq_3]
          refine tc_n (D := 0) (fun d' hd' => f_plus (b := b) fx_96 fx_93 b3 q3 (by omega) hb b4.1.1) (by omega) ?_
          rintro M5 ⟨c1, c2⟩
          try simp only [kb_X3_sumPowers_182, w_ald_0, w_gf_5_6, tw_f, w_gf_5_5, w_iv1, tfr_0, tfr_1, tfr_2, tfr_3, tfr_4, w_nil, true_and, and_true, Nat.reduceAdd, Nat.reduceSub, eq_self, tsh_86, tyk_5, tcq_5, tsh_87, tsh_90, tsh_93, tsh_96, tsh_99, tsh_102, tyk_6, tcq_6, tsh_79, tyk_10, tcq_10, tyk_3, tcq_3]
          refine n193 M5 ?_ c2
          rw [smn_s, if_neg (fun q => hn ⟨of_decide_eq_true q.1, q.2⟩)]
          exact c1
        refine tb_X3_sumPowers_155 (c := false) ?_
        simp only [kb_X3_sumPowers_155, w_ild4, w_if_eq, w_ild7, w_ic, w_irem, w_ic_ne, w_ald_0, w_gf_5_6, tw_f, w_gf_5_5, w_iv1, tfr_0, tfr_1, tfr_2, tfr_3, tfr_4, w_goto, true_and, and_true, Nat.reduceAdd, Nat.reduceSub, eq_self, tsh_86, tyk_5, tcq_5, tsh_87, tsh_90, tsh_93, tsh_96, tsh_99, tsh_102, tyk_6, tcq_6, tsh_79, tyk_10, tcq_10, tyk_3, tcq_3]
        repeat refine And.intro (by omega) ?_
        refine ⟨fun g2 => n182 (by omega), fun g2 => ?_⟩
        have td := td_e (y := (k : Int) + 1) (q := 2) (by omega)
        repeat refine And.intro (by omega) ?_
        rw [td.2]
        repeat refine And.intro (by omega) ?_
        refine ⟨fun g3 => n182 (by omega), fun g3 => ?_⟩
        have hv0 : v < 0 := by omega
        have hk2 : k % 2 = 0 := by omega
        have es : smn (decide (v < 0)) st (k + 1) = smn (decide (v < 0)) st k - tmn st (k + 1) := by rw [smn_s, if_pos ⟨decide_eq_true hv0, hk2⟩]
        have r1 := (smn_r (neg := decide (v < 0)) rs (k + 1)).1
        rw [es] at r1
        refine tc_n (D := 0) (fun d' hd' => f_minus (b := b) fx_96 fx_93 b3 q3 (by omega) hb b4.1.1) (by omega) ?_
        rintro M5 ⟨c1, c2⟩
        try simp only [kb_X3_sumPowers_155, w_ild4, w_if_eq, w_ild7, w_ic, w_irem, w_ic_ne, w_ald_0, w_gf_5_6, tw_f, w_gf_5_5, w_iv1, tfr_0, tfr_1, tfr_2, tfr_3, tfr_4, w_goto, true_and, and_true, Nat.reduceAdd, Nat.reduceSub, eq_self, tsh_86, tyk_5, tcq_5, tsh_87, tsh_90, tsh_93, tsh_96, tsh_99, tsh_102, tyk_6, tcq_6, tsh_79, tyk_10, tcq_10, tyk_3, tcq_3]
        rw [← es] at c1
        exact n193 M5 c1 c2
      · -- ends
        refine tb_X3_sumPowers_199 (c := false) ?_
        simp only [kb_X3_sumPowers_199, w_re, true_and, and_true, Nat.reduceAdd, Nat.reduceSub, eq_self]
        have h0 : tmn st (k + 1) = 0 := by omega
        have e1 := smn_z (neg := decide (v < 0)) h0 (499 - k)
        rw [show k + (499 - k) = 499 by omega, ← cxS_def] at e1
        rw [e1]
        exact ⟨rfl, rfl, b3, b4⟩
  have n38 : ∀ (z hl : Int) (w5 w6 w7 : Option tV), ((z = 1 ∧ v < 0) ∨ (z = 0 ∧ ¬ v < 0)) → hl = (if v < 0 then -v else v) → tT e d 1289 38 [some (.inr (.inr (.inl (86)))), some (.inr (.inr (.inl (x)))), some (.inr (.inl (v))), none, some (.inl (z)), w5, w6, w7] [.inr (.inl hl)] M n (tQn n (fun M' => LX M' 96 (cxS (decide (v < 0)) st) ∧ SPF b M M')) := by
    intro z hl w5 w6 w7 hz hh
    have hl0 : 0 ≤ hl ∧ hl < 310000000000 := by rw [hh]; split <;> omega
    have td := td_e (y := hl * 390625) (q := 1000000000) (by omega)
    refine tb_X3_sumPowers_38 (c := false) ?_
    simp only [kb_X3_sumPowers_38, w_ld2, w_lmul, tw_f, w_lst5, tkl_n, tkl_i, tkl_l, tkl_r, w_ald_0, w_gf_5_4, w_iv0, tfr_0, tfr_1, tfr_2, tfr_3, tfr_4, w_ic, w_lld5, w_ldiv, w_iv2, w_lrem, w_gf_5_5, w_bi, w_lc1, w_gf_5_6, w_iv1, w_ist7, w_nil, true_and, and_true, Nat.reduceAdd, Nat.reduceSub, eq_self, tsh_86, tyk_5, tcq_5, tsh_87, tsh_90, tsh_93, tsh_96, tsh_99, tsh_102, tyk_6, tcq_6, tsh_79, tyk_10, tcq_10, tyk_3, tcq_3]
    repeat refine And.intro (by omega) ?_
    refine tc_n (D := 0) (fun d' hd' => f_clear (b := b) fx_90 hb hC) (by omega) ?_
    rintro M1 ⟨q1, q2⟩
    try simp only [kb_X3_sumPowers_38, w_ld2, w_lmul, tw_f, w_lst5, tkl_n, tkl_i, tkl_l, tkl_r, w_ald_0, w_gf_5_4, w_iv0, tfr_0, tfr_1, tfr_2, tfr_3, tfr_4, w_ic, w_lld5, w_ldiv, w_iv2, w_lrem, w_gf_5_5, w_bi, w_lc1, w_gf_5_6, w_iv1, w_ist7, w_nil, true_and, and_true, Nat.reduceAdd, Nat.reduceSub, eq_self, tsh_86, tyk_5, tcq_5, tsh_87, tsh_90, tsh_93, tsh_96, tsh_99, tsh_102, tyk_6, tcq_6, tsh_79, tyk_10, tcq_10, tyk_3, tcq_3]
    rw [td.1]
    repeat refine And.intro (by omega) ?_
    refine tc_n (D := 0) (fun d' hd' => f_setLimb (b := b) (I := 5) (v := hl * 390625 / 1000000000) fx_90 (by decide) (by omega) q1 hb q2.1.1) (by omega) ?_
    rintro M2 ⟨q3, q4, q5⟩
    try simp only [kb_X3_sumPowers_38, w_ld2, w_lmul, tw_f, w_lst5, tkl_n, tkl_i, tkl_l, tkl_r, w_ald_0, w_gf_5_4, w_iv0, tfr_0, tfr_1, tfr_2, tfr_3, tfr_4, w_ic, w_lld5, w_ldiv, w_iv2, w_lrem, w_gf_5_5, w_bi, w_lc1, w_gf_5_6, w_iv1, w_ist7, w_nil, true_and, and_true, Nat.reduceAdd, Nat.reduceSub, eq_self, tsh_86, tyk_5, tcq_5, tsh_87, tsh_90, tsh_93, tsh_96, tsh_99, tsh_102, tyk_6, tcq_6, tsh_79, tyk_10, tcq_10, tyk_3, tcq_3]
    rw [td.2]
    repeat refine And.intro (by omega) ?_
    refine tc_n (D := 0) (fun d' hd' => f_setLimb (b := b) (I := 4) (v := hl * 390625 % 1000000000) fx_90 (by decide) (by omega) q3 hb q5.1.1) (by omega) ?_
    rintro M3 ⟨q6, q7, q8⟩
    have z5 : M1 (90 + 1) ((5 : Nat) : Int) = 0 := by rw [S9_lb q1 (by decide)]; rfl
    have z4 : M1 (90 + 1) ((4 : Nat) : Int) = 0 := by rw [S9_lb q1 (by decide)]; rfl
    have z4' : M2 (90 + 1) ((4 : Nat) : Int) = 0 := (q4 _ (by decide)).trans z4
    rw [z5, z4', show 9 * 5 = 9 * (4 + 1) from rfl, TT_9s, show 9 * 4 = 36 from rfl, TT_36] at q6
    have e90 : 0 + (hl * 390625 / 1000000000 - 0) * (1000000000000000000000000000000000000 * 1000000000) + (hl * 390625 % 1000000000 - 0) * 1000000000000000000000000000000000000 = st := by
      rw [← hS]
      unfold exst
      rw [← hh]
      omega
    rw [e90] at q6
    try simp only [kb_X3_sumPowers_38, w_ld2, w_lmul, tw_f, w_lst5, tkl_n, tkl_i, tkl_l, tkl_r, w_ald_0, w_gf_5_4, w_iv0, tfr_0, tfr_1, tfr_2, tfr_3, tfr_4, w_ic, w_lld5, w_ldiv, w_iv2, w_lrem, w_gf_5_5, w_bi, w_lc1, w_gf_5_6, w_iv1, w_ist7, w_nil, true_and, and_true, Nat.reduceAdd, Nat.reduceSub, eq_self, tsh_86, tyk_5, tcq_5, tsh_87, tsh_90, tsh_93, tsh_96, tsh_99, tsh_102, tyk_6, tcq_6, tsh_79, tyk_10, tcq_10, tyk_3, tcq_3]
    refine tc_n (D := 0) (fun d' hd' => f_clear (b := b) fx_93 hb q8.1.1) (by omega) ?_
    rintro M4 ⟨r1, r2⟩
    try simp only [kb_X3_sumPowers_38, w_ld2, w_lmul, tw_f, w_lst5, tkl_n, tkl_i, tkl_l, tkl_r, w_ald_0, w_gf_5_4, w_iv0, tfr_0, tfr_1, tfr_2, tfr_3, tfr_4, w_ic, w_lld5, w_ldiv, w_iv2, w_lrem, w_gf_5_5, w_bi, w_lc1, w_gf_5_6, w_iv1, w_ist7, w_nil, true_and, and_true, Nat.reduceAdd, Nat.reduceSub, eq_self, tsh_86, tyk_5, tcq_5, tsh_87, tsh_90, tsh_93, tsh_96, tsh_99, tsh_102, tyk_6, tcq_6, tsh_79, tyk_10, tcq_10, tyk_3, tcq_3]
    refine tc_n (D := 0) (fun d' hd' => f_setLimb (b := b) (I := 6) (v := 1) fx_93 (by decide) (by decide) r1 hb r2.1.1) (by omega) ?_
    rintro M5 ⟨r3, r4, r5⟩
    have z6 : M4 (93 + 1) ((6 : Nat) : Int) = 0 := by rw [S9_lb r1 (by decide)]; rfl
    rw [z6, show 9 * 6 = 54 from rfl, TT_54] at r3
    have e93 : 0 + (1 - 0) * 1000000000000000000000000000000000000000000000000000000 = (1000000000000000000000000000000000000000000000000000000 : Int) := by decide
    rw [e93] at r3
    try simp only [kb_X3_sumPowers_38, w_ld2, w_lmul, tw_f, w_lst5, tkl_n, tkl_i, tkl_l, tkl_r, w_ald_0, w_gf_5_4, w_iv0, tfr_0, tfr_1, tfr_2, tfr_3, tfr_4, w_ic, w_lld5, w_ldiv, w_iv2, w_lrem, w_gf_5_5, w_bi, w_lc1, w_gf_5_6, w_iv1, w_ist7, w_nil, true_and, and_true, Nat.reduceAdd, Nat.reduceSub, eq_self, tsh_86, tyk_5, tcq_5, tsh_87, tsh_90, tsh_93, tsh_96, tsh_99, tsh_102, tyk_6, tcq_6, tsh_79, tyk_10, tcq_10, tyk_3, tcq_3]
    refine tc_n (D := 0) (fun d' hd' => f_copy (b := b) fx_96 fx_93 (by decide) r3 hb r5.1.1) (by omega) ?_
    rintro M6 ⟨r6, r7⟩
    try simp only [kb_X3_sumPowers_38, w_ld2, w_lmul, tw_f, w_lst5, tkl_n, tkl_i, tkl_l, tkl_r, w_ald_0, w_gf_5_4, w_iv0, tfr_0, tfr_1, tfr_2, tfr_3, tfr_4, w_ic, w_lld5, w_ldiv, w_iv2, w_lrem, w_gf_5_5, w_bi, w_lc1, w_gf_5_6, w_iv1, w_ist7, w_nil, true_and, and_true, Nat.reduceAdd, Nat.reduceSub, eq_self, tsh_86, tyk_5, tcq_5, tsh_87, tsh_90, tsh_93, tsh_96, tsh_99, tsh_102, tyk_6, tcq_6, tsh_79, tyk_10, tcq_10, tyk_3, tcq_3]
    have g1 := SPF_tr (SPF_g (Or.inl rfl) (GE_tr q2 (GE_tr q5 q8))) (SPF_tr (SPF_g (Or.inr (Or.inl rfl)) (GE_tr r2 r5)) (SPF_g (Or.inr (Or.inr rfl)) r7))
    have g2 := GE_tr r2 r5
    refine n110 499 M6 0 z _ rfl (by decide) hz (LX_u (LX_u q6 (fun i => g2.2 _ _ (by decide) (by decide))) (fun i => r7.2 _ _ (by decide) (by decide))) (LX_u r3 (fun i => r7.2 _ _ (by decide) (by decide))) r6 g1
  have n25 : ∀ (z : Int) (w4 w5 w6 w7 : Option tV), ((z = 1 ∧ v < 0) ∨ (z = 0 ∧ ¬ v < 0)) → tT e d 1289 25 [some (.inr (.inr (.inl (86)))), some (.inr (.inr (.inl (x)))), some (.inr (.inl (v))), none, w4, w5, w6, w7] [.inl z] M n (tQn n (fun M' => LX M' 96 (cxS (decide (v < 0)) st) ∧ SPF b M M')) := by
    intro z w4 w5 w6 w7 hz
    refine tb_X3_sumPowers_25 (c := false) ?_
    simp only [kb_X3_sumPowers_25, w_ist4, tkl_n, tkl_i, tkl_l, tkl_r, w_ild4, w_if_eq, w_lld_2, w_lneg, tw_f, w_goto, true_and, and_true, Nat.reduceAdd, Nat.reduceSub, eq_self]
    repeat refine And.intro (by omega) ?_
    refine ⟨fun g => ?_, fun g => ?_⟩
    · refine tb_X3_sumPowers_37 (c := false) ?_
      simp only [kb_X3_sumPowers_37, w_lld_2, w_nil, true_and, and_true, Nat.reduceAdd, Nat.reduceSub, eq_self]
      exact n38 z v _ _ _ hz (by rw [if_neg (by omega)])
    · repeat refine And.intro (by omega) ?_
      exact n38 z (-v) _ _ _ hz (by rw [if_pos (by omega)])
  have ev : M x 0 * 10000000000 + M x 1 = v := by omega
  refine tb_X3_sumPowers_0 (c := false) ?_
  simp only [kb_X3_sumPowers_0, w_ald_1, w_gf_3_0, tw_f, w_ld2, w_lmul, w_gf_3_1, w_ladd, w_lst_2, tkl_n, tkl_i, tkl_l, tkl_r, w_lld_2, w_lc0, w_lcmp, ne_eq, tlc_r, tlc_eq, tlc_lt, tlc_ge, tlc_gt, tlc_le, w_if_ge, w_ic, w_goto, true_and, and_true, Nat.reduceAdd, Nat.reduceSub, eq_self, tsh_86, tyk_5, tcq_5, tsh_87, tsh_90, tsh_93, tsh_96, tsh_99, tsh_102, tyk_6, tcq_6, tsh_79, tyk_10, tcq_10, tyk_3, tcq_3, hx, ev]
  repeat refine And.intro (by omega) ?_
  refine ⟨fun g => ?_, fun g => ?_⟩
  · refine tb_X3_sumPowers_24 (c := false) ?_
    simp only [kb_X3_sumPowers_24, w_ic, w_nil, true_and, and_true, Nat.reduceAdd, Nat.reduceSub, eq_self]
    exact n25 0 _ _ _ _ (Or.inr ⟨rfl, by omega⟩)
  · exact n25 1 _ _ _ _ (Or.inl ⟨rfl, by omega⟩)
end HAND
