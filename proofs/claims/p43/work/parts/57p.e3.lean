/-! THE CLASS BY VALUES: e to the power, its code. -/
theorem cxS_r {v : Int} (rv : -300000000000 ≤ v ∧ v < 280000000000) : 860000000000000000000000000000000000000000000000000000 ≤ cxS (decide (v < 0)) (exst v) ∧ cxS (decide (v < 0)) (exst v) ≤ 1116700000000000000000000000000000000000000000000000000 := by
  have rs := exst_r (v := v) (by omega)
  have g := smn_b rs 498
  have r := tmn_r rs (498 + 1)
  have t1 := tmn_1 rs
  rw [cxS_def]
  rw [show (499 : Nat) = 498 + 1 from rfl]
  generalize tmn (exst v) (498 + 1) = T at *
  by_cases h : v < 0
  · rw [decide_eq_true h]
    have es : exst v = -v * 390625 * 1000000000000000000000000000000000000 := by unfold exst; rw [if_pos h]
    omega
  · rw [decide_eq_false h]
    have es : exst v = v * 390625 * 1000000000000000000000000000000000000 := by unfold exst; rw [if_neg h]
    omega
/-- the squared sum -/
noncomputable def cxR (v : Int) : Int := sqn (cxS (decide (v < 0)) (exst v)) 8
theorem tpv_U : tpv 1000000000000000000000000000000000000000000000000000000 1000000000000000000000000000000000000000000000000000000 = 1000000000000000000000000000000000000000000000000000000 := by decide +kernel
theorem cxR_0 : cxR 0 = 1000000000000000000000000000000000000000000000000000000 := by
  have rs : (0 : Int) ≤ exst 0 ∧ exst 0 ≤ 125000000000000000000000000000000000000000000000000000 := exst_r (by decide)
  have e0 : exst 0 = 0 := rfl
  have t1 := tmn_1 rs
  have t0 := tmn_r rs 1
  have h0 : tmn (exst 0) (0 + 1) = 0 := by
    show tmn (exst 0) 1 = 0
    omega
  have e1 := smn_z (neg := decide ((0 : Int) < 0)) h0 499
  rw [show 0 + 499 = 499 from rfl, ← cxS_def] at e1
  have e2 : ∀ k : Nat, sqn 1000000000000000000000000000000000000000000000000000000 k = 1000000000000000000000000000000000000000000000000000000 := by
    intro k
    induction k with
    | zero => rfl
    | succ k ih =>
      show tpv (sqn 1000000000000000000000000000000000000000000000000000000 k) (sqn 1000000000000000000000000000000000000000000000000000000 k) = 1000000000000000000000000000000000000000000000000000000
      rw [ih, tpv_U]
  unfold cxR
  rw [e1]
  exact e2 8
theorem cxR_lt {v w : Int} (h0 : -300000000000 ≤ v) (h : v < w) (h1 : w < 280000000000) : cxR v + 1 ≤ cxR w := by
  refine sqn_lt (cxS_r ⟨h0, by omega⟩).1 ?_
  have rv := exst_r (v := v) (by omega)
  have rw_ := exst_r (v := w) (by omega)
  rw [cxS_def, cxS_def, show (499 : Nat) = 498 + 1 from rfl]
  by_cases hv : v < 0
  · have ev : exst v = -v * 390625 * 1000000000000000000000000000000000000 := by unfold exst; rw [if_pos hv]
    rw [decide_eq_true hv]
    by_cases hw : w < 0
    · have ew : exst w = -w * 390625 * 1000000000000000000000000000000000000 := by unfold exst; rw [if_pos hw]
      rw [decide_eq_true hw]
      have g := smn_neg (st := exst w) (dl := exst v - exst w) (by omega) 498
      have b0 := bsq_0 (dl := exst v - exst w) (by omega) 498
      rw [show exst w + (exst v - exst w) = exst v by omega] at g
      generalize bsq (exst v - exst w) 498 = B at *
      omega
    · rw [decide_eq_false hw]
      have g := smn_neg (st := 0) (dl := exst v) (by omega) 498
      have b0 := bsq_0 (dl := exst v) (by omega) 498
      have g2 := (smn_b (st := 0) (by decide) 498).2.2
      have g3 := (smn_b rw_ 498).1.1
      have t0 := (tmn_r (st := 0) (by decide) (498 + 1)).1
      rw [show 0 + exst v = exst v by omega] at g
      generalize bsq (exst v) 498 = B at *
      generalize tmn 0 (498 + 1) = T at *
      omega
  · have hw : ¬ w < 0 := by omega
    have ev : exst v = v * 390625 * 1000000000000000000000000000000000000 := by unfold exst; rw [if_neg hv]
    have ew : exst w = w * 390625 * 1000000000000000000000000000000000000 := by unfold exst; rw [if_neg hw]
    rw [decide_eq_false hv, decide_eq_false hw]
    have g := smn_pos (st := exst v) (dl := exst w - exst v) (by omega) 498
    rw [show exst v + (exst w - exst v) = exst w by omega] at g
    omega
/-- e to a number by 54 digits, and its code -/
noncomputable def cxV (v : Int) : Int := if v = 0 then 1000000000000000000000000000000000000000000000000000000 else if 280000000000 ≤ v then 10000000000000000000000000000000000000000000000000000000000000000000 else if -300000000000 ≤ v then cxR v else 0
noncomputable def cxC (v : Int) : Int := 2 * (cxV v / 100000000000000000000000000000000000000000000) + (if v = 0 then 0 else 1)
theorem cxR_r {v : Int} (rv : -300000000000 ≤ v ∧ v < 280000000000) : 0 ≤ cxR v ∧ cxR v < 10000000000000000000000000000000000000000000000000000000000000000000 := by
  have g := cxS_r rv
  exact sqn_8 ⟨by omega, g.2⟩
theorem cxV_r (v : Int) : 0 ≤ cxV v ∧ cxV v ≤ 10000000000000000000000000000000000000000000000000000000000000000000 := by
  unfold cxV
  split
  · decide
  · split
    · decide
    · split
      · have := cxR_r (v := v) (by omega)
        omega
      · decide
theorem cxC_r (v : Int) : 0 ≤ cxC v ∧ cxC v ≤ 200000000000000000000001 := by
  have g := cxV_r v
  unfold cxC
  split <;> omega
theorem cxC_le {v w : Int} (h : v ≤ w) : cxC v ≤ cxC w := by
  rcases Int.lt_or_eq_of_le h with h | rfl
  · have gv := cxV_r v
    have gw := cxV_r w
    have z0 := cxR_0
    by_cases h1 : v < -300000000000
    · have e1 : cxV v = 0 := by unfold cxV; rw [if_neg (by omega), if_neg (by omega), if_neg (by omega)]
      by_cases hw : w = 0
      · have e2 : cxV w = 1000000000000000000000000000000000000000000000000000000 := by unfold cxV; rw [if_pos hw]
        unfold cxC
        rw [e1, e2, if_neg (by omega), if_pos hw]
        decide
      · unfold cxC
        rw [e1, if_neg (by omega), if_neg hw]
        omega
    · by_cases h2 : 280000000000 ≤ w
      · have e2 : cxV w = 10000000000000000000000000000000000000000000000000000000000000000000 := by unfold cxV; rw [if_neg (by omega), if_pos h2]
        unfold cxC
        rw [e2, if_neg (show ¬ w = 0 by omega)]
        split <;> omega
      · have g := cxR_lt (v := v) (w := w) (by omega) h (by omega)
        by_cases hv0 : v = 0
        · subst hv0
          have e1 : cxV 0 = 1000000000000000000000000000000000000000000000000000000 := by unfold cxV; rw [if_pos rfl]
          have e2 : cxV w = cxR w := by unfold cxV; rw [if_neg (by omega), if_neg h2, if_pos (by omega)]
          unfold cxC
          rw [e1, e2, if_pos rfl, if_neg (by omega)]
          omega
        · have e1 : cxV v = cxR v := by unfold cxV; rw [if_neg hv0, if_neg (by omega), if_pos (by omega)]
          by_cases hw0 : w = 0
          · subst hw0
            have e2 : cxV 0 = 1000000000000000000000000000000000000000000000000000000 := by unfold cxV; rw [if_pos rfl]
            unfold cxC
            rw [e1, e2, if_pos rfl, if_neg hv0]
            omega
          · have e2 : cxV w = cxR w := by unfold cxV; rw [if_neg hw0, if_neg h2, if_pos (by omega)]
            unfold cxC
            rw [e1, e2, if_neg hv0, if_neg hw0]
            omega
  · exact Int.le_refl _
/-- the curves' cells, and the reckoner's division -/
def CF (b : Nat) (M M' : tM) : Prop := (CI M' ∧ pE b M M') ∧ ∀ (k : Nat) (i : Int), (k < 86 ∨ 108 < k) → ¬ (k = 79 ∧ (i = 9 ∨ i = 10 ∨ i = 11 ∨ i = 12)) → M' k i = M k i
theorem CF_refl {b : Nat} {M : tM} (hC : CI M) : CF b M M := ⟨⟨hC, pE_refl⟩, fun _ _ _ _ => rfl⟩
theorem CF_tr {b : Nat} {M M1 M2 : tM} (h1 : CF b M M1) (h2 : CF b M1 M2) : CF b M M2 := ⟨⟨h2.1.1, pE_tr h1.1.2 h2.1.2⟩, fun k i g g2 => (h2.2 k i g g2).trans (h1.2 k i g g2)⟩
theorem CF_BG {b : Nat} {M M1 : tM} (h : BG b M M1) : CF b M M1 := ⟨h.1, fun k i g _ => h.2 k i (by omega) (by omega) (by omega)⟩
theorem CF_S {b : Nat} {M M1 : tM} (h : SPF b M M1) : CF b M M1 := ⟨h.1, fun k i g _ => h.2 k i (by omega)⟩
theorem CF_g {b r : Nat} {M M1 : tM} (hr : FXC r) (h : GE b M M1 r) : CF b M M1 := ⟨h.1, fun k i g _ => h.2 k i (by unfold FXC at hr; omega) (by unfold FXC at hr; omega)⟩
theorem CF_d {b r : Nat} {M M1 : tM} (h : BD b M M1 r) (hr : 86 ≤ r ∧ r ≤ 108) : CF b M M1 := ⟨⟨h.1, h.2.1⟩, fun k i g _ => h.2.2 k i (by omega)⟩
theorem CF_l {b : Nat} {M M1 : tM} (h : SLE b M M1) : CF b M M1 := ⟨h.1, fun k i _ g => h.2 k i g⟩
theorem CF_c {b : Nat} {M M1 : tM} (h : CE b M M1 86) : CF b M M1 := ⟨h.1, fun k i g _ => h.2 k i (by omega)⟩
theorem CF_F {b : Nat} {M M1 : tM} (h : CF b M M1) : AF b M M1 := ⟨h.1, fun k i g => h.2 k i (by omega) (by omega)⟩
theorem CF_O {b : Nat} {M M1 : tM} (h : CF b M M1) (hro : RO M) : RO M1 := RO_u hro (h.2 79 4 (by decide) (by decide)) (h.2 79 5 (by decide) (by decide))
section HAND
variable {e : tE} {b d n : Nat} {M : tM}
theorem f_exponential {x : Nat} {v : Int} (h1 : cl x 3) (hx2 : x < 79 ∨ 111 < x) (hv : BB M x v) (rv : RV v) (hb : b < 2) (hC : CI M) (hd : 2 ≤ d) : tC e d 1283 [.inr (.inr (.inl 86)), .inr (.inr (.inl x))] M n (tQn n (fun M' => (M' 86 1 = 0 ∧ M' 86 2 = (if v = 0 then 0 else 1) ∧ LX M' 96 (cxV v)) ∧ CF b M M')) := by
  have hx := h1.1
  refine tst_X3_exponential ?_
  have n107 : ∀ (M1 : tM) (w2 : Option tV), M1 86 1 = 0 → M1 86 2 = (if v = 0 then 0 else 1) → LX M1 96 (cxV v) → CF b M M1 → tT e d 1283 107 [some (.inr (.inr (.inl (86)))), some (.inr (.inr (.inl (x)))), w2] [] M1 n (tQn n (fun M' => (M' 86 1 = 0 ∧ M' 86 2 = (if v = 0 then 0 else 1) ∧ LX M' 96 (cxV v)) ∧ CF b M M')) := by
    intro M1 w2 a1 a2 a3 a4
    refine tb_X3_exponential_107 (c := false) ?_
    simp only [kb_X3_exponential_107, w_re, true_and, and_true, Nat.reduceAdd, Nat.reduceSub, eq_self]
    exact ⟨rfl, rfl, ⟨a1, a2, a3⟩, a4⟩
  have n80 : ∀ (fu : Nat) (M1 : tM) (k : Nat), 8 - k = fu → k ≤ 8 → ¬ v = 0 → (-300000000000 ≤ v ∧ v < 280000000000) → M1 86 1 = 0 → M1 86 2 = (if v = 0 then 0 else 1) → LX M1 96 (sqn (cxS (decide (v < 0)) (exst v)) k) → CF b M M1 → tT e d 1283 80 [some (.inr (.inr (.inl (86)))), some (.inr (.inr (.inl (x)))), some (.inl ((k : Int)))] [] M1 n (tQn n (fun M' => (M' 86 1 = 0 ∧ M' 86 2 = (if v = 0 then 0 else 1) ∧ LX M' 96 (cxV v)) ∧ CF b M M')) := by
    intro fu
    induction fu with
    | zero =>
      intro M1 k hf hk hv0 hv1 a1 a2 a3 a4
      have hke : k = 8 := by omega
      subst hke
      refine tb_X3_exponential_80 (c := false) ?_
      simp only [kb_X3_exponential_80, w_ild_2, w_bi, w_ic_ge, w_ald_0, w_gf_5_6, tw_f, w_iv2, tfr_0, tfr_1, tfr_2, tfr_3, tfr_4, w_inc2, tkl_n, tkl_i, tkl_l, tkl_r, w_goto, true_and, and_true, Nat.reduceAdd, Nat.reduceSub, eq_self, tsh_86, tyk_5, tcq_5, tsh_87, tsh_90, tsh_93, tsh_96, tsh_99, tsh_102, tyk_6, tcq_6, tsh_79, tyk_10, tcq_10, tyk_3, tcq_3]
      repeat refine And.intro (by omega) ?_
      refine ⟨fun _ => ?_, fun q => absurd (by omega) q⟩
      refine n107 M1 _ a1 a2 ?_ a4
      unfold cxV
      rw [if_neg hv0, if_neg (by omega), if_pos hv1.1]
      exact a3
    | succ fu ih =>
      intro M1 k hf hk hv0 hv1 a1 a2 a3 a4
      have g := cxS_r hv1
      have r := sqn_r (N := cxS (decide (v < 0)) (exst v)) ⟨by omega, g.2⟩ k (by omega)
      have p : sqn (cxS (decide (v < 0)) (exst v)) k * sqn (cxS (decide (v < 0)) (exst v)) k ≤ 999999999999999999999999999999999999999999999999999999999999999 * 999999999999999999999999999999999999999999999999999999999999999 := Int.mul_le_mul (by omega) (by omega) r.1 (by decide)
      refine tb_X3_exponential_80 (c := false) ?_
      simp only [kb_X3_exponential_80, w_ild_2, w_bi, w_ic_ge, w_ald_0, w_gf_5_6, tw_f, w_iv2, tfr_0, tfr_1, tfr_2, tfr_3, tfr_4, w_inc2, tkl_n, tkl_i, tkl_l, tkl_r, w_goto, true_and, and_true, Nat.reduceAdd, Nat.reduceSub, eq_self, tsh_86, tyk_5, tcq_5, tsh_87, tsh_90, tsh_93, tsh_96, tsh_99, tsh_102, tyk_6, tcq_6, tsh_79, tyk_10, tcq_10, tyk_3, tcq_3]
      repeat refine And.intro (by omega) ?_
      first | refine ⟨fun q => absurd q (by omega), fun _ => ?_⟩ | refine fun _ => ?_
      refine tc_n (D := 0) (fun d' hd' => f_toProduct (b := b) fx_96 fx_96 fx_96 a3 a3 (by omega) hb a4.1.1) (by omega) ?_
      rintro M2 ⟨q1, q2⟩
      try simp only [kb_X3_exponential_80, w_ild_2, w_bi, w_ic_ge, w_ald_0, w_gf_5_6, tw_f, w_iv2, tfr_0, tfr_1, tfr_2, tfr_3, tfr_4, w_inc2, tkl_n, tkl_i, tkl_l, tkl_r, w_goto, true_and, and_true, Nat.reduceAdd, Nat.reduceSub, eq_self, tsh_86, tyk_5, tcq_5, tsh_87, tsh_90, tsh_93, tsh_96, tsh_99, tsh_102, tyk_6, tcq_6, tsh_79, tyk_10, tcq_10, tyk_3, tcq_3]
      repeat refine And.intro (by omega) ?_
      rw [show ((k : Nat) : Int) + 1 = ((k + 1 : Nat) : Int) by omega]
      exact ih M2 (k + 1) (by omega) (by omega) hv0 hv1 ((q2.2 86 1 (by decide) (by decide)).trans a1) ((q2.2 86 2 (by decide) (by decide)).trans a2) q1 (CF_tr a4 (CF_g fx_96 q2))
  have n13 : ∀ (z : Int) (w2 : Option tV), z = (if v = 0 then 0 else 1) → tT e d 1283 13 [some (.inr (.inr (.inl (86)))), some (.inr (.inr (.inl (x)))), w2] [.inl z, .inr (.inr (.inl 86))] M n (tQn n (fun M' => (M' 86 1 = 0 ∧ M' 86 2 = (if v = 0 then 0 else 1) ∧ LX M' 96 (cxV v)) ∧ CF b M M')) := by
    intro z w2 hz
    have hz1 : 0 ≤ z ∧ z ≤ 1 := by rw [hz]; split <;> decide
    refine tb_X3_exponential_13 (c := false) ?_
    simp only [kb_X3_exponential_13, w_iv1, tfr_0, tfr_1, tfr_2, tfr_3, tfr_4, w_ald_1, w_iv0, w_if_eq, w_ald_0, w_gf_5_6, tw_f, w_bi, w_lc1, w_iv2, w_goto, true_and, and_true, Nat.reduceAdd, Nat.reduceSub, eq_self, tsh_86, tyk_5, tcq_5, tsh_87, tsh_90, tsh_93, tsh_96, tsh_99, tsh_102, tyk_6, tcq_6, tsh_79, tyk_10, tcq_10, tyk_3, tcq_3, hx]
    refine tc_n (D := 1) (fun d' hd' => f_begin (b := b) hz1 hb hC hd') (by omega) ?_
    rintro M1 ⟨⟨q1, q2, q3⟩, q4⟩
    try simp only [kb_X3_exponential_13, w_iv1, tfr_0, tfr_1, tfr_2, tfr_3, tfr_4, w_ald_1, w_iv0, w_if_eq, w_ald_0, w_gf_5_6, tw_f, w_bi, w_lc1, w_iv2, w_goto, true_and, and_true, Nat.reduceAdd, Nat.reduceSub, eq_self, tsh_86, tyk_5, tcq_5, tsh_87, tsh_90, tsh_93, tsh_96, tsh_99, tsh_102, tyk_6, tcq_6, tsh_79, tyk_10, tcq_10, tyk_3, tcq_3, hx]
    rw [hz] at q2
    have hv1 : BB M1 x v := BB_u hv (fun i => q4.2 _ _ (by omega) (by omega) (by omega))
    have hw1 := hv1.1
    have ra := (BB_r hv1 rv).1
    have z6 : M1 (96 + 1) ((6 : Nat) : Int) = 0 := by rw [S9_lb q3 (by decide)]; rfl
    have z7 : M1 (96 + 1) ((7 : Nat) : Int) = 0 := by rw [S9_lb q3 (by decide)]; rfl
    refine tc_i (D := 0) (fun d' hd' => y_isZero h1 hv1 rv) (by omega) ?_
    rintro w M2 ⟨q5, rfl⟩
    try simp only [kb_X3_exponential_13, w_iv1, tfr_0, tfr_1, tfr_2, tfr_3, tfr_4, w_ald_1, w_iv0, w_if_eq, w_ald_0, w_gf_5_6, tw_f, w_bi, w_lc1, w_iv2, w_goto, true_and, and_true, Nat.reduceAdd, Nat.reduceSub, eq_self, tsh_86, tyk_5, tcq_5, tsh_87, tsh_90, tsh_93, tsh_96, tsh_99, tsh_102, tyk_6, tcq_6, tsh_79, tyk_10, tcq_10, tyk_3, tcq_3, hx]
    repeat refine And.intro (by omega) ?_
    refine ⟨fun g => ?_, fun g => ?_⟩
    · have hv0 : ¬ v = 0 := by omega
      refine tb_X3_exponential_36 (c := false) ?_
      simp only [kb_X3_exponential_36, w_ald_1, w_gf_3_0, tw_f, w_ld2, w_lcmp, ne_eq, tlc_r, tlc_eq, tlc_lt, tlc_ge, tlc_gt, tlc_le, w_if_lt, w_ald_0, w_gf_5_6, w_bi, w_iv2, tfr_0, tfr_1, tfr_2, tfr_3, tfr_4, w_goto, true_and, and_true, Nat.reduceAdd, Nat.reduceSub, eq_self, tsh_86, tyk_5, tcq_5, tsh_87, tsh_90, tsh_93, tsh_96, tsh_99, tsh_102, tyk_6, tcq_6, tsh_79, tyk_10, tcq_10, tyk_3, tcq_3, hx]
      repeat refine And.intro (by omega) ?_
      refine ⟨fun g2 => ?_, fun g2 => ?_⟩
      · refine tb_X3_exponential_62 (c := false) ?_
        simp only [kb_X3_exponential_62, w_ald_1, w_gf_3_0, tw_f, w_ld2, w_lcmp, ne_eq, tlc_r, tlc_eq, tlc_lt, tlc_ge, tlc_gt, tlc_le, w_if_lt, w_ald_0, w_iv1, tfr_0, tfr_1, tfr_2, tfr_3, tfr_4, w_ic, w_ist_2, tkl_n, tkl_i, tkl_l, tkl_r, w_nil, true_and, and_true, Nat.reduceAdd, Nat.reduceSub, eq_self, tsh_86, tyk_5, tcq_5, tsh_87, tsh_90, tsh_93, tsh_96, tsh_99, tsh_102, tyk_6, tcq_6, tsh_79, tyk_10, tcq_10, tyk_3, tcq_3, hx]
        repeat refine And.intro (by omega) ?_
        refine ⟨fun g3 => ?_, fun g3 => ?_⟩
        · refine n107 M2 _ q1 q2 ?_ (CF_BG q4)
          have e0 : cxV v = 0 := by unfold cxV; rw [if_neg hv0, if_neg (by omega), if_neg (by omega)]
          rw [e0]
          exact q3
        · have hv3 : -300000000000 ≤ v ∧ v < 280000000000 := by omega
          refine tc_n (D := 1) (fun d' hd' => f_sumPowers (b := b) h1 hv1 (by omega) hb q4.1.1 hd') (by omega) ?_
          rintro M3 ⟨r1, r2⟩
          try simp only [kb_X3_exponential_62, w_ald_1, w_gf_3_0, tw_f, w_ld2, w_lcmp, ne_eq, tlc_r, tlc_eq, tlc_lt, tlc_ge, tlc_gt, tlc_le, w_if_lt, w_ald_0, w_iv1, tfr_0, tfr_1, tfr_2, tfr_3, tfr_4, w_ic, w_ist_2, tkl_n, tkl_i, tkl_l, tkl_r, w_nil, true_and, and_true, Nat.reduceAdd, Nat.reduceSub, eq_self, tsh_86, tyk_5, tcq_5, tsh_87, tsh_90, tsh_93, tsh_96, tsh_99, tsh_102, tyk_6, tcq_6, tsh_79, tyk_10, tcq_10, tyk_3, tcq_3, hx]
          exact n80 8 M3 0 rfl (by decide) hv0 hv3 ((r2.2 86 1 (by decide)).trans q1) ((r2.2 86 2 (by decide)).trans q2) r1 (CF_tr (CF_BG q4) (CF_S r2))
      · have hv3 : 280000000000 ≤ v := by omega
        refine tc_n (D := 0) (fun d' hd' => f_setLimb (b := b) (I := 7) (v := 10000) fx_96 (by decide) (by decide) q3 hb q4.1.1) (by omega) ?_
        rintro M3 ⟨r1, _, r2⟩
        try simp only [kb_X3_exponential_36, w_ald_1, w_gf_3_0, tw_f, w_ld2, w_lcmp, ne_eq, tlc_r, tlc_eq, tlc_lt, tlc_ge, tlc_gt, tlc_le, w_if_lt, w_ald_0, w_gf_5_6, w_bi, w_iv2, tfr_0, tfr_1, tfr_2, tfr_3, tfr_4, w_goto, true_and, and_true, Nat.reduceAdd, Nat.reduceSub, eq_self, tsh_86, tyk_5, tcq_5, tsh_87, tsh_90, tsh_93, tsh_96, tsh_99, tsh_102, tyk_6, tcq_6, tsh_79, tyk_10, tcq_10, tyk_3, tcq_3, hx]
        refine n107 M3 _ ((r2.2 86 1 (by decide) (by decide)).trans q1) ((r2.2 86 2 (by decide) (by decide)).trans q2) ?_ (CF_tr (CF_BG q4) (CF_g fx_96 r2))
        have e0 : cxV v = 10000000000000000000000000000000000000000000000000000000000000000000 := by unfold cxV; rw [if_neg hv0, if_pos hv3]
        rw [z7, show 9 * 7 = 63 from rfl, TT_63] at r1
        rw [e0]
        exact r1
    · have hv0 : v = 0 := by omega
      refine tc_n (D := 0) (fun d' hd' => f_setLimb (b := b) (I := 6) (v := 1) fx_96 (by decide) (by decide) q3 hb q4.1.1) (by omega) ?_
      rintro M3 ⟨r1, _, r2⟩
      try simp only [kb_X3_exponential_13, w_iv1, tfr_0, tfr_1, tfr_2, tfr_3, tfr_4, w_ald_1, w_iv0, w_if_eq, w_ald_0, w_gf_5_6, tw_f, w_bi, w_lc1, w_iv2, w_goto, true_and, and_true, Nat.reduceAdd, Nat.reduceSub, eq_self, tsh_86, tyk_5, tcq_5, tsh_87, tsh_90, tsh_93, tsh_96, tsh_99, tsh_102, tyk_6, tcq_6, tsh_79, tyk_10, tcq_10, tyk_3, tcq_3, hx]
      refine n107 M3 _ ((r2.2 86 1 (by decide) (by decide)).trans q1) ((r2.2 86 2 (by decide) (by decide)).trans q2) ?_ (CF_tr (CF_BG q4) (CF_g fx_96 r2))
      have e0 : cxV v = 1000000000000000000000000000000000000000000000000000000 := by unfold cxV; rw [if_pos hv0]
      rw [z6, show 9 * 6 = 54 from rfl, TT_54] at r1
      rw [e0]
      exact r1
  refine tb_X3_exponential_0 (c := false) ?_
  simp only [kb_X3_exponential_0, w_ald_0, w_ald_1, w_iv0, tfr_0, tfr_1, tfr_2, tfr_3, tfr_4, w_if_ne, w_ic, w_goto, true_and, and_true, Nat.reduceAdd, Nat.reduceSub, eq_self, tsh_86, tyk_5, tcq_5, tsh_87, tsh_90, tsh_93, tsh_96, tsh_99, tsh_102, tyk_6, tcq_6, tsh_79, tyk_10, tcq_10, tyk_3, tcq_3, hx]
  refine tc_i (D := 0) (fun d' hd' => y_isZero h1 hv rv) (by omega) ?_
  rintro w M2 ⟨q5, rfl⟩
  try simp only [kb_X3_exponential_0, w_ald_0, w_ald_1, w_iv0, tfr_0, tfr_1, tfr_2, tfr_3, tfr_4, w_if_ne, w_ic, w_goto, true_and, and_true, Nat.reduceAdd, Nat.reduceSub, eq_self, tsh_86, tyk_5, tcq_5, tsh_87, tsh_90, tsh_93, tsh_96, tsh_99, tsh_102, tyk_6, tcq_6, tsh_79, tyk_10, tcq_10, tyk_3, tcq_3, hx]
  repeat refine And.intro (by omega) ?_
  refine ⟨fun g => ?_, fun g => ?_⟩
  · refine tb_X3_exponential_12 (c := false) ?_
    simp only [kb_X3_exponential_12, w_ic, w_nil, true_and, and_true, Nat.reduceAdd, Nat.reduceSub, eq_self]
    exact n13 0 _ (by rw [if_pos (by omega)])
  · exact n13 1 _ (by rw [if_neg (by omega)])
end HAND
