/-! THE MODEL: powers of boxes. -/
section MODEL
variable {e : tE} {d n : Nat} {M : tM}
theorem c_lifted {to a : Int} {k D : Nat} (hdg : M 664 2 = (D : Int)) (hD : D ≤ 10) (ht : 0 ≤ to ∧ to < 700) (ha : 0 ≤ a ∧ a < 700) (hca : bcan M a) (hk : k ≤ 9) (hd : 5 ≤ d) :
    tC e d 3645 [.inr (.inr (.inl 664)), .inl to, .inl a, .inl (k : Int)] M n (tQi n (fun z M' => res z M' to (lfL D k (zlo M a) (zhi M a)) (lfH D k (zlo M a) (zhi M a)) ∧ xE (fun r => r = to) M M')) := by
  have hca0 := hca
  obtain ⟨⟨h1, h2⟩, h3, h4⟩ := hca
  have hza : zlo M a = M 667 a * 1000000000 + M 668 a := rfl
  have hzb : zhi M a = M 669 a * 1000000000 + M 670 a := rfl
  refine tst_X12_lifted ?_
  rcases Nat.eq_zero_or_pos k with h0 | h0
  · subst h0
    refine tb_X12_lifted_0 (c := false) ?_
    simp only [kb_X12_lifted_0, w_ild_3, w_if_ne, w_ald_0, w_ild_1, w_ld2, w_lc0, w_iv3, tfr_0, tfr_1, tfr_2, tfr_3, tfr_4, w_ic, w_ire, trg, true_and, and_true, Nat.reduceAdd, Nat.reduceSub, eq_self, tshm_14, tshm_31, tshm_32, tykm_31, tykm_32, tykm_14, tci_14, tci_15, tci_960, tshm_667, tshm_668, tshm_669, tshm_670, tykm_33, tci_700]
    refine ⟨by omega, fun h => absurd rfl h, fun _ => ?_⟩
    refine tc_n (D := 1) (fun d' hd' => c_single ht hd') (by omega) ?_
    rintro _ rfl
    try simp only [kb_X12_lifted_0, w_ild_3, w_if_ne, w_ald_0, w_ild_1, w_ld2, w_lc0, w_iv3, tfr_0, tfr_1, tfr_2, tfr_3, tfr_4, w_ic, w_ire, trg, true_and, and_true, Nat.reduceAdd, Nat.reduceSub, eq_self, tshm_14, tshm_31, tshm_32, tykm_31, tykm_32, tykm_14, tci_14, tci_15, tci_960, tshm_667, tshm_668, tshm_669, tshm_670, tykm_33, tci_700]
    refine ⟨_, rfl, rfl, res_0 ?_ ?_ (by unfold lfL lfH; rw [if_pos rfl, if_pos rfl]; omega), xE_tr (sLo_xE rfl (by omega) (by omega)) (sHi_xE rfl (by omega) (by omega))⟩
    · rw [sHi_lo, sLo_lo]
      unfold lfL
      rw [if_pos rfl]
      rfl
    · rw [sHi_hi]
      unfold lfH
      rw [if_pos rfl]
      rfl
  have hk0 : k ≠ 0 := by omega
  generalize hLO : lfL D k (zlo M a) (zhi M a) = LO
  generalize hHI : lfH D k (zlo M a) (zhi M a) = HI
  unfold lfL at hLO
  unfold lfH at hHI
  rw [if_neg hk0] at hLO hHI
  -- the end
  have n282 : ∀ (M3 : tM) (u14 l16 : Int) (v4 v5 v6 v8 v10 v12 v18 : Option tV), rU rPr M M3 → zb M3 = LO → (-10000000000000000000000 < zb M3 ∧ zb M3 < 10000000000000000000000) → cb M3 → u14 * 1000000000 + l16 = HI → (-10000000000000000000000 < HI ∧ HI < 10000000000000000000000) → 0 ≤ l16 ∧ l16 < 1000000000 →
      tT e d 3645 282 [some (.inr (.inr (.inl 664))), some (.inl to), some (.inl a), some (.inl (k : Int)), v4, v5, v6, none, v8, none, v10, none, v12, none, some (.inr (.inl u14)), none, some (.inr (.inl l16)), none, v18] [] M3 n (tQi n (fun z M' => res z M' to LO HI ∧ xE (fun r => r = to) M M')) := by
    intro M3 u14 l16 v4 v5 v6 v8 v10 v12 v18 r3 w1 w2 w3 w4 w5 w6
    obtain ⟨w7, w8⟩ := w3
    unfold zb at w1 w2
    refine tb_X12_lifted_282 (c := false) ?_
    simp only [kb_X12_lifted_282, w_ald_0, w_ild_1, w_gf_14_4, tw_f, w_gf_14_5, w_iv3, tfr_0, tfr_1, tfr_2, tfr_3, tfr_4, w_lld14, w_lld16, w_ic, w_ire, trg, true_and, and_true, Nat.reduceAdd, Nat.reduceSub, eq_self, tshm_14, tshm_31, tshm_32, tykm_31, tykm_32, tykm_14, tci_14, tci_15, tci_960, tshm_667, tshm_668, tshm_669, tshm_670, tykm_33, tci_700]
    refine tc_n (D := 0) (fun d' _ => c_low ht) (by omega) ?_
    rintro _ rfl
    try simp only [kb_X12_lifted_282, w_ald_0, w_ild_1, w_gf_14_4, tw_f, w_gf_14_5, w_iv3, tfr_0, tfr_1, tfr_2, tfr_3, tfr_4, w_lld14, w_lld16, w_ic, w_ire, trg, true_and, and_true, Nat.reduceAdd, Nat.reduceSub, eq_self, tshm_14, tshm_31, tshm_32, tykm_31, tykm_32, tykm_14, tci_14, tci_15, tci_960, tshm_667, tshm_668, tshm_669, tshm_670, tykm_33, tci_700]
    refine tc_n (D := 0) (fun d' _ => c_high ht) (by omega) ?_
    rintro _ rfl
    try simp only [kb_X12_lifted_282, w_ald_0, w_ild_1, w_gf_14_4, tw_f, w_gf_14_5, w_iv3, tfr_0, tfr_1, tfr_2, tfr_3, tfr_4, w_lld14, w_lld16, w_ic, w_ire, trg, true_and, and_true, Nat.reduceAdd, Nat.reduceSub, eq_self, tshm_14, tshm_31, tshm_32, tykm_31, tykm_32, tykm_14, tci_14, tci_15, tci_960, tshm_667, tshm_668, tshm_669, tshm_670, tykm_33, tci_700]
    refine ⟨_, rfl, rfl, res_0 ?_ ?_ (by omega), xE_tr (xE_U r3 (by decide) (by decide) (by decide)) (xE_tr (sLo_xE rfl w7 (by omega)) (sHi_xE rfl w6 (by omega)))⟩
    · rw [sHi_lo, sLo_lo]
      exact w1
    · rw [sHi_hi]
      exact w4
  have fail : ∀ M3 : tM, rU rPr M M3 → res 2 M3 to LO HI ∧ xE (fun r => r = to) M M3 := fun M3 r3 => ⟨res_2, xE_U r3 (by decide) (by decide) (by decide)⟩
  -- from the four longs on
  have n148 : ∀ (tf af un ln uf lf : Int), 0 ≤ ln ∧ ln < 1000000000 → 0 ≤ lf ∧ lf < 1000000000 → -30000000000000000000000 ≤ un * 1000000000 + ln ∧ un * 1000000000 + ln ≤ 30000000000000000000000 → -30000000000000000000000 ≤ uf * 1000000000 + lf ∧ uf * 1000000000 + lf ≤ 30000000000000000000000 →
      (af = 0 ∧ LO = pwr 0 D k (un * 1000000000 + ln) ∧ HI = pwr 1 D k (uf * 1000000000 + lf) ∨ af = 1 ∧ LO = 0 ∧ HI = imx (pwr 1 D k (uf * 1000000000 + lf)) (pwr 1 D k (un * 1000000000 + ln))) →
      tT e d 3645 148 [some (.inr (.inr (.inl 664))), some (.inl to), some (.inl a), some (.inl (k : Int)), some (.inl tf), some (.inl af), some (.inr (.inl un)), none, some (.inr (.inl ln)), none, some (.inr (.inl uf)), none, none, none, none, none, none, none, none] [.inr (.inl lf)] M n (tQi n (fun z M' => res z M' to LO HI ∧ xE (fun r => r = to) M M')) := by
    intro tf af un ln uf lf w1 w2 w3 w4 w5
    refine tb_X12_lifted_148 (c := false) ?_
    simp only [kb_X12_lifted_148, w_lst12, tkl_n, tkl_i, tkl_l, tkl_r, w_ald_0, w_lld10, w_lld12, w_ild_3, w_ic, w_iv4, tfr_0, tfr_1, tfr_2, tfr_3, tfr_4, w_if_ne, w_ire, trg, true_and, and_true, Nat.reduceAdd, Nat.reduceSub, eq_self, tshm_14, tshm_31, tshm_32, tykm_31, tykm_32, tykm_14, tci_14, tci_15, tci_960, tshm_667, tshm_668, tshm_669, tshm_670, tykm_33, tci_700]
    refine tc_i (D := 4) (fun d' hd' => c_powers (D := D) (k := k) (up := 1) hdg hD w2 w4 (by omega) (Or.inr rfl) hd') (by omega) ?_
    rintro z M1 ⟨q1, q2⟩
    try simp only [kb_X12_lifted_148, w_lst12, tkl_n, tkl_i, tkl_l, tkl_r, w_ald_0, w_lld10, w_lld12, w_ild_3, w_ic, w_iv4, tfr_0, tfr_1, tfr_2, tfr_3, tfr_4, w_if_ne, w_ire, trg, true_and, and_true, Nat.reduceAdd, Nat.reduceSub, eq_self, tshm_14, tshm_31, tshm_32, tykm_31, tykm_32, tykm_14, tci_14, tci_15, tci_960, tshm_667, tshm_668, tshm_669, tshm_670, tykm_33, tci_700]
    refine ⟨by omega, fun hz => ?_, fun hz => ?_⟩
    rotate_left
    · exact ⟨_, rfl, rfl, fail M1 q2⟩
    have q1 := q1.resolve_right hz
    obtain ⟨-, q3, q4, q5, q6⟩ := q1
    have hdg1 : M1 664 2 = (D : Int) := (rU_d q2).trans hdg
    refine tb_X12_lifted_165 (c := false) ?_
    simp only [kb_X12_lifted_165, w_ald_0, w_gf_14_4, tw_f, w_lst14, tkl_n, tkl_i, tkl_l, tkl_r, w_gf_14_5, w_lst16, w_ild5, w_if_eq, w_lld6, w_lld8, w_ild_3, w_ic, w_iv4, tfr_0, tfr_1, tfr_2, tfr_3, tfr_4, w_if_ne, w_ire, trg, true_and, and_true, Nat.reduceAdd, Nat.reduceSub, eq_self, tshm_14, tshm_31, tshm_32, tykm_31, tykm_32, tykm_14, tci_14, tci_15, tci_960, tshm_667, tshm_668, tshm_669, tshm_670, tykm_33, tci_700]
    rcases w5 with ⟨rfl, e1, e2⟩ | ⟨rfl, e1, e2⟩
    · refine ⟨by omega, fun _ => ?_, fun h => absurd rfl h⟩
      refine tb_X12_lifted_267 (c := false) ?_
      simp only [kb_X12_lifted_267, w_ald_0, w_lld6, w_lld8, w_ild_3, w_ic, w_iv4, tfr_0, tfr_1, tfr_2, tfr_3, tfr_4, w_if_ne, w_ire, trg, true_and, and_true, Nat.reduceAdd, Nat.reduceSub, eq_self, tshm_14, tshm_31, tshm_32, tykm_31, tykm_32, tykm_14, tci_14, tci_15, tci_960, tshm_667, tshm_668, tshm_669, tshm_670, tykm_33, tci_700]
      refine tc_i (D := 4) (fun d' hd' => c_powers (D := D) (k := k) (up := 0) hdg1 hD w1 w3 (by omega) (Or.inl rfl) hd') (by omega) ?_
      rintro z2 M2 ⟨p1, p2⟩
      try simp only [kb_X12_lifted_267, w_ald_0, w_lld6, w_lld8, w_ild_3, w_ic, w_iv4, tfr_0, tfr_1, tfr_2, tfr_3, tfr_4, w_if_ne, w_ire, trg, true_and, and_true, Nat.reduceAdd, Nat.reduceSub, eq_self, tshm_14, tshm_31, tshm_32, tykm_31, tykm_32, tykm_14, tci_14, tci_15, tci_960, tshm_667, tshm_668, tshm_669, tshm_670, tykm_33, tci_700]
      refine ⟨by omega, fun hz => ?_, fun hz => ?_⟩
      rotate_left
      · exact ⟨_, rfl, rfl, fail M2 (rU_tr q2 p2)⟩
      have p1 := p1.resolve_right hz
      obtain ⟨-, p3, p4, p5⟩ := p1
      unfold zb at q3 q4
      exact n282 M2 _ _ _ _ _ _ _ _ _ (rU_tr q2 p2) (by rw [p3, e1]) p4 p5 (by rw [q3, e2]) (by rw [e2, ← q3]; exact q4) q5
    · refine ⟨by omega, fun h => by omega, fun _ => ?_⟩
      refine tc_i (D := 4) (fun d' hd' => c_powers (D := D) (k := k) (up := 1) hdg1 hD w1 w3 (by omega) (Or.inr rfl) hd') (by omega) ?_
      rintro z2 M2 ⟨p1, p2⟩
      try simp only [kb_X12_lifted_165, w_ald_0, w_gf_14_4, tw_f, w_lst14, tkl_n, tkl_i, tkl_l, tkl_r, w_gf_14_5, w_lst16, w_ild5, w_if_eq, w_lld6, w_lld8, w_ild_3, w_ic, w_iv4, tfr_0, tfr_1, tfr_2, tfr_3, tfr_4, w_if_ne, w_ire, trg, true_and, and_true, Nat.reduceAdd, Nat.reduceSub, eq_self, tshm_14, tshm_31, tshm_32, tykm_31, tykm_32, tykm_14, tci_14, tci_15, tci_960, tshm_667, tshm_668, tshm_669, tshm_670, tykm_33, tci_700]
      refine ⟨by omega, fun hz => ?_, fun hz => ?_⟩
      rotate_left
      · exact ⟨_, rfl, rfl, fail M2 (rU_tr q2 p2)⟩
      have p1 := p1.resolve_right hz
      obtain ⟨-, p3, p4, p5, p6⟩ := p1
      unfold zb at q3 q4 p3 p4
      have r2 := rU_tr q2 p2
      refine tb_X12_lifted_197 (c := false) ?_
      simp only [kb_X12_lifted_197, w_ald_0, w_gf_14_4, tw_f, w_gf_14_5, w_lld14, w_lld16, w_is4, tfr_0, tfr_1, tfr_2, tfr_3, tfr_4, w_if_le, w_ic, w_goto, true_and, and_true, Nat.reduceAdd, Nat.reduceSub, eq_self, tshm_14, tshm_31, tshm_32, tykm_31, tykm_32, tykm_14, tci_14, tci_15, tci_960, tshm_667, tshm_668, tshm_669, tshm_670, tykm_33, tci_700]
      refine tc_i (D := 0) (fun d' _ => c_order p5 q5 (by omega) (by omega)) (by omega) ?_
      rintro z3 _ ⟨hz3, rfl⟩
      try simp only [kb_X12_lifted_197, w_ald_0, w_gf_14_4, tw_f, w_gf_14_5, w_lld14, w_lld16, w_is4, tfr_0, tfr_1, tfr_2, tfr_3, tfr_4, w_if_le, w_ic, w_goto, true_and, and_true, Nat.reduceAdd, Nat.reduceSub, eq_self, tshm_14, tshm_31, tshm_32, tykm_31, tykm_32, tykm_14, tci_14, tci_15, tci_960, tshm_667, tshm_668, tshm_669, tshm_670, tykm_33, tci_700]
      rw [p3, q3] at hz3
      have r3 := cmpz_r (pwr 1 D k (un * 1000000000 + ln)) (pwr 1 D k (uf * 1000000000 + lf))
      have r4 := cmpz_gt (pwr 1 D k (un * 1000000000 + ln)) (pwr 1 D k (uf * 1000000000 + lf))
      have zz : zb (tU (tU M2 664 4 0) 664 5 0) = 0 := by
        unfold zb
        rw [u5_5, u5_4, u4_4]
        rfl
      have rr : rU rPr M (tU (tU M2 664 4 0) 664 5 0) := rU_tr r2 (rU_u (uE_tr uE_4 uE_5))
      have cc : cb (tU (tU M2 664 4 0) 664 5 0) := by
        unfold cb
        rw [u5_5, u5_4, u4_4]
        omega
      refine ⟨by omega, fun h6 => ?_, fun h6 => ?_⟩
      · refine tb_X12_lifted_219 (c := false) ?_
        simp only [kb_X12_lifted_219, w_ic, w_nil, true_and, and_true, Nat.reduceAdd, Nat.reduceSub, eq_self]
        refine tb_X12_lifted_220 (c := false) ?_
        simp only [kb_X12_lifted_220, w_ist18, tkl_n, tkl_i, tkl_l, tkl_r, w_ild18, w_if_eq, w_ald_0, w_gf_14_4, tw_f, w_goto, true_and, and_true, Nat.reduceAdd, Nat.reduceSub, eq_self, tshm_14, tshm_31, tshm_32, tykm_31, tykm_32, tykm_14, tci_14, tci_15, tci_960, tshm_667, tshm_668, tshm_669, tshm_670, tykm_33, tci_700]
        refine ⟨by omega, fun _ => ?_, fun h => absurd trivial h⟩
        refine tb_X12_lifted_234 (c := false) ?_
        simp only [kb_X12_lifted_234, w_lld14, w_nil, true_and, and_true, Nat.reduceAdd, Nat.reduceSub, eq_self]
        refine tb_X12_lifted_236 (c := false) ?_
        simp only [kb_X12_lifted_236, w_lst14, tkl_n, tkl_i, tkl_l, tkl_r, w_ild18, w_if_eq, w_ald_0, w_gf_14_5, tw_f, w_goto, true_and, and_true, Nat.reduceAdd, Nat.reduceSub, eq_self, tshm_14, tshm_31, tshm_32, tykm_31, tykm_32, tykm_14, tci_14, tci_15, tci_960, tshm_667, tshm_668, tshm_669, tshm_670, tykm_33, tci_700]
        refine ⟨by omega, fun _ => ?_, fun h => absurd trivial h⟩
        refine tb_X12_lifted_250 (c := false) ?_
        simp only [kb_X12_lifted_250, w_lld16, w_nil, true_and, and_true, Nat.reduceAdd, Nat.reduceSub, eq_self]
        refine tb_X12_lifted_252 (c := false) ?_
        simp only [kb_X12_lifted_252, w_lst16, tkl_n, tkl_i, tkl_l, tkl_r, w_ald_0, w_lc0, w_pf_14_4, w_pf_14_5, w_goto, true_and, and_true, Nat.reduceAdd, Nat.reduceSub, eq_self, tshm_14, tshm_31, tshm_32, tykm_31, tykm_32, tykm_14, tci_14, tci_15, tci_960, tshm_667, tshm_668, tshm_669, tshm_670, tykm_33, tci_700]
        have e3 : HI = pwr 1 D k (uf * 1000000000 + lf) := by
          rw [e2]
          unfold imx
          rw [if_neg (fun q => by have := r4.mpr q; omega)]
        exact n282 _ _ _ _ _ _ _ _ _ _ rr (by rw [zz, e1]) (by rw [zz]; omega) cc (by rw [q3, e3]) (by rw [e3, ← q3]; exact q4) q5
      · refine tb_X12_lifted_220 (c := false) ?_
        simp only [kb_X12_lifted_220, w_ist18, tkl_n, tkl_i, tkl_l, tkl_r, w_ild18, w_if_eq, w_ald_0, w_gf_14_4, tw_f, w_goto, true_and, and_true, Nat.reduceAdd, Nat.reduceSub, eq_self, tshm_14, tshm_31, tshm_32, tykm_31, tykm_32, tykm_14, tci_14, tci_15, tci_960, tshm_667, tshm_668, tshm_669, tshm_670, tykm_33, tci_700]
        refine ⟨by omega, fun h => by omega, fun _ => ?_⟩
        refine tb_X12_lifted_236 (c := false) ?_
        simp only [kb_X12_lifted_236, w_lst14, tkl_n, tkl_i, tkl_l, tkl_r, w_ild18, w_if_eq, w_ald_0, w_gf_14_5, tw_f, w_goto, true_and, and_true, Nat.reduceAdd, Nat.reduceSub, eq_self, tshm_14, tshm_31, tshm_32, tykm_31, tykm_32, tykm_14, tci_14, tci_15, tci_960, tshm_667, tshm_668, tshm_669, tshm_670, tykm_33, tci_700]
        refine ⟨by omega, fun h => by omega, fun _ => ?_⟩
        refine tb_X12_lifted_252 (c := false) ?_
        simp only [kb_X12_lifted_252, w_lst16, tkl_n, tkl_i, tkl_l, tkl_r, w_ald_0, w_lc0, w_pf_14_4, w_pf_14_5, w_goto, true_and, and_true, Nat.reduceAdd, Nat.reduceSub, eq_self, tshm_14, tshm_31, tshm_32, tykm_31, tykm_32, tykm_14, tci_14, tci_15, tci_960, tshm_667, tshm_668, tshm_669, tshm_670, tykm_33, tci_700]
        have e3 : HI = pwr 1 D k (un * 1000000000 + ln) := by
          rw [e2]
          unfold imx
          rw [if_pos (r4.mp (by omega))]
        exact n282 _ _ _ _ _ _ _ _ _ _ rr (by rw [zz, e1]) (by rw [zz]; omega) cc (by rw [p3, e3]) (by rw [e3, ← p3]; exact p4) p5
  -- which bounds
  have n60t : ∀ af : Int, (af = 0 ∧ LO = pwr 0 D k (zhi M a) ∧ HI = pwr 1 D k (zlo M a)) → tT e d 3645 60 [some (.inr (.inr (.inl 664))), some (.inl to), some (.inl a), some (.inl (k : Int)), some (.inl 1), none, none, none, none, none, none, none, none, none, none, none, none, none, none] [.inl af] M n (tQi n (fun z M' => res z M' to LO HI ∧ xE (fun r => r = to) M M')) := by
    intro af haf
    refine tb_X12_lifted_60 (c := false) ?_
    simp only [kb_X12_lifted_60, w_ist5, tkl_n, tkl_i, tkl_l, tkl_r, w_ild4, w_if_eq, w_ald_0, w_gf_14_8, tw_f, w_ild_2, w_la, w_lax, w_goto, true_and, and_true, Nat.reduceAdd, Nat.reduceSub, eq_self, tshm_14, tshm_31, tshm_32, tykm_31, tykm_32, tykm_14, tci_14, tci_15, tci_960, tshm_667, tshm_668, tshm_669, tshm_670, tykm_33, tci_700]
    refine ⟨by omega, fun h => by omega, fun _ => ⟨by omega, ?_⟩⟩
    refine tb_X12_lifted_82 (c := false) ?_
    simp only [kb_X12_lifted_82, w_lst6, tkl_n, tkl_i, tkl_l, tkl_r, w_ild4, w_if_eq, w_ald_0, w_gf_14_9, tw_f, w_ild_2, w_la, w_lax, w_goto, true_and, and_true, Nat.reduceAdd, Nat.reduceSub, eq_self, tshm_14, tshm_31, tshm_32, tykm_31, tykm_32, tykm_14, tci_14, tci_15, tci_960, tshm_667, tshm_668, tshm_669, tshm_670, tykm_33, tci_700]
    refine ⟨by omega, fun h => by omega, fun _ => ⟨by omega, ?_⟩⟩
    refine tb_X12_lifted_104 (c := false) ?_
    simp only [kb_X12_lifted_104, w_lst8, tkl_n, tkl_i, tkl_l, tkl_r, w_ild4, w_if_eq, w_ald_0, w_gf_14_6, tw_f, w_ild_2, w_la, w_lax, w_goto, true_and, and_true, Nat.reduceAdd, Nat.reduceSub, eq_self, tshm_14, tshm_31, tshm_32, tykm_31, tykm_32, tykm_14, tci_14, tci_15, tci_960, tshm_667, tshm_668, tshm_669, tshm_670, tykm_33, tci_700]
    refine ⟨by omega, fun h => by omega, fun _ => ⟨by omega, ?_⟩⟩
    refine tb_X12_lifted_126 (c := false) ?_
    simp only [kb_X12_lifted_126, w_lst10, tkl_n, tkl_i, tkl_l, tkl_r, w_ild4, w_if_eq, w_ald_0, w_gf_14_7, tw_f, w_ild_2, w_la, w_lax, w_goto, true_and, and_true, Nat.reduceAdd, Nat.reduceSub, eq_self, tshm_14, tshm_31, tshm_32, tykm_31, tykm_32, tykm_14, tci_14, tci_15, tci_960, tshm_667, tshm_668, tshm_669, tshm_670, tykm_33, tci_700]
    refine ⟨by omega, fun h => by omega, fun _ => ⟨by omega, ?_⟩⟩
    exact n148 1 af _ _ _ _ h2 h1 h4 h3 (Or.inl haf)
  have n60f : ∀ af : Int, (af = 0 ∧ LO = pwr 0 D k (zlo M a) ∧ HI = pwr 1 D k (zhi M a) ∨ af = 1 ∧ LO = 0 ∧ HI = imx (pwr 1 D k (zhi M a)) (pwr 1 D k (zlo M a))) → tT e d 3645 60 [some (.inr (.inr (.inl 664))), some (.inl to), some (.inl a), some (.inl (k : Int)), some (.inl 0), none, none, none, none, none, none, none, none, none, none, none, none, none, none] [.inl af] M n (tQi n (fun z M' => res z M' to LO HI ∧ xE (fun r => r = to) M M')) := by
    intro af haf
    refine tb_X12_lifted_60 (c := false) ?_
    simp only [kb_X12_lifted_60, w_ist5, tkl_n, tkl_i, tkl_l, tkl_r, w_ild4, w_if_eq, w_ald_0, w_gf_14_8, tw_f, w_ild_2, w_la, w_lax, w_goto, true_and, and_true, Nat.reduceAdd, Nat.reduceSub, eq_self, tshm_14, tshm_31, tshm_32, tykm_31, tykm_32, tykm_14, tci_14, tci_15, tci_960, tshm_667, tshm_668, tshm_669, tshm_670, tykm_33, tci_700]
    refine ⟨by omega, fun _ => ?_, fun h => absurd trivial h⟩
    refine tb_X12_lifted_76 (c := false) ?_
    simp only [kb_X12_lifted_76, w_ald_0, w_gf_14_6, tw_f, w_ild_2, w_la, w_lax, w_nil, true_and, and_true, Nat.reduceAdd, Nat.reduceSub, eq_self, tshm_14, tshm_31, tshm_32, tykm_31, tykm_32, tykm_14, tci_14, tci_15, tci_960, tshm_667, tshm_668, tshm_669, tshm_670, tykm_33, tci_700]
    refine ⟨by omega, ?_⟩
    refine tb_X12_lifted_82 (c := false) ?_
    simp only [kb_X12_lifted_82, w_lst6, tkl_n, tkl_i, tkl_l, tkl_r, w_ild4, w_if_eq, w_ald_0, w_gf_14_9, tw_f, w_ild_2, w_la, w_lax, w_goto, true_and, and_true, Nat.reduceAdd, Nat.reduceSub, eq_self, tshm_14, tshm_31, tshm_32, tykm_31, tykm_32, tykm_14, tci_14, tci_15, tci_960, tshm_667, tshm_668, tshm_669, tshm_670, tykm_33, tci_700]
    refine ⟨by omega, fun _ => ?_, fun h => absurd trivial h⟩
    refine tb_X12_lifted_98 (c := false) ?_
    simp only [kb_X12_lifted_98, w_ald_0, w_gf_14_7, tw_f, w_ild_2, w_la, w_lax, w_nil, true_and, and_true, Nat.reduceAdd, Nat.reduceSub, eq_self, tshm_14, tshm_31, tshm_32, tykm_31, tykm_32, tykm_14, tci_14, tci_15, tci_960, tshm_667, tshm_668, tshm_669, tshm_670, tykm_33, tci_700]
    refine ⟨by omega, ?_⟩
    refine tb_X12_lifted_104 (c := false) ?_
    simp only [kb_X12_lifted_104, w_lst8, tkl_n, tkl_i, tkl_l, tkl_r, w_ild4, w_if_eq, w_ald_0, w_gf_14_6, tw_f, w_ild_2, w_la, w_lax, w_goto, true_and, and_true, Nat.reduceAdd, Nat.reduceSub, eq_self, tshm_14, tshm_31, tshm_32, tykm_31, tykm_32, tykm_14, tci_14, tci_15, tci_960, tshm_667, tshm_668, tshm_669, tshm_670, tykm_33, tci_700]
    refine ⟨by omega, fun _ => ?_, fun h => absurd trivial h⟩
    refine tb_X12_lifted_120 (c := false) ?_
    simp only [kb_X12_lifted_120, w_ald_0, w_gf_14_8, tw_f, w_ild_2, w_la, w_lax, w_nil, true_and, and_true, Nat.reduceAdd, Nat.reduceSub, eq_self, tshm_14, tshm_31, tshm_32, tykm_31, tykm_32, tykm_14, tci_14, tci_15, tci_960, tshm_667, tshm_668, tshm_669, tshm_670, tykm_33, tci_700]
    refine ⟨by omega, ?_⟩
    refine tb_X12_lifted_126 (c := false) ?_
    simp only [kb_X12_lifted_126, w_lst10, tkl_n, tkl_i, tkl_l, tkl_r, w_ild4, w_if_eq, w_ald_0, w_gf_14_7, tw_f, w_ild_2, w_la, w_lax, w_goto, true_and, and_true, Nat.reduceAdd, Nat.reduceSub, eq_self, tshm_14, tshm_31, tshm_32, tykm_31, tykm_32, tykm_14, tci_14, tci_15, tci_960, tshm_667, tshm_668, tshm_669, tshm_670, tykm_33, tci_700]
    refine ⟨by omega, fun _ => ?_, fun h => absurd trivial h⟩
    refine tb_X12_lifted_142 (c := false) ?_
    simp only [kb_X12_lifted_142, w_ald_0, w_gf_14_9, tw_f, w_ild_2, w_la, w_lax, w_nil, true_and, and_true, Nat.reduceAdd, Nat.reduceSub, eq_self, tshm_14, tshm_31, tshm_32, tykm_31, tykm_32, tykm_14, tci_14, tci_15, tci_960, tshm_667, tshm_668, tshm_669, tshm_670, tykm_33, tci_700]
    refine ⟨by omega, ?_⟩
    exact n148 0 af _ _ _ _ h1 h2 h3 h4 haf
  have odd : k % 2 = 1 → tT e d 3645 33 [some (.inr (.inr (.inl 664))), some (.inl to), some (.inl a), some (.inl (k : Int)), none, none, none, none, none, none, none, none, none, none, none, none, none, none, none] [] M n (tQi n (fun z M' => res z M' to LO HI ∧ xE (fun r => r = to) M M')) := by
    intro hodd
    refine tb_X12_lifted_33 (c := false) ?_
    simp only [kb_X12_lifted_33, w_ic, w_nil, true_and, and_true, Nat.reduceAdd, Nat.reduceSub, eq_self]
    refine tb_X12_lifted_34 (c := false) ?_
    simp only [kb_X12_lifted_34, w_ist4, tkl_n, tkl_i, tkl_l, tkl_r, w_ild_3, w_ic, w_irem, w_if_ne, w_ild4, w_ald_0, w_ild_2, w_iv1, tfr_0, tfr_1, tfr_2, tfr_3, tfr_4, w_if_eq, w_goto, true_and, and_true, Nat.reduceAdd, Nat.reduceSub, eq_self, tshm_14, tshm_31, tshm_32, tykm_31, tykm_32, tykm_14, tci_14, tci_15, tci_960, tshm_667, tshm_668, tshm_669, tshm_670, tykm_33, tci_700]
    rw [tmod_2]
    refine ⟨by omega, by omega, fun _ => ?_, fun h => by omega⟩
    refine tb_X12_lifted_59 (c := false) ?_
    simp only [kb_X12_lifted_59, w_ic, w_nil, true_and, and_true, Nat.reduceAdd, Nat.reduceSub, eq_self]
    exact n60f 0 (Or.inl ⟨rfl, by rw [← hLO, if_neg (by omega), if_neg (by omega)], by rw [← hHI, if_neg (by omega), if_neg (by omega)]⟩)
  refine tb_X12_lifted_0 (c := false) ?_
  simp only [kb_X12_lifted_0, w_ild_3, w_if_ne, w_ald_0, w_ild_1, w_ld2, w_lc0, w_iv3, tfr_0, tfr_1, tfr_2, tfr_3, tfr_4, w_ic, w_ire, trg, true_and, and_true, Nat.reduceAdd, Nat.reduceSub, eq_self, tshm_14, tshm_31, tshm_32, tykm_31, tykm_32, tykm_14, tci_14, tci_15, tci_960, tshm_667, tshm_668, tshm_669, tshm_670, tykm_33, tci_700]
  refine ⟨by omega, fun _ => ?_, fun h => by omega⟩
  refine tb_X12_lifted_15 (c := false) ?_
  simp only [kb_X12_lifted_15, w_ild_3, w_ic, w_irem, w_if_ne, w_ald_0, w_ild_2, w_iv1, tfr_0, tfr_1, tfr_2, tfr_3, tfr_4, w_if_eq, w_goto, true_and, and_true, Nat.reduceAdd, Nat.reduceSub, eq_self, tshm_14, tshm_31, tshm_32, tykm_31, tykm_32, tykm_14, tci_14, tci_15, tci_960, tshm_667, tshm_668, tshm_669, tshm_670, tykm_33, tci_700]
  rw [tmod_2]
  refine ⟨by omega, by omega, fun h => odd (by omega), fun h => ?_⟩
  have heven : k % 2 = 0 := by omega
  refine tc_i (D := 0) (fun d' _ => c_isBelow0 ha hca0) (by omega) ?_
  rintro z _ ⟨hz, rfl⟩
  try simp only [kb_X12_lifted_15, w_ild_3, w_ic, w_irem, w_if_ne, w_ald_0, w_ild_2, w_iv1, tfr_0, tfr_1, tfr_2, tfr_3, tfr_4, w_if_eq, w_goto, true_and, and_true, Nat.reduceAdd, Nat.reduceSub, eq_self, tshm_14, tshm_31, tshm_32, tykm_31, tykm_32, tykm_14, tci_14, tci_15, tci_960, tshm_667, tshm_668, tshm_669, tshm_670, tykm_33, tci_700]
  refine ⟨by omega, fun hz0 => ?_, fun hz0 => ?_⟩
  · have hh : ¬ zhi M a < 0 := by omega
    refine tb_X12_lifted_33 (c := false) ?_
    simp only [kb_X12_lifted_33, w_ic, w_nil, true_and, and_true, Nat.reduceAdd, Nat.reduceSub, eq_self]
    refine tb_X12_lifted_34 (c := false) ?_
    simp only [kb_X12_lifted_34, w_ist4, tkl_n, tkl_i, tkl_l, tkl_r, w_ild_3, w_ic, w_irem, w_if_ne, w_ild4, w_ald_0, w_ild_2, w_iv1, tfr_0, tfr_1, tfr_2, tfr_3, tfr_4, w_if_eq, w_goto, true_and, and_true, Nat.reduceAdd, Nat.reduceSub, eq_self, tshm_14, tshm_31, tshm_32, tykm_31, tykm_32, tykm_14, tci_14, tci_15, tci_960, tshm_667, tshm_668, tshm_669, tshm_670, tykm_33, tci_700]
    rw [tmod_2]
    refine ⟨by omega, by omega, fun h => by omega, fun _ => ⟨by omega, fun h => absurd rfl h, fun _ => ?_⟩⟩
    refine tc_i (D := 0) (fun d' _ => c_isBelow ha hca0) (by omega) ?_
    rintro z2 _ ⟨hz2, rfl⟩
    try simp only [kb_X12_lifted_34, w_ist4, tkl_n, tkl_i, tkl_l, tkl_r, w_ild_3, w_ic, w_irem, w_if_ne, w_ild4, w_ald_0, w_ild_2, w_iv1, tfr_0, tfr_1, tfr_2, tfr_3, tfr_4, w_if_eq, w_goto, true_and, and_true, Nat.reduceAdd, Nat.reduceSub, eq_self, tshm_14, tshm_31, tshm_32, tykm_31, tykm_32, tykm_14, tci_14, tci_15, tci_960, tshm_667, tshm_668, tshm_669, tshm_670, tykm_33, tci_700]
    refine ⟨by omega, fun hz0 => ?_, fun hz0 => ?_⟩
    · refine tb_X12_lifted_59 (c := false) ?_
      simp only [kb_X12_lifted_59, w_ic, w_nil, true_and, and_true, Nat.reduceAdd, Nat.reduceSub, eq_self]
      exact n60f 0 (Or.inl ⟨rfl, by rw [← hLO, if_neg (by omega), if_neg (by omega)], by rw [← hHI, if_neg (by omega), if_neg (by omega)]⟩)
    · exact n60f 1 (Or.inr ⟨rfl, by rw [← hLO, if_neg (by omega), if_pos (by omega)], by rw [← hHI, if_neg (by omega), if_pos (by omega)]⟩)
  · have hh : zhi M a < 0 := by omega
    refine tb_X12_lifted_34 (c := false) ?_
    simp only [kb_X12_lifted_34, w_ist4, tkl_n, tkl_i, tkl_l, tkl_r, w_ild_3, w_ic, w_irem, w_if_ne, w_ild4, w_ald_0, w_ild_2, w_iv1, tfr_0, tfr_1, tfr_2, tfr_3, tfr_4, w_if_eq, w_goto, true_and, and_true, Nat.reduceAdd, Nat.reduceSub, eq_self, tshm_14, tshm_31, tshm_32, tykm_31, tykm_32, tykm_14, tci_14, tci_15, tci_960, tshm_667, tshm_668, tshm_669, tshm_670, tykm_33, tci_700]
    rw [tmod_2]
    refine ⟨by omega, by omega, fun h => by omega, fun _ => ⟨by omega, fun _ => ?_, fun h => by omega⟩⟩
    refine tb_X12_lifted_59 (c := false) ?_
    simp only [kb_X12_lifted_59, w_ic, w_nil, true_and, and_true, Nat.reduceAdd, Nat.reduceSub, eq_self]
    exact n60t 0 ⟨rfl, by rw [← hLO, if_pos (by omega)], by rw [← hHI, if_pos (by omega)]⟩
end MODEL
