/-! THE CLASS: how a slope is followed. -/
theorem tyk_8 : tyk 8 = (0, 8, 8) := rfl
theorem tyk_26 : tyk 26 = (1, 1, 60) := rfl
theorem tyk_7 : tyk 7 = (0, 7, 12) := rfl
theorem tcq_60 : ((60 : Nat) : Int) = 60 := rfl
/-- the frames of a slope: how many, and where each recipe stands -/
def FR (M : tM) (r : Nat) (D : Int) : Prop := M r 7 = D ∧ (0 ≤ D ∧ D ≤ 60) ∧ ∀ j : Int, 0 ≤ j → j < D → 0 ≤ M (r + 421) j ∧ M (r + 421) j ≤ 9
theorem FR_1 {b : Nat} {M M' : tM} {r : Nat} {D : Int} (h : FR M r D) (hr : cl r 8) (hp : cl (r + 421) 26) (hb : b = 1 ∨ b = 2) (hE : pE b M M') : FR M' r D := by
  have e7 : M' r 7 = M r 7 := by
    rcases hb with rfl | rfl
    · exact hE r 7 (Or.inl (Or.inr (Or.inr ⟨Or.inl rfl, Or.inr ⟨hr.1, rfl⟩⟩)))
    · rw [pE_2 hE]
  have e8 : ∀ j, M' (r + 421) j = M (r + 421) j := by
    intro j
    rcases hb with rfl | rfl
    · exact hE (r + 421) j (Or.inl (Or.inr (Or.inr ⟨Or.inl rfl, Or.inl hp.1⟩)))
    · rw [pE_2 hE]
  exact ⟨e7.trans h.1, h.2.1, fun j h1 h2 => by rw [e8]; exact h.2.2 j h1 h2⟩
theorem pE_10 {b : Nat} {M M' : tM} (hb : b = 1 ∨ b = 2) (h : pE b M M') : pE 0 M M' := by
  rcases hb with rfl | rfl
  · exact pE_f h
  · rw [pE_2 h]; exact pE_refl
section HAND
variable {e : tE} {d n : Nat}
theorem mc_5 {r : Nat} (h : cl r 8) : cl (r + 420) 26 := cst_of (a := 8) (f := 5) h (by decide) (by decide) rfl |>.1
theorem mc_6 {r : Nat} (h : cl r 8) : cl (r + 421) 26 := cst_of (a := 8) (f := 6) h (by decide) (by decide) rfl |>.1
theorem k_X6_enter {r : Nat} {x1 D : Int} {M : tM} (h0 : cl r 8) (h1 : -2147483648 ≤ x1 ∧ x1 ≤ 2147483647) (hC : CI M) (hF : FR M r D) : tC e d 2054 [.inr (.inr (.inl r)), .inl x1] M n (fun v M' n' => ∃ z, v = .inl (some (.inl z)) ∧ n' = n ∧ (0 ≤ z ∧ z ≤ 2) ∧ CI M' ∧ pE 0 M M' ∧ ∃ D', FR M' r D') := by
  have hr := h0.1
  have hnd := (mc_5 h0).1
  have hpl := (mc_6 h0).1
  obtain ⟨f1, f2, f3⟩ := hF
  have f1' : M r 7 = D := f1
  refine tst_X6_enter ?_
  have n13 : tT e d 2054 13 [some (.inr (.inr (.inl r))), some (.inl x1)] [] M n (fun v M' n' => ∃ z, v = .inl (some (.inl z)) ∧ n' = n ∧ (0 ≤ z ∧ z ≤ 2) ∧ CI M' ∧ pE 0 M M' ∧ ∃ D', FR M' r D') := by
    refine tb_X6_enter_13 (c := true) ?_
    simp only [kb_X6_enter_13, w_ic, w_ire, trg, w64_r, true_and, and_true, Nat.reduceAdd, Nat.reduceSub, eq_self]
    exact ⟨_, rfl, by omega, hC, pE_refl, D, f1, f2, f3⟩
  refine tb_X6_enter_0 (c := true) ?_
  simp only [kb_X6_enter_0, w_ald_0, w_gf_8_7, tw_t, w_bi, w_ic_ge, w_ild_1, w_if_ge, w_nil, w64_r, true_and, and_true, Nat.reduceAdd, Nat.reduceSub, eq_self, hr, hnd, hpl, tyk_8, tyk_26, tcq_60, f1']
  refine ⟨by omega, fun h => ?_, fun h => ?_⟩
  · exact n13
  refine ⟨by omega, fun h2 => ?_, fun h2 => ?_⟩
  rotate_left
  · exact n13
  have u1 : ∀ (M : tM) (i v : Int), tU M (r + 420) i v r 7 = M r 7 := fun M i v => tU_nk (by omega)
  have u2 : ∀ (M : tM) (i v : Int), tU M (r + 421) i v r 7 = M r 7 := fun M i v => tU_nk (by omega)
  refine tb_X6_enter_15 (c := true) ?_
  simp only [kb_X6_enter_15, w_ald_0, w_gf_8_5, tw_t, w_gf_8_7, w_ild_1, w_ias, ne_eq, eq_self, not_true_eq_false, false_implies, w_gf_8_6, w_ic, w_dupi, w_dupr, w_iadd, w_pf_8_7, w_ire, trg, w64_r, true_and, and_true, Nat.reduceAdd, Nat.reduceSub, eq_self, hr, hnd, hpl, tyk_8, tyk_26, tcq_60, f1', u1, u2]
  refine ⟨by omega, by omega, ?_⟩
  refine ⟨_, rfl, by omega, ?_, ?_, D + 1, ?_⟩
  · refine CI_put (CI_put (CI_put hC hnd (fun _ => ?_)) hpl (fun _ => ?_)) hr (fun _ => ?_)
    · show -65536 ≤ x1 ∧ x1 ≤ 2147483647
      omega
    · show (-65536 : Int) ≤ 0 ∧ (0 : Int) ≤ 2147483647
      omega
    · show (0 : Int) ≤ D + 1 ∧ D + 1 ≤ 60
      omega
  · refine pE_tr (pE_tr (pE_put ?_) (pE_put ?_)) (pE_put ?_)
    · exact prt_a (t := 1) (by decide) ⟨(mc_5 h0).2, by rw [hnd]; rfl, by omega, by rw [hnd]; show _ < (60 : Int); omega⟩ (by decide) (fun _ => rfl)
    · exact prt_a (t := 1) (by decide) ⟨(mc_6 h0).2, by rw [hpl]; rfl, by omega, by rw [hpl]; show _ < (60 : Int); omega⟩ (by decide) (fun _ => rfl)
    · exact prt_f (a := 8) (f := 7) (Or.inl (by decide)) h0 (by decide) (fun _ _ => rfl) (by decide)
  · refine ⟨tU_eq .., by omega, fun j g1 g2 => ?_⟩
    rw [tU_nk (show r + 421 ≠ r by omega)]
    by_cases hj : j = D
    · rw [hj, tU_eq]
      omega
    · rw [tU_ni hj, tU_nk (show r + 421 ≠ r + 420 by omega)]
      exact f3 j g1 (by omega)
noncomputable def kbn_pre : List (Nat × bO) := [(0, .aload_n 0, 0, 0, 0, 0), (1, .getfield 40, 2038, 8, 6, 0), (4, .aload_n 0, 0, 0, 0, 0), (5, .getfield 43, 2039, 8, 7, 0), (8, .iconst 1, 0, 0, 0, 0), (9, .isub, 0, 0, 0, 0), (10, .iaload, 0, 0, 0, 0), (11, .istore_n 2, 0, 0, 0, 0), (12, .aload_n 0, 0, 0, 0, 0), (13, .getfield 40, 2038, 8, 6, 0), (16, .aload_n 0, 0, 0, 0, 0), (17, .getfield 43, 2039, 8, 7, 0), (20, .iconst 1, 0, 0, 0, 0), (21, .isub, 0, 0, 0, 0), (22, .dup2, 0, 0, 0, 0), (23, .iaload, 0, 0, 0, 0), (24, .iconst 1, 0, 0, 0, 0), (25, .iadd, 0, 0, 0, 0), (26, .iastore, 0, 0, 0, 0)]
noncomputable def kbn_suf : List (Nat × bO) := [(27, .iload_n 2, 0, 0, 0, 0), (28, .aload_n 1, 0, 0, 0, 0), (32, .if_icmp .ge 11, 0, 43, 0, 0), (35, .aload_n 1, 0, 0, 0, 0), (36, .iload_n 2, 0, 0, 0, 0), (40, .goto 4, 0, 44, 0, 0)]
theorem kbn_l : tcode 2059 = List.flatten [kbn_pre, kbn_suf, kb_X6_nextSign_43, kb_X6_nextSign_44] := rfl
theorem k_X6_nextSign {r j : Nat} {D : Int} {M : tM} (h0 : cl r 8) (hj : 4 ≤ j ∧ j < 16) (hC : CI M) (hF : FR M r D) (hD : 1 ≤ D) (he : EO e) (hd : 4 ≤ d) : tC e d 2059 [.inr (.inr (.inl r)), .inr (.inr (.inr j))] M n (fun v M' n' => ∃ z, v = .inl (some (.inl z)) ∧ n' = n ∧ (0 ≤ z ∧ z ≤ 127) ∧ CI M' ∧ pE 0 M M' ∧ M' r 7 = D ∧ (∀ i : Int, 0 ≤ i → i < D - 1 → 0 ≤ M' (r + 421) i ∧ M' (r + 421) i ≤ 9) ∧ (z ≠ 0 → FR M' r D)) := by
  have hr := h0.1
  have hpl := (mc_6 h0).1
  obtain ⟨f1, f2, f3⟩ := hF
  obtain ⟨g, hg⟩ := he.2.2
  have fp := f3 (D - 1) (by omega) (by omega)
  generalize hp : M (r + 421) (D - 1) = p at fp
  refine tst_X6_nextSign ?_
  refine tblk kbn_l kbs_X6_nextSign (i := 0) (pc := 0) (pe := 27) (rk := 4) (c := true) rfl (by decide +kernel) ?_
  simp only [kbn_pre, w_ald_0, w_gf_8_6, w_gf_8_7, w_ic, w_isub, w_ia, w_ist_2, tkl_n, tkl_i, tkl_l, tkl_r, w_dup2a, w_iadd, w_ias, w_nil, w_iax, ne_eq, eq_self, not_true_eq_false, false_implies, true_and, and_true, hr, hpl, tyk_26, tcq_60, f1, hp]
  refine ⟨by omega, by omega, by omega, ?_⟩
  intro _
  have e32 : (Int32.ofInt p).toInt = p := ofI_bound ⟨by omega, by omega⟩
  have q := fun (lv : List (Nat × bV)) (hl : tOk [some (.inr (.inr (.inl r))), some (.inr (.inr (.inr j))), some (.inl p)] lv) => hg lv (two (tU M (r + 421) (D - 1) (p + 1)) n) j (Int32.ofInt p) (hl 1 _ rfl) hj.1 hj.2 (hl 2 _ rfl) (by rw [e32]; omega)
  have q0 := q [(0, .inr (.inr (.inl r))), (1, .inr (.inr (.inr (some j)))), (2, .inl (Int32.ofInt p))] (fun i v h => by
    match i, h with
    | 0, h => cases h; rfl
    | 1, h => cases h; rfl
    | 2, h => cases h; rfl
    | i + 3, h => cases h)
  have w7 : tU M (r + 421) (D - 1) (p + 1) r 7 = D := (tU_nk (show r ≠ r + 421 by omega)).trans f1
  refine ⟨.inl (some (.inl (g j (Int32.ofInt p)).toInt)), _, n, ⟨_, rfl, rfl, q0.2.1, ?_, ?_, w7, fun i g1 g2 => ?_, fun hz => ⟨w7, f2, fun i g1 g2 => ?_⟩⟩, fun lv hl => ?_⟩
  · refine CI_put hC hpl (fun _ => ?_)
    show -65536 ≤ p + 1 ∧ p + 1 ≤ 2147483647
    omega
  · refine pE_put ?_
    exact prt_a (t := 1) (by decide) ⟨(mc_6 h0).2, by rw [hpl]; rfl, by omega, by rw [hpl]; show _ < (60 : Int); omega⟩ (by decide) (fun _ => rfl)
  · rw [tU_ni (by omega)]
    exact f3 i g1 (by omega)
  · by_cases hi : i = D - 1
    · rw [hi, tU_eq]
      have h9 : ¬ 9 ≤ p := fun h => hz (by
        have := q0.2.2 (by rw [e32]; exact h)
        rw [this]
        rfl)
      omega
    · rw [tU_ni hi]
      exact f3 i g1 g2
  · have y := y_spec (d := d - 4) (q lv hl).1
    rw [show d - 4 + 4 = d by omega] at y
    show bY e d 2059 27 lv [] (two (tU M (r + 421) (D - 1) (p + 1)) n) (.inl (some (.inl (Int32.ofInt (g j (Int32.ofInt p)).toInt)))) _
    rw [Int32.ofInt_toInt]
    exact y
theorem tcq_8 : ((8 : Nat) : Int) = 8 := rfl
theorem tcq_7 : ((7 : Nat) : Int) = 7 := rfl
theorem k_X6_makeSlope {b r x1 : Nat} (h0 : cl r 8) (h1 : cl x1 7) (he : EO e) (hb : b = 0) (hd : 8 ≤ d) : sC e b d 2057 [.inr (.inr (.inl r)), .inr (.inr (.inl x1))] n (SQi n (fun z => (0 ≤ z ∧ z ≤ 2))) := by
  subst hb
  intro M0 hC0 _
  have hr := h0.1
  have h7 := h1.1
  have hnd := (mc_5 h0).1
  have hpl := (mc_6 h0).1
  refine tst_X6_makeSlope ?_
  have n254 : ∀ (M : tM) (z i3 i4 i5 : Int) (w6 w7 w8 : Option tV), (0 ≤ z ∧ z ≤ 2) → CI M → pE 0 M0 M → tT e d 2057 254 [some (.inr (.inr (.inl r))), some (.inr (.inr (.inl x1))), some (.inl z), some (.inl i3), some (.inl i4), some (.inl i5), w6, w7, w8] [] M n (sQ 0 M0 (fun r n' _ => SQi n (fun z => (0 ≤ z ∧ z ≤ 2)) r n')) := by
    intro M z i3 i4 i5 w6 w7 w8 hz hC hE
    refine tb_X6_makeSlope_254 (c := true) ?_
    simp only [kb_X6_makeSlope_254, w_ild_2, w_ire, trg, w64_r, true_and, and_true, Nat.reduceAdd, Nat.reduceSub, eq_self]
    exact ⟨⟨hC, hE⟩, _, rfl, rfl, hz⟩
  have n28 : ∀ (fu : Nat) (i2 i3 i4 i5 : Int) (w6 w7 w8 : Option tV) (M : tM) (D : Int), 100000 - i5 + 1 ≤ (fu : Int) → (0 ≤ i5 ∧ i5 ≤ 100000) → (0 ≤ i2 ∧ i2 ≤ 2) → (-65536 ≤ i3 ∧ i3 ≤ 2147483647) → (-2147483648 ≤ i4 ∧ i4 ≤ 2147483646) → CI M → pE 0 M0 M → FR M r D → tT e d 2057 28 [some (.inr (.inr (.inl r))), some (.inr (.inr (.inl x1))), some (.inl i2), some (.inl i3), some (.inl i4), some (.inl i5), w6, w7, w8] [] M n (sQ 0 M0 (fun r n' _ => SQi n (fun z => (0 ≤ z ∧ z ≤ 2)) r n')) := by
    intro fu
    induction fu with
    | zero => intro i2 i3 i4 i5 w6 w7 w8 M D hm h5; exfalso; omega
    | succ fu ih =>
      intro i2 i3 i4 i5 w6 w7 w8 M D hm h5 h2 h3 h4 hC hE hF
      have n242 : ∀ (i2 i3 i4 : Int) (w6 w7 w8 : Option tV) (M : tM) (D : Int), (0 ≤ i2 ∧ i2 ≤ 2) → (-65536 ≤ i3 ∧ i3 ≤ 2147483647) → (-2147483648 ≤ i4 ∧ i4 ≤ 2147483646) → i5 ≤ 99999 → CI M → pE 0 M0 M → FR M r D → tT e d 2057 242 [some (.inr (.inr (.inl r))), some (.inr (.inr (.inl x1))), some (.inl i2), some (.inl i3), some (.inl i4), some (.inl i5), w6, w7, w8] [] M n (sQ 0 M0 (fun r n' _ => SQi n (fun z => (0 ≤ z ∧ z ≤ 2)) r n')) := by
        intro i2 i3 i4 w6 w7 w8 M D h2 h3 h4 h5 hC hE hF
        refine tb_X6_makeSlope_242 (c := true) ?_
        simp only [kb_X6_makeSlope_242, w_ild_2, w_if_eq, w_ire, trg, w64_r, true_and, and_true, Nat.reduceAdd, Nat.reduceSub, eq_self]
        refine ⟨by omega, fun h => ?_, fun h => ?_⟩
        · refine tb_X6_makeSlope_248 (c := true) ?_
          simp only [kb_X6_makeSlope_248, w_inc5, tkl_n, tkl_i, tkl_l, tkl_r, w_goto, w64_r, true_and, and_true, Nat.reduceAdd, Nat.reduceSub, eq_self]
          exact ih _ _ _ _ _ _ _ _ _ (by omega) (by omega) h2 h3 h4 hC hE hF
        exact ⟨⟨hC, hE⟩, _, rfl, rfl, h2⟩
      have f1 : M r 7 = D := hF.1
      have f2 := hF.2.1
      refine tb_X6_makeSlope_28 (c := true) ?_
      simp only [kb_X6_makeSlope_28, w_ild5, w_ldc, w_ic_ge, w_ald_0, w_gf_8_7, tw_t, w_if_le, w_ild_3, w_ild4, w_ic_gt, w_ald_1, w_iv1, tfr_0, tfr_1, tfr_2, tfr_3, tfr_4, w_iv3, w_ist_2, tkl_n, tkl_i, tkl_l, tkl_r, w_inc3, w_goto, w64_r, true_and, and_true, Nat.reduceAdd, Nat.reduceSub, eq_self, hr, h7, hnd, hpl, tyk_8, tyk_7, tyk_26, tcq_60, tcq_8, tcq_7, f1]
      refine ⟨by omega, fun h => ?_, fun h => ?_⟩
      · exact n254 M _ _ _ _ _ _ _ h2 hC hE
      refine ⟨by omega, fun g => ?_, fun g => ?_⟩
      · exact n254 M _ _ _ _ _ _ _ h2 hC hE
      refine ⟨by omega, fun g2 => ?_, fun g2 => ?_⟩
      · have hD : 1 ≤ D := by omega
        have n74 : tT e d 2057 74 [some (.inr (.inr (.inl r))), some (.inr (.inr (.inl x1))), some (.inl i2), some (.inl i3), some (.inl i4), some (.inl i5), w6, w7, w8] [] M n (sQ 0 M0 (fun r n' _ => SQi n (fun z => (0 ≤ z ∧ z ≤ 2)) r n')) := by
          -- behind a sign
          have n164 : ∀ (v nd ex z : Int) (M : tM), (-2147483648 ≤ v ∧ v ≤ 2147483646) → CI M → pE 0 M0 M → FR M r D → tT e d 2057 164 [some (.inr (.inr (.inl r))), some (.inr (.inr (.inl x1))), some (.inl i2), some (.inl i3), some (.inl i4), some (.inl i5), some (.inl nd), some (.inl ex), some (.inl z)] [.inl v] M n (sQ 0 M0 (fun r n' _ => SQi n (fun z => (0 ≤ z ∧ z ≤ 2)) r n')) := by
            intro v nd ex z M hv hC hE hF
            refine tb_X6_makeSlope_164 (c := true) ?_
            simp only [kb_X6_makeSlope_164, w_ist4, tkl_n, tkl_i, tkl_l, tkl_r, w_ald_1, w_ild4, w_iv1, tfr_0, tfr_1, tfr_2, tfr_3, tfr_4, w_ist_3, w_goto, w64_r, true_and, and_true, Nat.reduceAdd, Nat.reduceSub, eq_self, hr, h7, hnd, hpl, tyk_8, tyk_7, tyk_26, tcq_60, tcq_8, tcq_7]
            refine ts_i (b := 2) (D := 1) (fun d' hd' => k_X5_startOf h1 (by omega) hd') hC (by omega) ?_
            intro xa M1 ha hC1 hE1
            have hF1 := FR_1 hF h0 (mc_6 h0) (Or.inr rfl) hE1
            try simp only [kb_X6_makeSlope_164, w_ist4, tkl_n, tkl_i, tkl_l, tkl_r, w_ald_1, w_ild4, w_iv1, tfr_0, tfr_1, tfr_2, tfr_3, tfr_4, w_ist_3, w_goto, w64_r, true_and, and_true, Nat.reduceAdd, Nat.reduceSub, eq_self, hr, h7, hnd, hpl, tyk_8, tyk_7, tyk_26, tcq_60, tcq_8, tcq_7]
            exact n242 _ _ _ _ _ _ _ _ h2 ha hv (by omega) hC1 (pE_tr hE (pE_10 (Or.inr rfl) hE1)) hF1
          have n211 : ∀ (v nd ex z : Int) (M : tM), (-2147483648 ≤ v ∧ v ≤ 2147483646) → CI M → pE 0 M0 M → FR M r D → tT e d 2057 211 [some (.inr (.inr (.inl r))), some (.inr (.inr (.inl x1))), some (.inl i2), some (.inl i3), some (.inl i4), some (.inl i5), some (.inl nd), some (.inl ex), some (.inl z)] [.inl v, .inr (.inr (.inl r))] M n (sQ 0 M0 (fun r n' _ => SQi n (fun z => (0 ≤ z ∧ z ≤ 2)) r n')) := by
            intro v nd ex z M hv hC hE hF
            refine tb_X6_makeSlope_211 (c := true) ?_
            simp only [kb_X6_makeSlope_211, w_iv1, tfr_0, tfr_1, tfr_2, tfr_3, tfr_4, w_ist_2, tkl_n, tkl_i, tkl_l, tkl_r, w_goto, w64_r, true_and, and_true, Nat.reduceAdd, Nat.reduceSub, eq_self, hr, h7, hnd, hpl, tyk_8, tyk_7, tyk_26, tcq_60, tcq_8, tcq_7]
            refine ts_any (D := 0) (fun d' _ => k_X6_enter (x1 := v) h0 (by omega) hC hF) (by omega) ?_ ?_
            · rintro _ M1 _ ⟨xm, q1, rfl, q2, q3, q4, D', q5⟩
              cases q1
              try simp only [kb_X6_makeSlope_211, w_iv1, tfr_0, tfr_1, tfr_2, tfr_3, tfr_4, w_ist_2, tkl_n, tkl_i, tkl_l, tkl_r, w_goto, w64_r, true_and, and_true, Nat.reduceAdd, Nat.reduceSub, eq_self, hr, h7, hnd, hpl, tyk_8, tyk_7, tyk_26, tcq_60, tcq_8, tcq_7]
              exact n242 _ _ _ _ _ _ _ _ q2 h3 h4 (by omega) q3 (pE_tr hE q4) q5
            · rintro _ _ _ ⟨xm, q1, -⟩
              cases q1
          have n218 : ∀ (nd ex z : Int) (M : tM), (0 ≤ z ∧ z ≤ 127) → (-65536 ≤ ex ∧ ex ≤ 2147483647) → CI M → pE 0 M0 M → FR M r D → tT e d 2057 218 [some (.inr (.inr (.inl r))), some (.inr (.inr (.inl x1))), some (.inl i2), some (.inl i3), some (.inl i4), some (.inl i5), some (.inl nd), some (.inl ex), some (.inl z)] [] M n (sQ 0 M0 (fun r n' _ => SQi n (fun z => (0 ≤ z ∧ z ≤ 2)) r n')) := by
            intro nd ex z M hz hx hC hE hF
            refine tb_X6_makeSlope_218 (c := true) ?_
            simp only [kb_X6_makeSlope_218, w_ald_0, w_ild8, w_is1, tfr_0, tfr_1, tfr_2, tfr_3, tfr_4, w_ild7, w_is2, w_iv3, w_ist_2, tkl_n, tkl_i, tkl_l, tkl_r, w_nil, w64_r, true_and, and_true, Nat.reduceAdd, Nat.reduceSub, eq_self, hr, h7, hnd, hpl, tyk_8, tyk_7, tyk_26, tcq_60, tcq_8, tcq_7]
            refine ts_i (b := 2) (D := 0) (fun d' hd' => k_X6_actOf (by omega) hd') hC (by omega) ?_
            intro xa M1 ha hC1 hE1
            have hF1 := FR_1 hF h0 (mc_6 h0) (Or.inr rfl) hE1
            try simp only [kb_X6_makeSlope_218, w_ald_0, w_ild8, w_is1, tfr_0, tfr_1, tfr_2, tfr_3, tfr_4, w_ild7, w_is2, w_iv3, w_ist_2, tkl_n, tkl_i, tkl_l, tkl_r, w_nil, w64_r, true_and, and_true, Nat.reduceAdd, Nat.reduceSub, eq_self, hr, h7, hnd, hpl, tyk_8, tyk_7, tyk_26, tcq_60, tcq_8, tcq_7]
            refine ts_l (b := 2) (D := 0) (fun d' hd' => k_X6_numberOf (by omega) (by omega) hd') hC1 (by omega) ?_
            intro xn M2 hn hC2 hE2
            have hF2 := FR_1 hF1 h0 (mc_6 h0) (Or.inr rfl) hE2
            try simp only [kb_X6_makeSlope_218, w_ald_0, w_ild8, w_is1, tfr_0, tfr_1, tfr_2, tfr_3, tfr_4, w_ild7, w_is2, w_iv3, w_ist_2, tkl_n, tkl_i, tkl_l, tkl_r, w_nil, w64_r, true_and, and_true, Nat.reduceAdd, Nat.reduceSub, eq_self, hr, h7, hnd, hpl, tyk_8, tyk_7, tyk_26, tcq_60, tcq_8, tcq_7]
            refine ts_i (b := 2) (D := 0) (fun d' hd' => k_X6_byOf (by omega) (by omega) hd') hC2 (by omega) ?_
            intro xs M3 hs hC3 hE3
            have hF3 := FR_1 hF2 h0 (mc_6 h0) (Or.inr rfl) hE3
            try simp only [kb_X6_makeSlope_218, w_ald_0, w_ild8, w_is1, tfr_0, tfr_1, tfr_2, tfr_3, tfr_4, w_ild7, w_is2, w_iv3, w_ist_2, tkl_n, tkl_i, tkl_l, tkl_r, w_nil, w64_r, true_and, and_true, Nat.reduceAdd, Nat.reduceSub, eq_self, hr, h7, hnd, hpl, tyk_8, tyk_7, tyk_26, tcq_60, tcq_8, tcq_7]
            refine ts_i (b := 1) (D := 7) (fun d' hd' => k_X6_make h0 (by omega) hn (by omega) (by omega) he (by omega) hd') hC3 (by omega) ?_
            intro xm M4 hm4 hC4 hE4
            have hF4 := FR_1 hF3 h0 (mc_6 h0) (Or.inl rfl) hE4
            try simp only [kb_X6_makeSlope_218, w_ald_0, w_ild8, w_is1, tfr_0, tfr_1, tfr_2, tfr_3, tfr_4, w_ild7, w_is2, w_iv3, w_ist_2, tkl_n, tkl_i, tkl_l, tkl_r, w_nil, w64_r, true_and, and_true, Nat.reduceAdd, Nat.reduceSub, eq_self, hr, h7, hnd, hpl, tyk_8, tyk_7, tyk_26, tcq_60, tcq_8, tcq_7]
            exact n242 _ _ _ _ _ _ _ _ hm4.1 h3 h4 (by omega) hC4 (pE_tr hE (pE_tr (pE_10 (Or.inr rfl) hE1) (pE_tr (pE_10 (Or.inr rfl) hE2) (pE_tr (pE_10 (Or.inr rfl) hE3) (pE_10 (Or.inl rfl) hE4))))) hF4
          have n130 : ∀ (nd ex z : Int) (M : tM), (0 ≤ z ∧ z ≤ 127) → (-65536 ≤ nd ∧ nd ≤ 2147483647) → (-65536 ≤ ex ∧ ex ≤ 2147483647) → CI M → pE 0 M0 M → FR M r D → tT e d 2057 130 [some (.inr (.inr (.inl r))), some (.inr (.inr (.inl x1))), some (.inl i2), some (.inl i3), some (.inl i4), some (.inl i5), some (.inl nd), some (.inl ex), some (.inl z)] [] M n (sQ 0 M0 (fun r n' _ => SQi n (fun z => (0 ≤ z ∧ z ≤ 2)) r n')) := by
            intro nd ex z M hz hnd2 hx hC hE hF
            have n144 : tT e d 2057 144 [some (.inr (.inr (.inl r))), some (.inr (.inr (.inl x1))), some (.inl i2), some (.inl i3), some (.inl i4), some (.inl i5), some (.inl nd), some (.inl ex), some (.inl z)] [] M n (sQ 0 M0 (fun r n' _ => SQi n (fun z => (0 ≤ z ∧ z ≤ 2)) r n')) := by
              refine tb_X6_makeSlope_144 (c := true) ?_
              simp only [kb_X6_makeSlope_144, w_ild8, w_bi, w_ic_ne, w_ald_1, w_ild6, w_iv1, tfr_0, tfr_1, tfr_2, tfr_3, tfr_4, w_goto, w64_r, true_and, and_true, Nat.reduceAdd, Nat.reduceSub, eq_self, hr, h7, hnd, hpl, tyk_8, tyk_7, tyk_26, tcq_60, tcq_8, tcq_7]
              refine ⟨by omega, fun h => ?_, fun h => ?_⟩
              · refine tb_X6_makeSlope_160 (c := true) ?_
                simp only [kb_X6_makeSlope_160, w_ild6, w_ic, w_isub, w_nil, w64_r, true_and, and_true, Nat.reduceAdd, Nat.reduceSub, eq_self]
                exact n164 _ _ _ _ _ (by omega) hC hE hF
              refine ts_i (b := 2) (D := 2) (fun d' hd' => k_X5_leftOf h1 (by omega) hd') hC (by omega) ?_
              intro xa M1 ha hC1 hE1
              have hF1 := FR_1 hF h0 (mc_6 h0) (Or.inr rfl) hE1
              try simp only [kb_X6_makeSlope_144, w_ild8, w_bi, w_ic_ne, w_ald_1, w_ild6, w_iv1, tfr_0, tfr_1, tfr_2, tfr_3, tfr_4, w_goto, w64_r, true_and, and_true, Nat.reduceAdd, Nat.reduceSub, eq_self, hr, h7, hnd, hpl, tyk_8, tyk_7, tyk_26, tcq_60, tcq_8, tcq_7]
              exact n164 _ _ _ _ _ (by omega) hC1 (pE_tr hE (pE_10 (Or.inr rfl) hE1)) hF1
            have n190 : tT e d 2057 190 [some (.inr (.inr (.inl r))), some (.inr (.inr (.inl x1))), some (.inl i2), some (.inl i3), some (.inl i4), some (.inl i5), some (.inl nd), some (.inl ex), some (.inl z)] [] M n (sQ 0 M0 (fun r n' _ => SQi n (fun z => (0 ≤ z ∧ z ≤ 2)) r n')) := by
              refine tb_X6_makeSlope_190 (c := true) ?_
              simp only [kb_X6_makeSlope_190, w_ald_0, w_ild8, w_bi, w_ic_ne, w_ald_1, w_ild6, w_iv1, tfr_0, tfr_1, tfr_2, tfr_3, tfr_4, w_goto, w64_r, true_and, and_true, Nat.reduceAdd, Nat.reduceSub, eq_self, hr, h7, hnd, hpl, tyk_8, tyk_7, tyk_26, tcq_60, tcq_8, tcq_7]
              refine ⟨by omega, fun h => ?_, fun h => ?_⟩
              · refine tb_X6_makeSlope_207 (c := true) ?_
                simp only [kb_X6_makeSlope_207, w_ild6, w_ic, w_isub, w_nil, w64_r, true_and, and_true, Nat.reduceAdd, Nat.reduceSub, eq_self]
                exact n211 _ _ _ _ _ (by omega) hC hE hF
              refine ts_i (b := 2) (D := 2) (fun d' hd' => k_X5_leftOf h1 (by omega) hd') hC (by omega) ?_
              intro xa M1 ha hC1 hE1
              have hF1 := FR_1 hF h0 (mc_6 h0) (Or.inr rfl) hE1
              try simp only [kb_X6_makeSlope_190, w_ald_0, w_ild8, w_bi, w_ic_ne, w_ald_1, w_ild6, w_iv1, tfr_0, tfr_1, tfr_2, tfr_3, tfr_4, w_goto, w64_r, true_and, and_true, Nat.reduceAdd, Nat.reduceSub, eq_self, hr, h7, hnd, hpl, tyk_8, tyk_7, tyk_26, tcq_60, tcq_8, tcq_7]
              exact n211 _ _ _ _ _ (by omega) hC1 (pE_tr hE (pE_10 (Or.inr rfl) hE1)) hF1
            refine tb_X6_makeSlope_130 (c := true) ?_
            simp only [kb_X6_makeSlope_130, w_ild8, w_bi, w_ic_eq, w_ic_ne, w_nil, w64_r, true_and, and_true, Nat.reduceAdd, Nat.reduceSub, eq_self]
            refine ⟨by omega, fun h => n144, fun h => ?_⟩
            refine ⟨by omega, fun h => ?_, fun h => n144⟩
            refine tb_X6_makeSlope_176 (c := true) ?_
            simp only [kb_X6_makeSlope_176, w_ild8, w_bi, w_ic_eq, w_ic_ne, w_nil, w64_r, true_and, and_true, Nat.reduceAdd, Nat.reduceSub, eq_self]
            refine ⟨by omega, fun h => n190, fun h => ?_⟩
            refine ⟨by omega, fun h => n218 _ _ _ _ hz hx hC hE hF, fun h => n190⟩
          have hnode := CI_26 hC (mc_5 h0) (i := D - 1) (by omega)
          refine tb_X6_makeSlope_74 (c := true) ?_
          simp only [kb_X6_makeSlope_74, w_ald_0, w_gf_8_5, tw_t, w_gf_8_7, w_ic, w_isub, w_ia, w_iax, w_ist6, tkl_n, tkl_i, tkl_l, tkl_r, w_ald_1, w_ild6, w_iv1, tfr_0, tfr_1, tfr_2, tfr_3, tfr_4, w_ist7, w_ild7, w_is2, w_ist8, w_ild8, w_if_ne, w_dupi, w_dupr, w_pf_8_7, w_goto, w64_r, true_and, and_true, Nat.reduceAdd, Nat.reduceSub, eq_self, hr, h7, hnd, hpl, tyk_8, tyk_7, tyk_26, tcq_60, tcq_8, tcq_7, f1]
          refine ⟨by omega, ?_⟩
          refine ts_i (b := 2) (D := 1) (fun d' hd' => k_X5_scaleAt h1 (by omega) hd') hC (by omega) ?_
          intro xs M1 hs hC1 hE1
          have hF1 := FR_1 hF h0 (mc_6 h0) (Or.inr rfl) hE1
          try simp only [kb_X6_makeSlope_74, w_ald_0, w_gf_8_5, tw_t, w_gf_8_7, w_ic, w_isub, w_ia, w_iax, w_ist6, tkl_n, tkl_i, tkl_l, tkl_r, w_ald_1, w_ild6, w_iv1, tfr_0, tfr_1, tfr_2, tfr_3, tfr_4, w_ist7, w_ild7, w_is2, w_ist8, w_ild8, w_if_ne, w_dupi, w_dupr, w_pf_8_7, w_goto, w64_r, true_and, and_true, Nat.reduceAdd, Nat.reduceSub, eq_self, hr, h7, hnd, hpl, tyk_8, tyk_7, tyk_26, tcq_60, tcq_8, tcq_7]
          refine ts_i (b := 2) (D := 1) (fun d' hd' => k_X5_actAt h1 (by omega) hd') hC1 (by omega) ?_
          intro xa M2 ha hC2 hE2
          have hF2 := FR_1 hF1 h0 (mc_6 h0) (Or.inr rfl) hE2
          try simp only [kb_X6_makeSlope_74, w_ald_0, w_gf_8_5, tw_t, w_gf_8_7, w_ic, w_isub, w_ia, w_iax, w_ist6, tkl_n, tkl_i, tkl_l, tkl_r, w_ald_1, w_ild6, w_iv1, tfr_0, tfr_1, tfr_2, tfr_3, tfr_4, w_ist7, w_ild7, w_is2, w_ist8, w_ild8, w_if_ne, w_dupi, w_dupr, w_pf_8_7, w_goto, w64_r, true_and, and_true, Nat.reduceAdd, Nat.reduceSub, eq_self, hr, h7, hnd, hpl, tyk_8, tyk_7, tyk_26, tcq_60, tcq_8, tcq_7]
          obtain ⟨j, hj, hrec⟩ := @k_X6_recipeOf e (d - 1) n M2 xa xs he (by omega)
          refine ⟨d - 1, by omega, _, hrec, ?_, ?_⟩
          rotate_left
          · rintro _ _ _ ⟨q1, -⟩
            cases q1
          rintro _ _ _ ⟨q1, rfl, rfl⟩
          cases q1
          try simp only [kb_X6_makeSlope_74, w_ald_0, w_gf_8_5, tw_t, w_gf_8_7, w_ic, w_isub, w_ia, w_iax, w_ist6, tkl_n, tkl_i, tkl_l, tkl_r, w_ald_1, w_ild6, w_iv1, tfr_0, tfr_1, tfr_2, tfr_3, tfr_4, w_ist7, w_ild7, w_is2, w_ist8, w_ild8, w_if_ne, w_dupi, w_dupr, w_pf_8_7, w_goto, w64_r, true_and, and_true, Nat.reduceAdd, Nat.reduceSub, eq_self, hr, h7, hnd, hpl, tyk_8, tyk_7, tyk_26, tcq_60, tcq_8, tcq_7, Option.toList_some, List.cons_append, List.nil_append]
          refine ts_any (D := 4) (fun d' hd' => k_X6_nextSign h0 hj hC2 hF2 hD he hd') (by omega) ?_ ?_
          rotate_left
          · rintro _ _ _ ⟨xm, q1, -⟩
            cases q1
          rintro _ M3 _ ⟨z, q1, rfl, q2, q3, q4, q5, q6, q7⟩
          cases q1
          have hE3 : pE 0 M0 M3 := pE_tr hE (pE_tr (pE_10 (Or.inr rfl) hE1) (pE_tr (pE_10 (Or.inr rfl) hE2) q4))
          try simp only [kb_X6_makeSlope_74, w_ald_0, w_gf_8_5, tw_t, w_gf_8_7, w_ic, w_isub, w_ia, w_iax, w_ist6, tkl_n, tkl_i, tkl_l, tkl_r, w_ald_1, w_ild6, w_iv1, tfr_0, tfr_1, tfr_2, tfr_3, tfr_4, w_ist7, w_ild7, w_is2, w_ist8, w_ild8, w_if_ne, w_dupi, w_dupr, w_pf_8_7, w_goto, w64_r, true_and, and_true, Nat.reduceAdd, Nat.reduceSub, eq_self, hr, h7, hnd, hpl, tyk_8, tyk_7, tyk_26, tcq_60, tcq_8, tcq_7, q5, Option.toList_some, List.cons_append, List.nil_append]
          refine ⟨by omega, fun hz => n130 _ _ _ _ q2 hnode hs q3 hE3 (q7 hz), fun hz => ?_⟩
          refine n242 _ _ _ _ _ _ _ (D - 1) h2 h3 h4 (by omega) (CI_put q3 hr (fun _ => ?_)) (pE_tr hE3 (pE_put (prt_f (a := 8) (f := 7) (Or.inl (by decide)) h0 (by decide) (fun _ _ => rfl) (by decide)))) ⟨tU_eq .., by omega, fun i g1 g2 => ?_⟩
          · show (0 : Int) ≤ D - 1 ∧ D - 1 ≤ 60
            omega
          · rw [tU_nk (show r + 421 ≠ r by omega)]
            exact q6 i g1 g2
        exact n74
      refine tc_i (D := 1) (fun d' hd' => e_actAt h1 (by omega) hC hd') (by omega) ?_
      rintro xa M1 ⟨rfl, rfl⟩
      have ha := fm_c (lo := 0) (hi := 65535) hC (fm_0 h1) (wth_in i3).1 rfl
      have hb := fm_c (lo := -65536) (hi := 2147483647) hC (fm_2 h1) (wth_in i3).1 rfl
      try simp only [kb_X6_makeSlope_28, w_ild5, w_ldc, w_ic_ge, w_ald_0, w_gf_8_7, tw_t, w_if_le, w_ild_3, w_ild4, w_ic_gt, w_ald_1, w_iv1, tfr_0, tfr_1, tfr_2, tfr_3, tfr_4, w_iv3, w_ist_2, tkl_n, tkl_i, tkl_l, tkl_r, w_inc3, w_goto, w64_r, true_and, and_true, Nat.reduceAdd, Nat.reduceSub, eq_self, hr, h7, hnd, hpl, tyk_8, tyk_7, tyk_26, tcq_60, tcq_8, tcq_7]
      refine ts_l (b := 2) (D := 1) (fun d' hd' => k_X5_numberAt h1 (by omega) hd') hC (by omega) ?_
      intro xn M2 hn hC2 hE2
      obtain rfl := pE_2 hE2
      try simp only [kb_X6_makeSlope_28, w_ild5, w_ldc, w_ic_ge, w_ald_0, w_gf_8_7, tw_t, w_if_le, w_ild_3, w_ild4, w_ic_gt, w_ald_1, w_iv1, tfr_0, tfr_1, tfr_2, tfr_3, tfr_4, w_iv3, w_ist_2, tkl_n, tkl_i, tkl_l, tkl_r, w_inc3, w_goto, w64_r, true_and, and_true, Nat.reduceAdd, Nat.reduceSub, eq_self, hr, h7, hnd, hpl, tyk_8, tyk_7, tyk_26, tcq_60, tcq_8, tcq_7]
      refine tc_i (D := 1) (fun d' hd' => e_scaleAt h1 (by omega) hC2 hd') (by omega) ?_
      rintro xs M3 ⟨rfl, rfl⟩
      try simp only [kb_X6_makeSlope_28, w_ild5, w_ldc, w_ic_ge, w_ald_0, w_gf_8_7, tw_t, w_if_le, w_ild_3, w_ild4, w_ic_gt, w_ald_1, w_iv1, tfr_0, tfr_1, tfr_2, tfr_3, tfr_4, w_iv3, w_ist_2, tkl_n, tkl_i, tkl_l, tkl_r, w_inc3, w_goto, w64_r, true_and, and_true, Nat.reduceAdd, Nat.reduceSub, eq_self, hr, h7, hnd, hpl, tyk_8, tyk_7, tyk_26, tcq_60, tcq_8, tcq_7]
      refine ts_i (b := 1) (D := 7) (fun d' hd' => k_X6_make h0 ha hn (by omega) (FA_at hC2 h1) he (by omega) hd') hC2 (by omega) ?_
      intro xm M4 hm4 hC4 hE4
      have hF4 := FR_1 hF h0 (mc_6 h0) (Or.inl rfl) hE4
      try simp only [kb_X6_makeSlope_28, w_ild5, w_ldc, w_ic_ge, w_ald_0, w_gf_8_7, tw_t, w_if_le, w_ild_3, w_ild4, w_ic_gt, w_ald_1, w_iv1, tfr_0, tfr_1, tfr_2, tfr_3, tfr_4, w_iv3, w_ist_2, tkl_n, tkl_i, tkl_l, tkl_r, w_inc3, w_goto, w64_r, true_and, and_true, Nat.reduceAdd, Nat.reduceSub, eq_self, hr, h7, hnd, hpl, tyk_8, tyk_7, tyk_26, tcq_60, tcq_8, tcq_7]
      exact n242 _ _ _ _ _ _ _ _ hm4.1 (by omega) h4 (by omega) hC4 (pE_tr hE (pE_10 (Or.inl rfl) hE4)) hF4
  refine tb_X6_makeSlope_0 (c := true) ?_
  simp only [kb_X6_makeSlope_0, w_ald_0, w_iv0, tfr_0, tfr_1, tfr_2, tfr_3, tfr_4, w_ic, w_pf_8_7, w_ald_1, w_gf_7_4, tw_t, w_isub, w_iv1, w_ist_2, tkl_n, tkl_i, tkl_l, tkl_r, w_ist_3, w_ist4, w_ist5, w_nil, w64_r, true_and, and_true, Nat.reduceAdd, Nat.reduceSub, eq_self, hr, h7, hnd, hpl, tyk_8, tyk_7, tyk_26, tcq_60, tcq_8, tcq_7]
  refine ts_n (b := 1) (D := 0) (fun d' hd' => k_X6_clear h0 (by omega) hd') hC0 (by omega) ?_
  intro M1 _ hC1 hE1
  have u7 : ∀ i : Int, tU M1 r 7 0 x1 i = M1 x1 i := fun i => tU_nk (fun q => by rw [q, hr] at h7; cases h7)
  try simp only [kb_X6_makeSlope_0, w_ald_0, w_iv0, tfr_0, tfr_1, tfr_2, tfr_3, tfr_4, w_ic, w_pf_8_7, w_ald_1, w_gf_7_4, tw_t, w_isub, w_iv1, w_ist_2, tkl_n, tkl_i, tkl_l, tkl_r, w_ist_3, w_ist4, w_ist5, w_nil, w64_r, true_and, and_true, Nat.reduceAdd, Nat.reduceSub, eq_self, hr, h7, hnd, hpl, tyk_8, tyk_7, tyk_26, tcq_60, tcq_8, tcq_7, u7]
  have hC2 : CI (tU M1 r 7 0) := CI_put hC1 hr (fun _ => by show (0 : Int) ≤ 0 ∧ (0 : Int) ≤ 60; omega)
  have hF2 : FR (tU M1 r 7 0) r 0 := ⟨tU_eq .., by omega, fun j g1 g2 => by omega⟩
  have hE2 : pE 0 M0 (tU M1 r 7 0) := pE_tr (pE_10 (Or.inl rfl) hE1) (pE_put (prt_f (a := 8) (f := 7) (Or.inl (by decide)) h0 (by decide) (fun _ _ => rfl) (by decide)))
  have hc : 0 ≤ M1 x1 4 ∧ M1 x1 4 ≤ 60 := CI_i (a := 7) (f := 4) hC1 h1 rfl
  refine ts_any (D := 0) (fun d' _ => k_X6_enter (x1 := M1 x1 4 - 1) h0 (by omega) hC2 hF2) (by omega) ?_ ?_
  · rintro _ M3 _ ⟨xm, q1, rfl, q2, q3, q4, D', q5⟩
    cases q1
    try simp only [kb_X6_makeSlope_0, w_ald_0, w_iv0, tfr_0, tfr_1, tfr_2, tfr_3, tfr_4, w_ic, w_pf_8_7, w_ald_1, w_gf_7_4, tw_t, w_isub, w_iv1, w_ist_2, tkl_n, tkl_i, tkl_l, tkl_r, w_ist_3, w_ist4, w_ist5, w_nil, w64_r, true_and, and_true, Nat.reduceAdd, Nat.reduceSub, eq_self, hr, h7, hnd, hpl, tyk_8, tyk_7, tyk_26, tcq_60, tcq_8, tcq_7]
    exact n28 100100 _ _ _ _ _ _ _ _ _ (by omega) (by omega) q2 (by omega) (by omega) q3 (pE_tr hE2 q4) q5
  · rintro _ _ _ ⟨xm, q1, -⟩
    cases q1
end HAND
