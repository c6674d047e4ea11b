/-! WHAT HOLDS BETWEEN CALLS: a formula is read, what is released. -/
/-- what the last act that waits leaves -/
theorem FPI_rel {r c w b : Nat} {x3 : Int} {M M1 M2 : tM} (h : FPI M r c (w + 1) 1) (hc : c < 60) (hx : (M (r + 5) (w : Int) = 43 ∨ M (r + 5) (w : Int) = 45 ∨ M (r + 5) (w : Int) = 42 ∨ M (r + 5) (w : Int) = 47) ∨ (M (r + 5) (w : Int) = 126 ∨ M (r + 5) (w : Int) = 114 ∨ M (r + 5) (w : Int) = 101 ∨ M (r + 5) (w : Int) = 108 ∨ M (r + 5) (w : Int) = 97)) (h3 : 0 ≤ x3 ∧ (M (r + 5) (w : Int) = 114 → x3 = 2) ∧ (M (r + 5) (w : Int) ≠ 114 → x3 = 0)) (a : APP r c (M (r + 5) (w : Int)) 0 x3 M M1) (u : ∀ (k : Nat) (i : Int), r < k → M2 k i = M1 k i) (e4 : M2 r 4 = M1 r 4) (e8 : M2 r 8 = (w : Int)) : FPI M2 r (c + 1) w 1 := by
  have e : wP (fW M r) (w + 1) = wP (fW M r) w + (if (M (r + 5) (w : Int) = 43 ∨ M (r + 5) (w : Int) = 45 ∨ M (r + 5) (w : Int) = 42 ∨ M (r + 5) (w : Int) = 47) then 1 else 0) := wP_s (fW M r) w
  have ok : AOK (M (r + 5) (w : Int)) 0 x3.toNat (wP (fW M r) (w + 1) + 1) := by
    rw [e]
    unfold AOK OOK
    rcases hx with q | q
    · rw [if_pos q]
      exact Or.inr (Or.inr (Or.inr (Or.inr (Or.inr (Or.inl ⟨q, by omega⟩)))))
    · refine Or.inr (Or.inr (Or.inr (Or.inr (Or.inr (Or.inr ⟨?_, by omega⟩)))))
      omega
  obtain ⟨⟨⟨b1, b2⟩, b3, b4⟩, b5, b6, b7⟩ := FPI_app h hc a h3.1 ok (by omega)
  have eA : ∀ k : Nat, hA (fA M2 r) k = hA (fA M1 r) k := fun k => hA_u k (fun j _ => u (r + 1) (j : Int) (by omega))
  have eW : wP (fW M2 r) w = wP (fW M r) w := by
    have q1 : wP (fW M2 r) w = wP (fW M1 r) w := wP_u w (fun j _ => u (r + 5) (j : Int) (by omega))
    have q2 : wP (fW M1 r) w = wP (fW M r) w := wP_u w (fun j _ => a.2.2.1 (r + 5) (j : Int) (by omega) (Or.inl (by omega)))
    exact q1.trans q2
  refine ⟨⟨⟨e4.trans b1, e8⟩, by omega, by omega⟩, FOK_u b5 (fun k i g1 _ _ _ => u k i g1), ?_⟩
  rw [eA, b6, eW, e]
  rcases hx with q | q
  · rw [if_neg (by omega), if_pos q, if_pos q]
    omega
  · rw [if_neg (by omega), if_neg (by omega), if_neg (by omega)]
section HAND
variable {e : tE} {d n : Nat} {M : tM}
theorem z_isAhead {a : Int} (ha : 0 ≤ a ∧ a ≤ 65535) : tC e d 1798 [.inl a] M n (tQi n (fun z M' => ((z = 1 ∧ (a = 126 ∨ a = 114 ∨ a = 101 ∨ a = 108 ∨ a = 97)) ∨ (z = 0 ∧ ¬ (a = 126 ∨ a = 114 ∨ a = 101 ∨ a = 108 ∨ a = 97))) ∧ M' = M)) := by
  refine tst_X5_isAhead ?_
  have n35 : ∀ z : Int, ((z = 1 ∧ (a = 126 ∨ a = 114 ∨ a = 101 ∨ a = 108 ∨ a = 97)) ∨ (z = 0 ∧ ¬ (a = 126 ∨ a = 114 ∨ a = 101 ∨ a = 108 ∨ a = 97))) → tT e d 1798 35 [some (.inl (a))] [.inl z] M n (tQi n (fun z M' => ((z = 1 ∧ (a = 126 ∨ a = 114 ∨ a = 101 ∨ a = 108 ∨ a = 97)) ∨ (z = 0 ∧ ¬ (a = 126 ∨ a = 114 ∨ a = 101 ∨ a = 108 ∨ a = 97))) ∧ M' = M)) := by
    intro z hz
    refine tb_X5_isAhead_35 (c := false) ?_
    simp only [kb_X5_isAhead_35, w_ire, trg, true_and, and_true, Nat.reduceAdd, Nat.reduceSub, eq_self]
    exact ⟨by omega, _, rfl, rfl, hz, rfl⟩
  have n30 : (a = 126 ∨ a = 114 ∨ a = 101 ∨ a = 108 ∨ a = 97) → tT e d 1798 30 [some (.inl (a))] [] M n (tQi n (fun z M' => ((z = 1 ∧ (a = 126 ∨ a = 114 ∨ a = 101 ∨ a = 108 ∨ a = 97)) ∨ (z = 0 ∧ ¬ (a = 126 ∨ a = 114 ∨ a = 101 ∨ a = 108 ∨ a = 97))) ∧ M' = M)) := by
    intro h
    refine tb_X5_isAhead_30 (c := false) ?_
    simp only [kb_X5_isAhead_30, w_ic, w_goto, true_and, and_true, Nat.reduceAdd, Nat.reduceSub, eq_self]
    exact n35 1 (Or.inl ⟨rfl, h⟩)
  refine tb_X5_isAhead_0 (c := false) ?_
  simp only [kb_X5_isAhead_0, w_ild_0, w_bi, w_ic_eq, w_ic_ne, w_nil, true_and, and_true, Nat.reduceAdd, Nat.reduceSub, eq_self]
  repeat refine And.intro (by omega) ?_
  refine ⟨fun g => n30 (by omega), fun g1 => ?_⟩
  repeat refine And.intro (by omega) ?_
  refine ⟨fun g => n30 (by omega), fun g2 => ?_⟩
  repeat refine And.intro (by omega) ?_
  refine ⟨fun g => n30 (by omega), fun g3 => ?_⟩
  repeat refine And.intro (by omega) ?_
  refine ⟨fun g => n30 (by omega), fun g4 => ?_⟩
  repeat refine And.intro (by omega) ?_
  refine ⟨fun g => ?_, fun g => n30 (by omega)⟩
  refine tb_X5_isAhead_34 (c := false) ?_
  simp only [kb_X5_isAhead_34, w_ic, w_nil, true_and, and_true, Nat.reduceAdd, Nat.reduceSub, eq_self]
  exact n35 0 (Or.inr ⟨rfl, by omega⟩)
theorem z_last {r w : Nat} (hr : FMC r) (hw : M r 8 = (w : Int)) (hC : CI M) : tC e d 1800 [.inr (.inr (.inl r))] M n (tQi n (fun z M' => ((w = 0 ∧ z = 0) ∨ ∃ v : Nat, w = v + 1 ∧ z = M (r + 5) (v : Int)) ∧ (0 ≤ z ∧ z ≤ 65535) ∧ M' = M)) := by
  refine tC_mono (e_lastHeld (FM_7 hr) hC) ?_
  rintro v M' n' ⟨z, rfl, rfl, hz, rfl⟩
  refine ⟨z, rfl, rfl, ?_, ?_, rfl⟩
  · rw [hz]
    unfold lhd
    rw [hw]
    rcases Nat.eq_zero_or_pos w with q | q
    · exact Or.inl ⟨q, by rw [if_pos (by omega)]⟩
    · refine Or.inr ⟨w - 1, by omega, ?_⟩
      rw [if_neg (by omega), show ((w : Nat) : Int) - 1 = ((w - 1 : Nat) : Int) by omega]
  · rw [hz]
    unfold lhd
    split
    · decide
    · exact fm_c (lo := 0) (hi := 65535) hC (fm_7 (FM_7 hr)) (i := M' r 8 - 1) (by omega) rfl
/-- the last act that waits is put behind -/
theorem z_frel {r c w : Nat} (hr : FMC r) (h : FPI M r c (w + 1) 1) (hc : c < 60) (hx : (M (r + 5) (w : Int) = 43 ∨ M (r + 5) (w : Int) = 45 ∨ M (r + 5) (w : Int) = 42 ∨ M (r + 5) (w : Int) = 47) ∨ (M (r + 5) (w : Int) = 126 ∨ M (r + 5) (w : Int) = 114 ∨ M (r + 5) (w : Int) = 101 ∨ M (r + 5) (w : Int) = 108 ∨ M (r + 5) (w : Int) = 97)) (hC : CI M) (hd : 1 ≤ d) : tC e d 1804 [.inr (.inr (.inl r))] M n (tQn n (fun M' => FPF r M M' ∧ (∀ i : Int, i ≠ 4 → i ≠ 8 → M' r i = M r i) ∧ FPI M' r (c + 1) w 1)) := by
  obtain ⟨t0, t1, t2, t3, t4, t5⟩ := FM_of hr
  have hr2 := FM_r hr
  have hw := h.1.1.2
  refine tst_X5_release ?_
  have n20 : ∀ z : Int, 0 ≤ z ∧ (M (r + 5) (w : Int) = 114 → z = 2) ∧ (M (r + 5) (w : Int) ≠ 114 → z = 0) → tT e d 1804 20 [some (.inr (.inr (.inl (r))))] [.inl z, .inr (.inl 0), .inl (M (r + 5) (w : Int)), .inr (.inr (.inl r))] M n (tQn n (fun M' => FPF r M M' ∧ (∀ i : Int, i ≠ 4 → i ≠ 8 → M' r i = M r i) ∧ FPI M' r (c + 1) w 1)) := by
    intro z hz
    refine tb_X5_release_20 (c := false) ?_
    simp only [kb_X5_release_20, w_iv3, tfr_0, tfr_1, tfr_2, tfr_3, tfr_4, w_ald_0, w_dupi, w_dupr, w_gf_7_8, tw_f, w_ic, w_isub, w_pf_7_8, w_re, true_and, and_true, Nat.reduceAdd, Nat.reduceSub, eq_self, tyk_7, tcq_7, tyk_42, tyk_28, tyk_43, tyx_15, tcq_60, t0]
    refine tc_n (D := 0) (fun d' hd' => z_fapp hr h.1.1.1 hc (by omega) (by decide) (by omega) hz.2.1 hC) (by omega) ?_
    rintro M1 ⟨f1, a1⟩
    have e8 : M1 r 8 = ((w + 1 : Nat) : Int) := (a1.1 8 (by decide)).trans hw
    try simp only [kb_X5_release_20, w_iv3, tfr_0, tfr_1, tfr_2, tfr_3, tfr_4, w_ald_0, w_dupi, w_dupr, w_gf_7_8, tw_f, w_ic, w_isub, w_pf_7_8, w_re, true_and, and_true, Nat.reduceAdd, Nat.reduceSub, eq_self, tyk_7, tcq_7, tyk_42, tyk_28, tyk_43, tyx_15, tcq_60, t0]
    rw [e8]
    have w60 := h.1.2.2
    have f2 := FPF_put (f := 8) (v := (w : Int)) hr (fun _ => by show 0 ≤ (w : Int) ∧ (w : Int) ≤ 60; omega) f1.1.1
    rw [show ((w + 1 : Nat) : Int) - 1 = (w : Int) by omega]
    repeat refine And.intro (by omega) ?_
    exact ⟨rfl, rfl, FPF_tr f1 f2, fun i g1 g2 => (tU_ni g2).trans (a1.1 i g1), FPI_rel (b := 0) h hc hx hz a1 (fun k i g => tU_nk (by omega)) (tU_ni (by decide)) (tU_eq ..)⟩
  refine tb_X5_release_0 (c := false) ?_
  simp only [kb_X5_release_0, w_ald_0, w_iv0, tfr_0, tfr_1, tfr_2, tfr_3, tfr_4, w_lc0, w_bi, w_ic_ne, w_ic, w_goto, true_and, and_true, Nat.reduceAdd, Nat.reduceSub, eq_self, tyk_7, tcq_7, tyk_42, tyk_28, tyk_43, tyx_15, tcq_60, t0]
  refine tc_i (D := 0) (fun d' hd' => z_last hr hw hC) (by omega) ?_
  rintro z1 M1 ⟨g1, -, rfl⟩
  have e1 : z1 = M1 (r + 5) (w : Int) := by
    rcases g1 with ⟨q, _⟩ | ⟨v, q, q2⟩
    · omega
    · rw [show w = v by omega]
      exact q2
  try simp only [kb_X5_release_0, w_ald_0, w_iv0, tfr_0, tfr_1, tfr_2, tfr_3, tfr_4, w_lc0, w_bi, w_ic_ne, w_ic, w_goto, true_and, and_true, Nat.reduceAdd, Nat.reduceSub, eq_self, tyk_7, tcq_7, tyk_42, tyk_28, tyk_43, tyx_15, tcq_60, t0]
  refine tc_i (D := 0) (fun d' hd' => z_last hr hw hC) (by omega) ?_
  rintro z2 M2 ⟨g2, r2, rfl⟩
  have e2 : z2 = M2 (r + 5) (w : Int) := by
    rcases g2 with ⟨q, _⟩ | ⟨v, q, q2⟩
    · omega
    · rw [show w = v by omega]
      exact q2
  subst e1
  subst e2
  try simp only [kb_X5_release_0, w_ald_0, w_iv0, tfr_0, tfr_1, tfr_2, tfr_3, tfr_4, w_lc0, w_bi, w_ic_ne, w_ic, w_goto, true_and, and_true, Nat.reduceAdd, Nat.reduceSub, eq_self, tyk_7, tcq_7, tyk_42, tyk_28, tyk_43, tyx_15, tcq_60, t0]
  repeat refine And.intro (by omega) ?_
  refine ⟨fun q => ?_, fun q => ?_⟩
  · refine tb_X5_release_19 (c := false) ?_
    simp only [kb_X5_release_19, w_ic, w_nil, true_and, and_true, Nat.reduceAdd, Nat.reduceSub, eq_self]
    exact n20 0 (by omega)
  · try simp only [kb_X5_release_0, w_ald_0, w_iv0, tfr_0, tfr_1, tfr_2, tfr_3, tfr_4, w_lc0, w_bi, w_ic_ne, w_ic, w_goto, true_and, and_true, Nat.reduceAdd, Nat.reduceSub, eq_self, tyk_7, tcq_7, tyk_42, tyk_28, tyk_43, tyx_15, tcq_60]
    exact n20 2 (by omega)
theorem z_relP {r c w : Nat} (hr : FMC r) (h : FPI M r c w 1) (hc : c + w ≤ 60) (hC : CI M) (hd : 2 ≤ d) : tC e d 1805 [.inr (.inr (.inl r))] M n (tQn n (fun M' => FPF r M M' ∧ (∀ i : Int, i ≠ 4 → i ≠ 8 → M' r i = M r i) ∧ ∃ c' w' : Nat, c' + w' = c + w ∧ FPI M' r c' w' 1)) := by
  obtain ⟨t0, t1, t2, t3, t4, t5⟩ := FM_of hr
  refine tst_X5_releaseProducts ?_
  have nl : ∀ (fu : Nat) (N : tM) (j c2 w2 : Nat), 60 - j = fu → j ≤ 60 → FPF r M N → (∀ i : Int, i ≠ 4 → i ≠ 8 → N r i = M r i) → c2 + w2 = c + w → FPI N r c2 w2 1 → tT e d 1805 2 [some (.inr (.inr (.inl (r)))), some (.inl ((j : Int)))] [] N n (tQn n (fun M' => FPF r M M' ∧ (∀ i : Int, i ≠ 4 → i ≠ 8 → M' r i = M r i) ∧ ∃ c' w' : Nat, c' + w' = c + w ∧ FPI M' r c' w' 1)) := by
    intro fu
    induction fu with
    | zero =>
      intro N j c2 w2 hf hj fN gN hcw hN
      refine tb_X5_releaseProducts_2 (c := false) ?_
      simp only [kb_X5_releaseProducts_2, w_ild_1, w_bi, w_ic_ge, w_ald_0, w_iv0, tfr_0, tfr_1, tfr_2, tfr_3, tfr_4, w_ic_eq, w_ic_ne, w_nil, true_and, and_true, Nat.reduceAdd, Nat.reduceSub, eq_self, tyk_7, tcq_7, tyk_42, tyk_28, tyk_43, tyx_15, tcq_60, t0]
      repeat refine And.intro (by omega) ?_
      refine ⟨fun _ => ?_, fun q => absurd (by omega) q⟩
      refine tb_X5_releaseProducts_36 (c := false) ?_
      simp only [kb_X5_releaseProducts_36, w_re, true_and, and_true, Nat.reduceAdd, Nat.reduceSub, eq_self, t0]
      exact ⟨rfl, rfl, fN, gN, c2, w2, hcw, hN⟩
    | succ fu ih =>
      intro N j c2 w2 hf hj fN gN hcw hN
      have n36 : tT e d 1805 36 [some (.inr (.inr (.inl (r)))), some (.inl ((j : Int)))] [] N n (tQn n (fun M' => FPF r M M' ∧ (∀ i : Int, i ≠ 4 → i ≠ 8 → M' r i = M r i) ∧ ∃ c' w' : Nat, c' + w' = c + w ∧ FPI M' r c' w' 1)) := by
        refine tb_X5_releaseProducts_36 (c := false) ?_
        simp only [kb_X5_releaseProducts_36, w_re, true_and, and_true, Nat.reduceAdd, Nat.reduceSub, eq_self, t0]
        exact ⟨rfl, rfl, fN, gN, c2, w2, hcw, hN⟩
      have n26 : ∀ v : Nat, w2 = v + 1 → (N (r + 5) (v : Int) = 42 ∨ N (r + 5) (v : Int) = 47) → tT e d 1805 26 [some (.inr (.inr (.inl (r)))), some (.inl ((j : Int)))] [] N n (tQn n (fun M' => FPF r M M' ∧ (∀ i : Int, i ≠ 4 → i ≠ 8 → M' r i = M r i) ∧ ∃ c' w' : Nat, c' + w' = c + w ∧ FPI M' r c' w' 1)) := by
        intro v hv hx
        subst hv
        refine tb_X5_releaseProducts_26 (c := false) ?_
        simp only [kb_X5_releaseProducts_26, w_ald_0, w_iv0, tfr_0, tfr_1, tfr_2, tfr_3, tfr_4, w_inc1, tkl_n, tkl_i, tkl_l, tkl_r, w_goto, true_and, and_true, Nat.reduceAdd, Nat.reduceSub, eq_self, tyk_7, tcq_7, tyk_42, tyk_28, tyk_43, tyx_15, tcq_60, t0]
        refine tc_n (D := 1) (fun d' hd' => z_frel hr hN (by omega) (by omega) fN.1.1 hd') (by omega) ?_
        rintro N1 ⟨f1, g1, i1⟩
        try simp only [kb_X5_releaseProducts_26, w_ald_0, w_iv0, tfr_0, tfr_1, tfr_2, tfr_3, tfr_4, w_inc1, tkl_n, tkl_i, tkl_l, tkl_r, w_goto, true_and, and_true, Nat.reduceAdd, Nat.reduceSub, eq_self, tyk_7, tcq_7, tyk_42, tyk_28, tyk_43, tyx_15, tcq_60, t0]
        repeat refine And.intro (by omega) ?_
        rw [show ((j : Nat) : Int) + 1 = ((j + 1 : Nat) : Int) by omega]
        exact ih N1 (j + 1) (c2 + 1) v (by omega) (by omega) (FPF_tr fN f1) (fun i a b => (g1 i a b).trans (gN i a b)) (by omega) i1
      refine tb_X5_releaseProducts_2 (c := false) ?_
      simp only [kb_X5_releaseProducts_2, w_ild_1, w_bi, w_ic_ge, w_ald_0, w_iv0, tfr_0, tfr_1, tfr_2, tfr_3, tfr_4, w_ic_eq, w_ic_ne, w_nil, true_and, and_true, Nat.reduceAdd, Nat.reduceSub, eq_self, tyk_7, tcq_7, tyk_42, tyk_28, tyk_43, tyx_15, tcq_60, t0]
      repeat refine And.intro (by omega) ?_
      first | refine ⟨fun q => absurd q (by omega), fun _ => ?_⟩ | refine fun _ => ?_
      refine tc_i (D := 0) (fun d' hd' => z_last hr hN.1.1.2 fN.1.1) (by omega) ?_
      rintro z1 M1 ⟨g1, r1, rfl⟩
      try simp only [kb_X5_releaseProducts_2, w_ild_1, w_bi, w_ic_ge, w_ald_0, w_iv0, tfr_0, tfr_1, tfr_2, tfr_3, tfr_4, w_ic_eq, w_ic_ne, w_nil, true_and, and_true, Nat.reduceAdd, Nat.reduceSub, eq_self, tyk_7, tcq_7, tyk_42, tyk_28, tyk_43, tyx_15, tcq_60, t0]
      repeat refine And.intro (by omega) ?_
      refine ⟨fun q => ?_, fun q => ?_⟩
      · rcases g1 with ⟨_, q2⟩ | ⟨v, q1, q2⟩
        · omega
        · exact n26 v q1 (Or.inl (by omega))
      try simp only [kb_X5_releaseProducts_2, w_ild_1, w_bi, w_ic_ge, w_ald_0, w_iv0, tfr_0, tfr_1, tfr_2, tfr_3, tfr_4, w_ic_eq, w_ic_ne, w_nil, true_and, and_true, Nat.reduceAdd, Nat.reduceSub, eq_self, tyk_7, tcq_7, tyk_42, tyk_28, tyk_43, tyx_15, tcq_60, t0]
      refine tc_i (D := 0) (fun d' hd' => z_last hr hN.1.1.2 fN.1.1) (by omega) ?_
      rintro z2 M2 ⟨g2, r2, rfl⟩
      try simp only [kb_X5_releaseProducts_2, w_ild_1, w_bi, w_ic_ge, w_ald_0, w_iv0, tfr_0, tfr_1, tfr_2, tfr_3, tfr_4, w_ic_eq, w_ic_ne, w_nil, true_and, and_true, Nat.reduceAdd, Nat.reduceSub, eq_self, tyk_7, tcq_7, tyk_42, tyk_28, tyk_43, tyx_15, tcq_60, t0]
      repeat refine And.intro (by omega) ?_
      refine ⟨fun _ => n36, fun q => ?_⟩
      rcases g2 with ⟨_, q2⟩ | ⟨v, q1, q2⟩
      · omega
      · exact n26 v q1 (Or.inr (by omega))
  refine tb_X5_releaseProducts_0 (c := false) ?_
  simp only [kb_X5_releaseProducts_0, w_ic, w_ist_1, tkl_n, tkl_i, tkl_l, tkl_r, w_nil, true_and, and_true, Nat.reduceAdd, Nat.reduceSub, eq_self, t0]
  exact nl 60 M 0 c w rfl (by decide) (FPF_refl hC) (fun _ _ _ => rfl) rfl h
theorem z_relS {r c w : Nat} (hr : FMC r) (h : FPI M r c w 1) (hc : c + w ≤ 60) (hC : CI M) (hd : 2 ≤ d) : tC e d 1806 [.inr (.inr (.inl r))] M n (tQn n (fun M' => FPF r M M' ∧ (∀ i : Int, i ≠ 4 → i ≠ 8 → M' r i = M r i) ∧ ∃ c' w' : Nat, c' + w' = c + w ∧ FPI M' r c' w' 1)) := by
  obtain ⟨t0, t1, t2, t3, t4, t5⟩ := FM_of hr
  refine tst_X5_releaseSums ?_
  have nl : ∀ (fu : Nat) (N : tM) (j c2 w2 : Nat), 60 - j = fu → j ≤ 60 → FPF r M N → (∀ i : Int, i ≠ 4 → i ≠ 8 → N r i = M r i) → c2 + w2 = c + w → FPI N r c2 w2 1 → tT e d 1806 2 [some (.inr (.inr (.inl (r)))), some (.inl ((j : Int)))] [] N n (tQn n (fun M' => FPF r M M' ∧ (∀ i : Int, i ≠ 4 → i ≠ 8 → M' r i = M r i) ∧ ∃ c' w' : Nat, c' + w' = c + w ∧ FPI M' r c' w' 1)) := by
    intro fu
    induction fu with
    | zero =>
      intro N j c2 w2 hf hj fN gN hcw hN
      refine tb_X5_releaseSums_2 (c := false) ?_
      simp only [kb_X5_releaseSums_2, w_ild_1, w_bi, w_ic_ge, w_ald_0, w_iv0, tfr_0, tfr_1, tfr_2, tfr_3, tfr_4, w_ic_eq, w_ic_ne, w_nil, true_and, and_true, Nat.reduceAdd, Nat.reduceSub, eq_self, tyk_7, tcq_7, tyk_42, tyk_28, tyk_43, tyx_15, tcq_60, t0]
      repeat refine And.intro (by omega) ?_
      refine ⟨fun _ => ?_, fun q => absurd (by omega) q⟩
      refine tb_X5_releaseSums_36 (c := false) ?_
      simp only [kb_X5_releaseSums_36, w_re, true_and, and_true, Nat.reduceAdd, Nat.reduceSub, eq_self, t0]
      exact ⟨rfl, rfl, fN, gN, c2, w2, hcw, hN⟩
    | succ fu ih =>
      intro N j c2 w2 hf hj fN gN hcw hN
      have n36 : tT e d 1806 36 [some (.inr (.inr (.inl (r)))), some (.inl ((j : Int)))] [] N n (tQn n (fun M' => FPF r M M' ∧ (∀ i : Int, i ≠ 4 → i ≠ 8 → M' r i = M r i) ∧ ∃ c' w' : Nat, c' + w' = c + w ∧ FPI M' r c' w' 1)) := by
        refine tb_X5_releaseSums_36 (c := false) ?_
        simp only [kb_X5_releaseSums_36, w_re, true_and, and_true, Nat.reduceAdd, Nat.reduceSub, eq_self, t0]
        exact ⟨rfl, rfl, fN, gN, c2, w2, hcw, hN⟩
      have n26 : ∀ v : Nat, w2 = v + 1 → (N (r + 5) (v : Int) = 43 ∨ N (r + 5) (v : Int) = 45) → tT e d 1806 26 [some (.inr (.inr (.inl (r)))), some (.inl ((j : Int)))] [] N n (tQn n (fun M' => FPF r M M' ∧ (∀ i : Int, i ≠ 4 → i ≠ 8 → M' r i = M r i) ∧ ∃ c' w' : Nat, c' + w' = c + w ∧ FPI M' r c' w' 1)) := by
        intro v hv hx
        subst hv
        refine tb_X5_releaseSums_26 (c := false) ?_
        simp only [kb_X5_releaseSums_26, w_ald_0, w_iv0, tfr_0, tfr_1, tfr_2, tfr_3, tfr_4, w_inc1, tkl_n, tkl_i, tkl_l, tkl_r, w_goto, true_and, and_true, Nat.reduceAdd, Nat.reduceSub, eq_self, tyk_7, tcq_7, tyk_42, tyk_28, tyk_43, tyx_15, tcq_60, t0]
        refine tc_n (D := 1) (fun d' hd' => z_frel hr hN (by omega) (by omega) fN.1.1 hd') (by omega) ?_
        rintro N1 ⟨f1, g1, i1⟩
        try simp only [kb_X5_releaseSums_26, w_ald_0, w_iv0, tfr_0, tfr_1, tfr_2, tfr_3, tfr_4, w_inc1, tkl_n, tkl_i, tkl_l, tkl_r, w_goto, true_and, and_true, Nat.reduceAdd, Nat.reduceSub, eq_self, tyk_7, tcq_7, tyk_42, tyk_28, tyk_43, tyx_15, tcq_60, t0]
        repeat refine And.intro (by omega) ?_
        rw [show ((j : Nat) : Int) + 1 = ((j + 1 : Nat) : Int) by omega]
        exact ih N1 (j + 1) (c2 + 1) v (by omega) (by omega) (FPF_tr fN f1) (fun i a b => (g1 i a b).trans (gN i a b)) (by omega) i1
      refine tb_X5_releaseSums_2 (c := false) ?_
      simp only [kb_X5_releaseSums_2, w_ild_1, w_bi, w_ic_ge, w_ald_0, w_iv0, tfr_0, tfr_1, tfr_2, tfr_3, tfr_4, w_ic_eq, w_ic_ne, w_nil, true_and, and_true, Nat.reduceAdd, Nat.reduceSub, eq_self, tyk_7, tcq_7, tyk_42, tyk_28, tyk_43, tyx_15, tcq_60, t0]
      repeat refine And.intro (by omega) ?_
      first | refine ⟨fun q => absurd q (by omega), fun _ => ?_⟩ | refine fun _ => ?_
      refine tc_i (D := 0) (fun d' hd' => z_last hr hN.1.1.2 fN.1.1) (by omega) ?_
      rintro z1 M1 ⟨g1, r1, rfl⟩
      try simp only [kb_X5_releaseSums_2, w_ild_1, w_bi, w_ic_ge, w_ald_0, w_iv0, tfr_0, tfr_1, tfr_2, tfr_3, tfr_4, w_ic_eq, w_ic_ne, w_nil, true_and, and_true, Nat.reduceAdd, Nat.reduceSub, eq_self, tyk_7, tcq_7, tyk_42, tyk_28, tyk_43, tyx_15, tcq_60, t0]
      repeat refine And.intro (by omega) ?_
      refine ⟨fun q => ?_, fun q => ?_⟩
      · rcases g1 with ⟨_, q2⟩ | ⟨v, q1, q2⟩
        · omega
        · exact n26 v q1 (Or.inl (by omega))
      try simp only [kb_X5_releaseSums_2, w_ild_1, w_bi, w_ic_ge, w_ald_0, w_iv0, tfr_0, tfr_1, tfr_2, tfr_3, tfr_4, w_ic_eq, w_ic_ne, w_nil, true_and, and_true, Nat.reduceAdd, Nat.reduceSub, eq_self, tyk_7, tcq_7, tyk_42, tyk_28, tyk_43, tyx_15, tcq_60, t0]
      refine tc_i (D := 0) (fun d' hd' => z_last hr hN.1.1.2 fN.1.1) (by omega) ?_
      rintro z2 M2 ⟨g2, r2, rfl⟩
      try simp only [kb_X5_releaseSums_2, w_ild_1, w_bi, w_ic_ge, w_ald_0, w_iv0, tfr_0, tfr_1, tfr_2, tfr_3, tfr_4, w_ic_eq, w_ic_ne, w_nil, true_and, and_true, Nat.reduceAdd, Nat.reduceSub, eq_self, tyk_7, tcq_7, tyk_42, tyk_28, tyk_43, tyx_15, tcq_60, t0]
      repeat refine And.intro (by omega) ?_
      refine ⟨fun _ => n36, fun q => ?_⟩
      rcases g2 with ⟨_, q2⟩ | ⟨v, q1, q2⟩
      · omega
      · exact n26 v q1 (Or.inr (by omega))
  refine tb_X5_releaseSums_0 (c := false) ?_
  simp only [kb_X5_releaseSums_0, w_ic, w_ist_1, tkl_n, tkl_i, tkl_l, tkl_r, w_nil, true_and, and_true, Nat.reduceAdd, Nat.reduceSub, eq_self, t0]
  exact nl 60 M 0 c w rfl (by decide) (FPF_refl hC) (fun _ _ _ => rfl) rfl h
/-- an atom is closed -/
theorem z_close {r c w : Nat} (hr : FMC r) (h : FPI M r c w 1) (hc : c + w ≤ 60) (hC : CI M) (hd : 2 ≤ d) : tC e d 1795 [.inr (.inr (.inl r))] M n (tQn n (fun M' => FPF r M M' ∧ (∀ i : Int, i < 10 → i ≠ 4 → i ≠ 8 → M' r i = M r i) ∧ M' r 10 = 0 ∧ ∃ c' w' : Nat, c' + w' = c + w ∧ FPI M' r c' w' 1)) := by
  obtain ⟨t0, t1, t2, t3, t4, t5⟩ := FM_of hr
  refine tst_X5_closeAtom ?_
  have n28 : ∀ (N : tM) (j : Int) (c2 w2 : Nat), FPF r M N → (∀ i : Int, i ≠ 4 → i ≠ 8 → N r i = M r i) → c2 + w2 = c + w → FPI N r c2 w2 1 → tT e d 1795 28 [some (.inr (.inr (.inl (r)))), some (.inl (j))] [] N n (tQn n (fun M' => FPF r M M' ∧ (∀ i : Int, i < 10 → i ≠ 4 → i ≠ 8 → M' r i = M r i) ∧ M' r 10 = 0 ∧ ∃ c' w' : Nat, c' + w' = c + w ∧ FPI M' r c' w' 1)) := by
    intro N j c2 w2 fN gN hcw hN
    have f1 := FPF_put (f := 10) (v := 0) hr (fun _ => by show (0 : Int) ≤ 0 ∧ (0 : Int) ≤ 1; decide) fN.1.1
    have f2 := FPF_put (f := 11) (v := 1) hr (fun _ => by show (0 : Int) ≤ 1 ∧ (1 : Int) ≤ 1; decide) f1.1.1
    refine tb_X5_closeAtom_28 (c := false) ?_
    simp only [kb_X5_closeAtom_28, w_ald_0, w_ic, w_pf_7_10, w_pf_7_11, w_re, true_and, and_true, Nat.reduceAdd, Nat.reduceSub, eq_self, tyk_7, tcq_7, tyk_42, tyk_28, tyk_43, tyx_15, tcq_60, t0]
    refine ⟨by decide, by decide, rfl, rfl, FPF_tr fN (FPF_tr f1 f2), fun i g1 g2 g3 => ?_, ?_, c2, w2, hcw, FPI_f hN (fun k i g => ?_) ?_ ?_⟩
    · rw [tU_ni (by omega), tU_ni (by omega)]
      exact gN i g2 g3
    · rw [tU_ni (by decide), tU_eq]
    · rw [tU_nk (by omega), tU_nk (by omega)]
    · rw [tU_ni (by decide), tU_ni (by decide)]
    · rw [tU_ni (by decide), tU_ni (by decide)]
  have nl : ∀ (fu : Nat) (N : tM) (j c2 w2 : Nat), 60 - j = fu → j ≤ 60 → FPF r M N → (∀ i : Int, i ≠ 4 → i ≠ 8 → N r i = M r i) → c2 + w2 = c + w → FPI N r c2 w2 1 → tT e d 1795 2 [some (.inr (.inr (.inl (r)))), some (.inl ((j : Int)))] [] N n (tQn n (fun M' => FPF r M M' ∧ (∀ i : Int, i < 10 → i ≠ 4 → i ≠ 8 → M' r i = M r i) ∧ M' r 10 = 0 ∧ ∃ c' w' : Nat, c' + w' = c + w ∧ FPI M' r c' w' 1)) := by
    intro fu
    induction fu with
    | zero =>
      intro N j c2 w2 hf hj fN gN hcw hN
      refine tb_X5_closeAtom_2 (c := false) ?_
      simp only [kb_X5_closeAtom_2, w_ild_1, w_bi, w_ic_ge, w_ald_0, w_iv0, tfr_0, tfr_1, tfr_2, tfr_3, tfr_4, w_is1, w_if_eq, w_inc1, tkl_n, tkl_i, tkl_l, tkl_r, w_goto, true_and, and_true, Nat.reduceAdd, Nat.reduceSub, eq_self, tyk_7, tcq_7, tyk_42, tyk_28, tyk_43, tyx_15, tcq_60, t0]
      repeat refine And.intro (by omega) ?_
      refine ⟨fun _ => n28 N _ c2 w2 fN gN hcw hN, fun q => absurd (by omega) q⟩
    | succ fu ih =>
      intro N j c2 w2 hf hj fN gN hcw hN
      refine tb_X5_closeAtom_2 (c := false) ?_
      simp only [kb_X5_closeAtom_2, w_ild_1, w_bi, w_ic_ge, w_ald_0, w_iv0, tfr_0, tfr_1, tfr_2, tfr_3, tfr_4, w_is1, w_if_eq, w_inc1, tkl_n, tkl_i, tkl_l, tkl_r, w_goto, true_and, and_true, Nat.reduceAdd, Nat.reduceSub, eq_self, tyk_7, tcq_7, tyk_42, tyk_28, tyk_43, tyx_15, tcq_60, t0]
      repeat refine And.intro (by omega) ?_
      first | refine ⟨fun q => absurd q (by omega), fun _ => ?_⟩ | refine fun _ => ?_
      refine tc_i (D := 0) (fun d' hd' => z_last hr hN.1.1.2 fN.1.1) (by omega) ?_
      rintro z1 M1 ⟨g1, r1, rfl⟩
      try simp only [kb_X5_closeAtom_2, w_ild_1, w_bi, w_ic_ge, w_ald_0, w_iv0, tfr_0, tfr_1, tfr_2, tfr_3, tfr_4, w_is1, w_if_eq, w_inc1, tkl_n, tkl_i, tkl_l, tkl_r, w_goto, true_and, and_true, Nat.reduceAdd, Nat.reduceSub, eq_self, tyk_7, tcq_7, tyk_42, tyk_28, tyk_43, tyx_15, tcq_60, t0]
      refine tc_i (D := 0) (fun d' hd' => z_isAhead r1) (by omega) ?_
      rintro z2 M2 ⟨g2, rfl⟩
      have r2 : 0 ≤ z2 ∧ z2 ≤ 1 := by rcases g2 with ⟨q, _⟩ | ⟨q, _⟩ <;> rw [q] <;> decide
      try simp only [kb_X5_closeAtom_2, w_ild_1, w_bi, w_ic_ge, w_ald_0, w_iv0, tfr_0, tfr_1, tfr_2, tfr_3, tfr_4, w_is1, w_if_eq, w_inc1, tkl_n, tkl_i, tkl_l, tkl_r, w_goto, true_and, and_true, Nat.reduceAdd, Nat.reduceSub, eq_self, tyk_7, tcq_7, tyk_42, tyk_28, tyk_43, tyx_15, tcq_60, t0]
      refine ⟨by omega, fun _ => n28 M2 _ c2 w2 fN gN hcw hN, fun q => ?_⟩
      have q2 : (z1 = 126 ∨ z1 = 114 ∨ z1 = 101 ∨ z1 = 108 ∨ z1 = 97) := by
        rcases g2 with ⟨_, q3⟩ | ⟨q3, _⟩
        · exact q3
        · exact absurd q3 q
      obtain ⟨v, v1, v2⟩ : ∃ v : Nat, w2 = v + 1 ∧ z1 = M2 (r + 5) (v : Int) := by
        rcases g1 with ⟨_, q3⟩ | q3
        · omega
        · exact q3
      clear g1 g2
      subst v1
      subst v2
      try simp only [kb_X5_closeAtom_2, w_ild_1, w_bi, w_ic_ge, w_ald_0, w_iv0, tfr_0, tfr_1, tfr_2, tfr_3, tfr_4, w_is1, w_if_eq, w_inc1, tkl_n, tkl_i, tkl_l, tkl_r, w_goto, true_and, and_true, Nat.reduceAdd, Nat.reduceSub, eq_self, tyk_7, tcq_7, tyk_42, tyk_28, tyk_43, tyx_15, tcq_60, t0]
      refine tc_n (D := 1) (fun d' hd' => z_frel hr hN (by omega) (Or.inr q2) fN.1.1 hd') (by omega) ?_
      rintro N1 ⟨f1, g1', i1⟩
      try simp only [kb_X5_closeAtom_2, w_ild_1, w_bi, w_ic_ge, w_ald_0, w_iv0, tfr_0, tfr_1, tfr_2, tfr_3, tfr_4, w_is1, w_if_eq, w_inc1, tkl_n, tkl_i, tkl_l, tkl_r, w_goto, true_and, and_true, Nat.reduceAdd, Nat.reduceSub, eq_self, tyk_7, tcq_7, tyk_42, tyk_28, tyk_43, tyx_15, tcq_60, t0]
      repeat refine And.intro (by omega) ?_
      rw [show ((j : Nat) : Int) + 1 = ((j + 1 : Nat) : Int) by omega]
      exact ih N1 (j + 1) (c2 + 1) v (by omega) (by omega) (FPF_tr fN f1) (fun i a b => (g1' i a b).trans (gN i a b)) (by omega) i1
  refine tb_X5_closeAtom_0 (c := false) ?_
  simp only [kb_X5_closeAtom_0, w_ic, w_ist_1, tkl_n, tkl_i, tkl_l, tkl_r, w_nil, true_and, and_true, Nat.reduceAdd, Nat.reduceSub, eq_self, t0]
  exact nl 60 M 0 c w rfl (by decide) (FPF_refl hC) (fun _ _ _ => rfl) rfl h
end HAND
