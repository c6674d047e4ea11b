/-! THE CLASS: a root is never too great. -/
theorem pE_6b {b : Nat} {M M' : tM} (hb : b < 2) (h : pE 6 M M') : pE b M M' := fun k i q => h k i (by
  rcases q with (q | q | ⟨q, q2⟩) | ⟨q, q2, q3⟩ | ⟨q, q2⟩ | q
  · exact Or.inl (Or.inl q)
  · exact Or.inl (Or.inr (Or.inl q))
  · exact Or.inl (Or.inr (Or.inr ⟨Or.inr rfl, q2⟩))
  · omega
  · omega
  · exact Or.inr (Or.inr (Or.inr q)))
section HAND
variable {e : tE} {b d n : Nat} {M : tM}
def SM (x : Int) : Prop := -922337204 ≤ x ∧ x ≤ 922337205
theorem e_root {r : Nat} {x3 : Int} (he : EO e) (h0 : cl r 4) (h3 : -2147483648 ≤ x3 ∧ x3 ≤ 2147483647) (hq : 2 ≤ x3 ∧ x3 ≤ 9) (hb : b < 2) (hC : CI M) (hd : 6 ≤ d) : tC e d 516 [.inr (.inr (.inl 78)), .inr (.inr (.inl r)), .inl 114, .inl x3] M n (tQi n (fun z M' => (z = 0 ∨ z = 1) ∧ CI M' ∧ pE b M M')) := by
  have hr := h0.1
  have hm1 := (bxl_1 h0).1
  have hm2 := (bxl_2 h0).1
  have h80 := bx_80 h0
  refine tst_X0_ofOne ?_
  have n260 : ∀ (M1 : tM) (w4 w5 w6 : Option tV), SM (M1 109 0) → SM (M1 110 0) → CI M1 → pE b M M1 → tT e d 516 260 [some (.inr (.inr (.inl 78))), some (.inr (.inr (.inl r))), some (.inl 114), some (.inl x3), w4, w5, w6] [] M1 n (tQi n (fun z M' => (z = 0 ∨ z = 1) ∧ CI M' ∧ pE b M M')) := by
    intro M1 w4 w5 w6 q1 q2 q3 q4
    unfold SM at q1 q2
    refine tb_X0_ofOne_260 (c := true) ?_
    simp only [kb_X0_ofOne_260, w_ald_1, w_ald_0, w_gf_2_2, tw_t, w_gf_2_3, w_iv2, tfr_0, tfr_1, tfr_2, tfr_3, tfr_4, w_is1, w_ire, trg, w64_r, true_and, and_true, Nat.reduceAdd, Nat.reduceSub, eq_self, tsh_78, tsh_79, tsh_80, hr, hm1, hm2, tyk_4, tyk_2, tyk_10, tyk_3, tcq_4, tcq_2, tcq_10, tcq_3]
    have hz : r + 1 ≠ 110 := fun q => by
      have := bx_n h0 tsh_109 (by decide)
      omega
    refine tc_n (D := 1) (fun d' hd' => e_between (b := b) h0 cl_109 cl_110 hz hb q3 hd') (by omega) ?_
    rintro M2 ⟨p1, p2, p3, p4⟩
    try simp only [kb_X0_ofOne_260, w_ald_1, w_ald_0, w_gf_2_2, tw_t, w_gf_2_3, w_iv2, tfr_0, tfr_1, tfr_2, tfr_3, tfr_4, w_is1, w_ire, trg, w64_r, true_and, and_true, Nat.reduceAdd, Nat.reduceSub, eq_self, tsh_78, tsh_79, tsh_80, hr, hm1, hm2, tyk_4, tyk_2, tyk_10, tyk_3, tcq_4, tcq_2, tcq_10, tcq_3]
    have w1 : w64 (M1 109 0) = M1 109 0 := by unfold w64; omega
    have w2 : w64 (M1 110 0) = M1 110 0 := by unfold w64; omega
    rw [w1] at p1
    rw [w2] at p2
    refine tc_i (D := 2) (fun d' hd' => e_judged (M := M2) h0 (by rw [p1, p2]; omega) hd') (by omega) ?_
    rintro z1 M3 ⟨rfl, rfl⟩
    try simp only [kb_X0_ofOne_260, w_ald_1, w_ald_0, w_gf_2_2, tw_t, w_gf_2_3, w_iv2, tfr_0, tfr_1, tfr_2, tfr_3, tfr_4, w_is1, w_ire, trg, w64_r, true_and, and_true, Nat.reduceAdd, Nat.reduceSub, eq_self, tsh_78, tsh_79, tsh_80, hr, hm1, hm2, tyk_4, tyk_2, tyk_10, tyk_3, tcq_4, tcq_2, tcq_10, tcq_3]
    exact ⟨0, rfl, rfl, Or.inl rfl, p3, pE_tr q4 p4⟩
  have n59b : ∀ (M1 : tM) (w4 w6 : Option tV), SM (M1 109 0) → SM (M1 110 0) → CI M1 → pE b M M1 → tT e d 516 59 [some (.inr (.inr (.inl 78))), some (.inr (.inr (.inl r))), some (.inl 114), some (.inl x3), w4, some (.inl 2), w6] [] M1 n (tQi n (fun z M' => (z = 0 ∨ z = 1) ∧ CI M' ∧ pE b M M')) := by
    intro M1 w4 w6 q1 q2 q3 q4
    refine tb_X0_ofOne_59 (c := true) ?_
    simp only [kb_X0_ofOne_59, w_ild5, w_ic, w_ic_ge, w_if_ne, w_ald_1, w_gf_4_0, tw_t, w_goto, w64_r, true_and, and_true, Nat.reduceAdd, Nat.reduceSub, eq_self, tsh_78, tsh_79, tsh_80, hr, hm1, hm2, tyk_4, tyk_2, tyk_10, tyk_3, tcq_4, tcq_2, tcq_10, tcq_3]
    refine ⟨by omega, fun h => n260 M1 _ _ _ q1 q2 q3 q4, fun h => absurd h (by omega)⟩
  have n239 : ∀ (M1 : tM) (w4 w6 : Option tV), SM (M1 109 0) → (-922337204 ≤ M1 80 0 ∧ M1 80 0 ≤ 922337204) → CI M1 → pE b M M1 → tT e d 516 216 [some (.inr (.inr (.inl 78))), some (.inr (.inr (.inl r))), some (.inl 114), some (.inl x3), w4, some (.inl 1), w6] [] M1 n (tQi n (fun z M' => (z = 0 ∨ z = 1) ∧ CI M' ∧ pE b M M')) := by
    intro M1 w4 w6 q1 q2 q3 q4
    have hw := w_sm q2
    refine tb_X0_ofOne_216 (c := true) ?_
    simp only [kb_X0_ofOne_216, w_ild5, w_if_ne, w_ald_0, w_gf_2_0, tw_t, w_gf_2_2, w_gf_2_5, w_iv2, tfr_0, tfr_1, tfr_2, tfr_3, tfr_4, w_goto, w64_r, true_and, and_true, Nat.reduceAdd, Nat.reduceSub, eq_self, tsh_78, tsh_79, tsh_80, hr, hm1, hm2, tyk_4, tyk_2, tyk_10, tyk_3, tcq_4, tcq_2, tcq_10, tcq_3]
    refine ⟨by omega, fun h => ?_, fun h => absurd h (by omega)⟩
    refine tb_X0_ofOne_239 (c := true) ?_
    simp only [kb_X0_ofOne_239, w_ald_0, w_gf_2_0, tw_t, w_gf_2_3, w_gf_2_5, w_iv2, tfr_0, tfr_1, tfr_2, tfr_3, tfr_4, w_nil, w64_r, true_and, and_true, Nat.reduceAdd, Nat.reduceSub, eq_self, tsh_78, tsh_79, tsh_80, hr, hm1, hm2, tyk_4, tyk_2, tyk_10, tyk_3, tcq_4, tcq_2, tcq_10, tcq_3]
    refine tc_n (D := 1) (fun d' hd' => e_tellUp (b := b) cl_110 (w64_LR _) (Or.inl hb) q3 hd') (by omega) ?_
    rintro M2 ⟨p1, p2⟩
    try simp only [kb_X0_ofOne_239, w_ald_0, w_gf_2_0, tw_t, w_gf_2_3, w_gf_2_5, w_iv2, tfr_0, tfr_1, tfr_2, tfr_3, tfr_4, w_nil, w64_r, true_and, and_true, Nat.reduceAdd, Nat.reduceSub, eq_self, tsh_78, tsh_79, tsh_80, hr, hm1, hm2, tyk_4, tyk_2, tyk_10, tyk_3, tcq_4, tcq_2, tcq_10, tcq_3]
    rw [hw.2, hw.1] at p1
    refine tb_X0_ofOne_254 (c := true) ?_
    simp only [kb_X0_ofOne_254, w_inc5, tkl_n, tkl_i, tkl_l, tkl_r, w_goto, w64_r, true_and, and_true, Nat.reduceAdd, Nat.reduceSub, eq_self]
    exact n59b M2 _ _ (by rw [p2.2.2 109 0 (by decide)]; exact q1) (by unfold SM; omega) p2.1 (pE_tr q4 p2.2.1)
  have n149b : ∀ (M1 : tM) (w4 : Option tV) (x6 : Nat), cl x6 3 → SM (M1 109 0) → CI M1 → pE b M M1 → tT e d 516 149 [some (.inr (.inr (.inl 78))), some (.inr (.inr (.inl r))), some (.inl 114), some (.inl x3), w4, some (.inl 1), some (.inr (.inr (.inl x6)))] [] M1 n (tQi n (fun z M' => (z = 0 ∨ z = 1) ∧ CI M' ∧ pE b M M')) := by
    intro M1 w4 x6 q0 q1 q3 q4
    refine tb_X0_ofOne_149 (c := true) ?_
    simp only [kb_X0_ofOne_149, w_ald_0, w_gf_2_0, tw_t, w_ald6, w_ild_3, w_iv2, tfr_0, tfr_1, tfr_2, tfr_3, tfr_4, w_goto, w64_r, true_and, and_true, Nat.reduceAdd, Nat.reduceSub, eq_self, tsh_78, tsh_79, tsh_80, hr, hm1, hm2, tyk_4, tyk_2, tyk_10, tyk_3, tcq_4, tcq_2, tcq_10, tcq_3]
    refine tp_n (b := 6) (D := 5) (P := fun _ => True) (p := fun c => -922337204 ≤ c ∧ c ≤ 922337204) (fun d' hd' => k_X8_toRoot (x1 := x6) (x2 := x3) cl_79 q0 h3 hq he (Or.inr rfl) hd') q3 trivial (by omega) ?_
    intro M2 p1 p2 p3
    try simp only [kb_X0_ofOne_149, w_ald_0, w_gf_2_0, tw_t, w_ald6, w_ild_3, w_iv2, tfr_0, tfr_1, tfr_2, tfr_3, tfr_4, w_goto, w64_r, true_and, and_true, Nat.reduceAdd, Nat.reduceSub, eq_self, tsh_78, tsh_79, tsh_80, hr, hm1, hm2, tyk_4, tyk_2, tyk_10, tyk_3, tcq_4, tcq_2, tcq_10, tcq_3]
    exact n239 M2 _ _ (by rw [p3 109 0 (Or.inr (Or.inr (Or.inl ⟨rfl, tsh_109, by omega⟩)))]; exact q1) p1 p2 (pE_tr q4 (pE_6b hb p3))
  have n59a : ∀ (M1 : tM) (z4 : Int) (w6 : Option tV), (0 ≤ z4 ∧ z4 ≤ 1) → SM (M1 109 0) → (-922337204 ≤ M1 80 0 ∧ M1 80 0 ≤ 922337204) → CI M1 → pE b M M1 → tT e d 516 59 [some (.inr (.inr (.inl 78))), some (.inr (.inr (.inl r))), some (.inl 114), some (.inl x3), some (.inl z4), some (.inl 1), w6] [] M1 n (tQi n (fun z M' => (z = 0 ∨ z = 1) ∧ CI M' ∧ pE b M M')) := by
    intro M1 z4 w6 q0 q1 q2 q3 q4
    refine tb_X0_ofOne_59 (c := true) ?_
    simp only [kb_X0_ofOne_59, w_ild5, w_ic, w_ic_ge, w_if_ne, w_ald_1, w_gf_4_0, tw_t, w_goto, w64_r, true_and, and_true, Nat.reduceAdd, Nat.reduceSub, eq_self, tsh_78, tsh_79, tsh_80, hr, hm1, hm2, tyk_4, tyk_2, tyk_10, tyk_3, tcq_4, tcq_2, tcq_10, tcq_3]
    refine ⟨by omega, fun h => absurd h (by omega), fun h => ?_⟩
    refine ⟨by omega, fun h => ?_, fun h => absurd h (by omega)⟩
    refine tb_X0_ofOne_77 (c := true) ?_
    simp only [kb_X0_ofOne_77, w_ald_1, w_gf_4_1, tw_t, w_nil, w64_r, true_and, and_true, Nat.reduceAdd, Nat.reduceSub, eq_self, tsh_78, tsh_79, tsh_80, hr, hm1, hm2, tyk_4, tyk_2, tyk_10, tyk_3, tcq_4, tcq_2, tcq_10, tcq_3]
    refine tb_X0_ofOne_81 (c := true) ?_
    simp only [kb_X0_ofOne_81, w_ast6, tkl_n, tkl_i, tkl_l, tkl_r, w_ild5, w_if_eq, w_ild4, w_if_ne, w_nil, w64_r, true_and, and_true, Nat.reduceAdd, Nat.reduceSub, eq_self]
    refine ⟨by omega, fun h => absurd h (by omega), fun h => ?_⟩
    refine ⟨by omega, fun h => ?_, fun h => ?_⟩
    · exact n239 M1 _ _ q1 q2 q3 q4
    refine tb_X0_ofOne_93 (c := true) ?_
    simp only [kb_X0_ofOne_93, w_ild_2, w_sw, tsw, w64_r, true_and, and_true, Nat.reduceAdd, Nat.reduceSub, eq_self]
    refine ⟨by omega, fun h => absurd h (by decide), fun _ => ⟨fun h => absurd h (by decide), fun _ => ⟨fun h => absurd h (by decide), fun _ => ⟨fun _ => ?_, fun h => absurd rfl h⟩⟩⟩⟩
    show tT e d 516 149 _ _ _ _ _
    exact n149b M1 _ _ (bxl_2 h0) q1 q3 q4
  have n50 : tT e d 516 50 [some (.inr (.inr (.inl 78))), some (.inr (.inr (.inl r))), some (.inl 114), some (.inl x3), none, none, none] [] M n (tQi n (fun z M' => (z = 0 ∨ z = 1) ∧ CI M' ∧ pE b M M')) := by
    refine tb_X0_ofOne_50 (c := true) ?_
    simp only [kb_X0_ofOne_50, w_ald_1, w_iv0, tfr_0, tfr_1, tfr_2, tfr_3, tfr_4, w_ist4, tkl_n, tkl_i, tkl_l, tkl_r, w_ic, w_ist5, w_nil, w64_r, true_and, and_true, Nat.reduceAdd, Nat.reduceSub, eq_self, tsh_78, tsh_79, tsh_80, hr, hm1, hm2, tyk_4, tyk_2, tyk_10, tyk_3, tcq_4, tcq_2, tcq_10, tcq_3]
    refine ts_i (b := 2) (D := 2) (fun d' hd' => k_X2_isSingle h0 hd') hC (by omega) ?_
    intro z4 M1 hz4 _ hE
    rw [pE_2 hE]
    try simp only [kb_X0_ofOne_50, w_ald_1, w_iv0, tfr_0, tfr_1, tfr_2, tfr_3, tfr_4, w_ist4, tkl_n, tkl_i, tkl_l, tkl_r, w_ic, w_ist5, w_nil, w64_r, true_and, and_true, Nat.reduceAdd, Nat.reduceSub, eq_self, tsh_78, tsh_79, tsh_80, hr, hm1, hm2, tyk_4, tyk_2, tyk_10, tyk_3, tcq_4, tcq_2, tcq_10, tcq_3]
    refine tb_X0_ofOne_59 (c := true) ?_
    simp only [kb_X0_ofOne_59, w_ild5, w_ic, w_ic_ge, w_if_ne, w_ald_1, w_gf_4_0, tw_t, w_goto, w64_r, true_and, and_true, Nat.reduceAdd, Nat.reduceSub, eq_self, tsh_78, tsh_79, tsh_80, hr, hm1, hm2, tyk_4, tyk_2, tyk_10, tyk_3, tcq_4, tcq_2, tcq_10, tcq_3]
    refine ⟨by omega, fun h => absurd h (by omega), fun h => ?_⟩
    refine ⟨by omega, fun h => absurd h (by omega), fun h => ?_⟩
    refine tb_X0_ofOne_81 (c := true) ?_
    simp only [kb_X0_ofOne_81, w_ast6, tkl_n, tkl_i, tkl_l, tkl_r, w_ild5, w_if_eq, w_ild4, w_if_ne, w_nil, w64_r, true_and, and_true, Nat.reduceAdd, Nat.reduceSub, eq_self]
    refine ⟨by omega, fun h => ?_, fun h => absurd trivial h⟩
    refine tb_X0_ofOne_93 (c := true) ?_
    simp only [kb_X0_ofOne_93, w_ild_2, w_sw, tsw, w64_r, true_and, and_true, Nat.reduceAdd, Nat.reduceSub, eq_self]
    refine ⟨by omega, fun h => absurd h (by decide), fun _ => ⟨fun h => absurd h (by decide), fun _ => ⟨fun h => absurd h (by decide), fun _ => ⟨fun _ => ?_, fun h => absurd rfl h⟩⟩⟩⟩
    show tT e d 516 149 _ _ _ _ _
    refine tb_X0_ofOne_149 (c := true) ?_
    simp only [kb_X0_ofOne_149, w_ald_0, w_gf_2_0, tw_t, w_ald6, w_ild_3, w_iv2, tfr_0, tfr_1, tfr_2, tfr_3, tfr_4, w_goto, w64_r, true_and, and_true, Nat.reduceAdd, Nat.reduceSub, eq_self, tsh_78, tsh_79, tsh_80, hr, hm1, hm2, tyk_4, tyk_2, tyk_10, tyk_3, tcq_4, tcq_2, tcq_10, tcq_3]
    refine tp_n (b := 6) (D := 5) (P := fun _ => True) (p := fun c => -922337204 ≤ c ∧ c ≤ 922337204) (fun d' hd' => k_X8_toRoot (x1 := r + 1) (x2 := x3) cl_79 (bxl_1 h0) h3 hq he (Or.inr rfl) hd') hC trivial (by omega) ?_
    intro M2 p1 p2 p3
    try simp only [kb_X0_ofOne_149, w_ald_0, w_gf_2_0, tw_t, w_ald6, w_ild_3, w_iv2, tfr_0, tfr_1, tfr_2, tfr_3, tfr_4, w_goto, w64_r, true_and, and_true, Nat.reduceAdd, Nat.reduceSub, eq_self, tsh_78, tsh_79, tsh_80, hr, hm1, hm2, tyk_4, tyk_2, tyk_10, tyk_3, tcq_4, tcq_2, tcq_10, tcq_3]
    have hw := w_sm p1
    refine tb_X0_ofOne_216 (c := true) ?_
    simp only [kb_X0_ofOne_216, w_ild5, w_if_ne, w_ald_0, w_gf_2_0, tw_t, w_gf_2_2, w_gf_2_5, w_iv2, tfr_0, tfr_1, tfr_2, tfr_3, tfr_4, w_goto, w64_r, true_and, and_true, Nat.reduceAdd, Nat.reduceSub, eq_self, tsh_78, tsh_79, tsh_80, hr, hm1, hm2, tyk_4, tyk_2, tyk_10, tyk_3, tcq_4, tcq_2, tcq_10, tcq_3]
    refine ⟨by omega, fun h => absurd h (by omega), fun h => ?_⟩
    refine tc_n (D := 1) (fun d' hd' => e_tellDown (b := b) cl_109 (w64_LR _) (Or.inl hb) p2 hd') (by omega) ?_
    rintro M3 ⟨p4, p5⟩
    try simp only [kb_X0_ofOne_216, w_ild5, w_if_ne, w_ald_0, w_gf_2_0, tw_t, w_gf_2_2, w_gf_2_5, w_iv2, tfr_0, tfr_1, tfr_2, tfr_3, tfr_4, w_goto, w64_r, true_and, and_true, Nat.reduceAdd, Nat.reduceSub, eq_self, tsh_78, tsh_79, tsh_80, hr, hm1, hm2, tyk_4, tyk_2, tyk_10, tyk_3, tcq_4, tcq_2, tcq_10, tcq_3]
    rw [hw.1] at p4
    refine tb_X0_ofOne_254 (c := true) ?_
    simp only [kb_X0_ofOne_254, w_inc5, tkl_n, tkl_i, tkl_l, tkl_r, w_goto, w64_r, true_and, and_true, Nat.reduceAdd, Nat.reduceSub, eq_self]
    exact n59a M3 _ _ hz4 (by unfold SM; omega) (by rw [p5.2.2 80 0 (by decide)]; exact p1) p5.1 (pE_tr (pE_6b hb p3) p5.2.1)
  have n34 : tT e d 516 34 [some (.inr (.inr (.inl 78))), some (.inr (.inr (.inl r))), some (.inl 114), some (.inl x3), none, none, none] [] M n (tQi n (fun z M' => (z = 0 ∨ z = 1) ∧ CI M' ∧ pE b M M')) := by
    refine tb_X0_ofOne_34 (c := true) ?_
    simp only [kb_X0_ofOne_34, w_ild_2, w_bi, w_ic_ne, w_ild_3, w_ic, w_irem, w_if_ne, w_ald_1, w_iv0, tfr_0, tfr_1, tfr_2, tfr_3, tfr_4, w_nil, w64_r, true_and, and_true, Nat.reduceAdd, Nat.reduceSub, eq_self, tsh_78, tsh_79, tsh_80, hr, hm1, hm2, tyk_4, tyk_2, tyk_10, tyk_3, tcq_4, tcq_2, tcq_10, tcq_3]
    refine ⟨by omega, fun h => n50, fun h => absurd h (by omega)⟩
  have n16 : tT e d 516 16 [some (.inr (.inr (.inl 78))), some (.inr (.inr (.inl r))), some (.inl 114), some (.inl x3), none, none, none] [] M n (tQi n (fun z M' => (z = 0 ∨ z = 1) ∧ CI M' ∧ pE b M M')) := by
    refine tb_X0_ofOne_16 (c := true) ?_
    simp only [kb_X0_ofOne_16, w_ild_2, w_bi, w_ic_ne, w_ald_1, w_gf_4_0, tw_t, w_iv0, tfr_0, tfr_1, tfr_2, tfr_3, tfr_4, w_if_ne, w_nil, w64_r, true_and, and_true, Nat.reduceAdd, Nat.reduceSub, eq_self, tsh_78, tsh_79, tsh_80, hr, hm1, hm2, tyk_4, tyk_2, tyk_10, tyk_3, tcq_4, tcq_2, tcq_10, tcq_3]
    refine ⟨by omega, fun h => n34, fun h => absurd h (by omega)⟩
  refine tb_X0_ofOne_0 (c := true) ?_
  simp only [kb_X0_ofOne_0, w_ild_2, w_bi, w_ic_ne, w_ald_1, w_gf_4_0, tw_t, w_iv0, tfr_0, tfr_1, tfr_2, tfr_3, tfr_4, w_if_ne, w_nil, w64_r, true_and, and_true, Nat.reduceAdd, Nat.reduceSub, eq_self, tsh_78, tsh_79, tsh_80, hr, hm1, hm2, tyk_4, tyk_2, tyk_10, tyk_3, tcq_4, tcq_2, tcq_10, tcq_3]
  refine ⟨by omega, fun h => absurd h (by omega), fun h => ?_⟩
  refine ts_i (b := 2) (D := 0) (fun d' hd' => k_X1_isNegative (bxl_1 h0) hd') hC (by omega) ?_
  intro z M1 hz _ hE
  rw [pE_2 hE]
  try simp only [kb_X0_ofOne_0, w_ild_2, w_bi, w_ic_ne, w_ald_1, w_gf_4_0, tw_t, w_iv0, tfr_0, tfr_1, tfr_2, tfr_3, tfr_4, w_if_ne, w_nil, w64_r, true_and, and_true, Nat.reduceAdd, Nat.reduceSub, eq_self, tsh_78, tsh_79, tsh_80, hr, hm1, hm2, tyk_4, tyk_2, tyk_10, tyk_3, tcq_4, tcq_2, tcq_10, tcq_3]
  refine ⟨by omega, fun h => ?_, fun h => n16⟩
  refine tb_X0_ofOne_32 (c := true) ?_
  simp only [kb_X0_ofOne_32, w_ic, w_ire, trg, w64_r, true_and, and_true, Nat.reduceAdd, Nat.reduceSub, eq_self]
  exact ⟨1, rfl, rfl, Or.inr rfl, hC, pE_refl⟩
theorem k_X0_ofOne_r {r x1 : Nat} {x3 : Int} (h0 : cl r 2) (h1 : cl x1 4) (h3 : (-2147483648 ≤ x3 ∧ x3 ≤ 2147483647)) (hq : 2 ≤ x3 ∧ x3 ≤ 9) (he : EO e) (hb : b < 2) (hd : 6 ≤ d) : sC e b d 516 [.inr (.inr (.inl r)), .inr (.inr (.inl x1)), .inl 114, .inl x3] n (SQi n (fun z => z = 0 ∨ z = 1)) := by
  cases x_2 h0
  intro M hC _
  exact tC_mono (e_root (b := b) he h1 h3 hq hb hC hd) (fun v M' n' q => by obtain ⟨x, q1, q2, q3, q4, q5⟩ := q; exact ⟨⟨q4, q5⟩, x, q1, q2, q3⟩)
end HAND
