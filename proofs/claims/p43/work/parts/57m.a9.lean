/-! THE CLASS BY VALUES: the quotient of the reckoner; the acts' product and quotient. -/
theorem qd_v {A B W P A1 A2 T : Int} (hT : 0 < T) (h1 : A * T = W * (B * T) + A1) (h2 : A1 * 10000000000 = P * (B * T) + A2) (h3 : 0 ≤ A2 ∧ A2 < B * T) : A * 10000000000 / B = W * 10000000000 + P ∧ (A * 10000000000 % B = 0 ↔ A2 = 0) := by
  have e : (A * 10000000000 - (W * 10000000000 + P) * B) * T = A2 := by
    have e1 : A * 10000000000 * T = A * T * 10000000000 := Int.mul_right_comm ..
    have e2 : (W * 10000000000 + P) * B * T = W * (B * T) * 10000000000 + P * (B * T) := by
      rw [Int.mul_assoc, Int.add_mul, Int.mul_right_comm]
    rw [Int.sub_mul, e1, e2, h1]
    omega
  generalize hr : A * 10000000000 - (W * 10000000000 + P) * B = r at e
  have r0 : 0 ≤ r := by
    rcases Int.lt_or_le r 0 with q | q
    · have : r * T < 0 := Int.mul_neg_of_neg_of_pos q hT
      omega
    · exact q
  have r1 : r < B := by
    rcases Int.lt_or_le r B with q | q
    · exact q
    · have : B * T ≤ r * T := Int.mul_le_mul_of_nonneg_right q (Int.le_of_lt hT)
      omega
  have d := dm_v (N := A * 10000000000) (K := B) (q := W * 10000000000 + P) (r := r) (by omega) ⟨r0, r1⟩
  refine ⟨d.1, ?_⟩
  rw [d.2, ← e]
  refine ⟨fun q => by rw [q, Int.zero_mul], fun q => ?_⟩
  rcases Int.mul_eq_zero.mp q with g | g
  · exact g
  · omega
section HAND
variable {e : tE} {b d n : Nat} {M : tM}
theorem y_quotient {x1 x2 : Nat} {v w : Int} (h1 : cl x1 3) (h2 : cl x2 3) (hx1 : x1 < 79 ∨ 85 < x1) (hx2 : x2 < 79 ∨ 85 < x2) (hv : BB M x1 v) (hw : BB M x2 w) (rv : ((-100000000000000000000000 < v) ∧ v < 100000000000000000000000)) (rw_ : 0 < w ∧ w < 100000000000000000000000) (hro : RO M) (hb : b < 2) (hC : CI M) (hd : 2 ≤ d) : tC e d 2568 [.inr (.inr (.inl 79)), .inr (.inr (.inl x1)), .inr (.inr (.inl x2))] M n (tQn n (fun M' => (∃ t, RN M' t ∧ FTc t (v * 10000000000) w) ∧ RO M' ∧ RF b M M')) := by
  have Rv : RV v := by unfold RV; omega
  have Rw : RV w := by unfold RV; omega
  refine tst_X8_quotient ?_
  refine tb_X8_quotient_0 (c := false) ?_
  simp only [kb_X8_quotient_0, w_ald_0, w_gf_10_2, tw_f, w_ald_1, w_iv1, tfr_0, tfr_1, tfr_2, tfr_3, tfr_4, w_gf_10_3, w_ald_2, w_is1, w_ic_eq, w_ic, w_goto, true_and, and_true, Nat.reduceAdd, Nat.reduceSub, eq_self, tsh_79, tyk_10, tcq_10, tsh_81, tsh_82, tyk_3, tcq_3]
  refine tc_n (D := 0) (fun d' hd' => y_copy (b := b) cl_81 h1 hv (Or.inl hb) hC) (by omega) ?_
  rintro M1 ⟨p1, f1⟩
  try simp only [kb_X8_quotient_0, w_ald_0, w_gf_10_2, tw_f, w_ald_1, w_iv1, tfr_0, tfr_1, tfr_2, tfr_3, tfr_4, w_gf_10_3, w_ald_2, w_is1, w_ic_eq, w_ic, w_goto, true_and, and_true, Nat.reduceAdd, Nat.reduceSub, eq_self, tsh_79, tyk_10, tcq_10, tsh_81, tsh_82, tyk_3, tcq_3]
  refine tc_n (D := 0) (fun d' hd' => y_copy (b := b) cl_82 h2 (BB_u hw (fun i => f1.2.2 _ _ (by omega))) (Or.inl hb) f1.1) (by omega) ?_
  rintro M2 ⟨p2, f2⟩
  try simp only [kb_X8_quotient_0, w_ald_0, w_gf_10_2, tw_f, w_ald_1, w_iv1, tfr_0, tfr_1, tfr_2, tfr_3, tfr_4, w_gf_10_3, w_ald_2, w_is1, w_ic_eq, w_ic, w_goto, true_and, and_true, Nat.reduceAdd, Nat.reduceSub, eq_self, tsh_79, tyk_10, tcq_10, tsh_81, tsh_82, tyk_3, tcq_3]
  refine tc_i (D := 1) (fun d' hd' => y_dropSign (b := b) cl_81 (BB_u p1 (fun i => f2.2.2 81 i (by decide))) Rv (Or.inl hb) f2.1 hd') (by omega) ?_
  rintro z1 M3 ⟨p3, f3⟩
  try simp only [kb_X8_quotient_0, w_ald_0, w_gf_10_2, tw_f, w_ald_1, w_iv1, tfr_0, tfr_1, tfr_2, tfr_3, tfr_4, w_gf_10_3, w_ald_2, w_is1, w_ic_eq, w_ic, w_goto, true_and, and_true, Nat.reduceAdd, Nat.reduceSub, eq_self, tsh_79, tyk_10, tcq_10, tsh_81, tsh_82, tyk_3, tcq_3]
  refine tc_i (D := 1) (fun d' hd' => y_dropSign (b := b) cl_82 (BB_u p2 (fun i => f3.2.2 82 i (by decide))) Rw (Or.inl hb) f3.1 hd') (by omega) ?_
  rintro z2 M4 ⟨p5, f4⟩
  try simp only [kb_X8_quotient_0, w_ald_0, w_gf_10_2, tw_f, w_ald_1, w_iv1, tfr_0, tfr_1, tfr_2, tfr_3, tfr_4, w_gf_10_3, w_ald_2, w_is1, w_ic_eq, w_ic, w_goto, true_and, and_true, Nat.reduceAdd, Nat.reduceSub, eq_self, tsh_79, tyk_10, tcq_10, tsh_81, tsh_82, tyk_3, tcq_3]
  obtain ⟨V, g1, g2, g3⟩ := abs_of rv p3
  obtain ⟨k1, k2⟩ : z2 = 0 ∧ BB M4 82 w := by
    rcases p5 with ⟨q1, q2, q3⟩ | ⟨q1, q2, q3⟩
    · exfalso; omega
    · exact ⟨q1, q3⟩
  have r04 : RF b M M4 := RF_tr (RF_d f1 (by decide)) (RF_tr (RF_d f2 (by decide)) (RF_tr (RF_d f3 (by decide)) (RF_d f4 (by decide))))
  have ro4 : RO M4 := RO_u (RO_u (RO_u (RO_u hro (f1.2.2 79 4 (by decide)) (f1.2.2 79 5 (by decide))) (f2.2.2 79 4 (by decide)) (f2.2.2 79 5 (by decide))) (f3.2.2 79 4 (by decide)) (f3.2.2 79 5 (by decide))) (f4.2.2 79 4 (by decide)) (f4.2.2 79 5 (by decide))
  have hV : BB M4 81 V := BB_u g1 (fun i => f4.2.2 81 i (by decide))
  have n38 : ∀ (s : Int), (0 ≤ s ∧ s ≤ 1) → ((s = 0 → V = v) ∧ (s = 1 → V = -v)) → tT e d 2568 38 [some (.inr (.inr (.inl (79)))), some (.inr (.inr (.inl (x1)))), some (.inr (.inr (.inl (x2)))), none, none, none, none, none, none] [.inl s] M4 n (tQn n (fun M' => (∃ t, RN M' t ∧ FTc t (v * 10000000000) w) ∧ RO M' ∧ RF b M M')) := by
    intro s hs hsv
    have n119 : ∀ (M' : tM) (t : Int) (w4 w5 w6 w7 w8 : Option tV), RN M' t → FTc t (V * 10000000000) w → RO M' → RF b M M' → tT e d 2568 119 [some (.inr (.inr (.inl (79)))), some (.inr (.inr (.inl (x1)))), some (.inr (.inr (.inl (x2)))), some (.inl (s)), w4, w5, w6, w7, w8] [] M' n (tQn n (fun M' => (∃ t, RN M' t ∧ FTc t (v * 10000000000) w) ∧ RO M' ∧ RF b M M')) := by
      intro M' t w4 w5 w6 w7 w8 q1 q2 q3 q4
      have n127 : ∀ (L : tL) (M' : tM), ((∃ t, RN M' t ∧ FTc t (v * 10000000000) w) ∧ RO M' ∧ RF b M M') → tT e d 2568 127 L [] M' n (tQn n (fun M' => (∃ t, RN M' t ∧ FTc t (v * 10000000000) w) ∧ RO M' ∧ RF b M M')) := by
        intro L M' h
        refine tb_X8_quotient_127 (c := false) ?_
        simp only [kb_X8_quotient_127, w_re, true_and, and_true, Nat.reduceAdd, Nat.reduceSub, eq_self]
        exact ⟨rfl, rfl, h⟩
      refine tb_X8_quotient_119 (c := false) ?_
      simp only [kb_X8_quotient_119, w_ild_3, w_if_eq, w_ald_0, w_iv0, tfr_0, tfr_1, tfr_2, tfr_3, tfr_4, w_nil, true_and, and_true, Nat.reduceAdd, Nat.reduceSub, eq_self, tsh_79, tyk_10, tcq_10, tsh_81, tsh_82, tyk_3, tcq_3]
      repeat refine And.intro (by omega) ?_
      refine ⟨fun h => n127 _ _ ⟨⟨t, q1, ?_⟩, q3, q4⟩, fun h => ?_⟩
      · rw [← hsv.1 h]
        exact q2
      refine tc_n (D := 1) (fun d' hd' => y_rturn (b := b) q1 (FTc_r q2) hb q4.1.1 hd') (by omega) ?_
      rintro M10 ⟨q5, q6⟩
      try simp only [kb_X8_quotient_119, w_ild_3, w_if_eq, w_ald_0, w_iv0, tfr_0, tfr_1, tfr_2, tfr_3, tfr_4, w_nil, true_and, and_true, Nat.reduceAdd, Nat.reduceSub, eq_self, tsh_79, tyk_10, tcq_10, tsh_81, tsh_82, tyk_3, tcq_3]
      refine n127 _ _ ⟨⟨-t, q5, ?_⟩, RO_u q3 (q6.2.2 79 4 (by decide)) (q6.2.2 79 5 (by decide)), RF_tr q4 (RF_d q6 (by decide))⟩
      have e := hsv.2 (by omega)
      rw [show v * 10000000000 = -(V * 10000000000) by omega]
      exact FTc_n rw_.1 q2
    refine tb_X8_quotient_38 (c := false) ?_
    simp only [kb_X8_quotient_38, w_ist_3, tkl_n, tkl_i, tkl_l, tkl_r, w_ald_0, w_gf_10_2, tw_f, w_gf_10_3, w_iv2, tfr_0, tfr_1, tfr_2, tfr_3, tfr_4, w_ist4, w_ild4, w_bi, w_ic_le, w_ld2, w_lc0, w_ic, w_iv3, w_goto, true_and, and_true, Nat.reduceAdd, Nat.reduceSub, eq_self, tsh_79, tyk_10, tcq_10, tsh_81, tsh_82, tyk_3, tcq_3]
    repeat refine And.intro (by omega) ?_
    refine tc_i (D := 0) (fun d' hd' => y_align (b := b) cl_81 cl_82 hV k2 (by omega) (by omega) hb f4.1) (by omega) ?_
    rintro z M5 ⟨k, ⟨rfl, hk⟩, l1, l2, l3, l4, f5⟩
    try simp only [kb_X8_quotient_38, w_ist_3, tkl_n, tkl_i, tkl_l, tkl_r, w_ald_0, w_gf_10_2, tw_f, w_gf_10_3, w_iv2, tfr_0, tfr_1, tfr_2, tfr_3, tfr_4, w_ist4, w_ild4, w_bi, w_ic_le, w_ld2, w_lc0, w_ic, w_iv3, w_goto, true_and, and_true, Nat.reduceAdd, Nat.reduceSub, eq_self, tsh_79, tyk_10, tcq_10, tsh_81, tsh_82, tyk_3, tcq_3]
    have hTk := TT_pos (k + 1)
    have eT : w * TT (k + 1) = w * TT k * 10 := by rw [TT_s1, Int.mul_assoc]
    have ro5 : RO M5 := RO_u ro4 (f5.2 79 4 (by decide)) (f5.2 79 5 (by decide))
    repeat refine And.intro (by omega) ?_
    refine ⟨fun h => ?_, fun h => ?_⟩
    · have hm : ((k : Nat) : Int) + 1 = ((k + 1 : Nat) : Int) := by omega
      rw [hm]
      refine tb_X8_quotient_72 (c := false) ?_
      simp only [kb_X8_quotient_72, w_ald_0, w_ild4, w_iv1, tfr_0, tfr_1, tfr_2, tfr_3, tfr_4, w_lst5, tkl_n, tkl_i, tkl_l, tkl_r, w_bi, w_lst7, w_lld5, w_lld7, w_gf_10_9, tw_f, w_lc0, w_lcmp, ne_eq, tlc_r, tlc_eq, tlc_lt, tlc_ge, tlc_gt, tlc_le, w_if_gt, w_gf_10_10, w_if_le, w_nil, true_and, and_true, Nat.reduceAdd, Nat.reduceSub, eq_self, tsh_79, tyk_10, tcq_10, tsh_81, tsh_82, tyk_3, tcq_3]
      have hTp := TT_pos k
      have hBp : 0 < w * TT k := Int.mul_pos rw_.1 hTp
      have hBl : w * TT k < 1000000000000000000000000 := by
        rcases l4 with q | q
        · rw [q, TT_v.1]
          omega
        · omega
      refine tc_l (D := 0) (fun d' hd' => y_nextDigits (b := b) (m := k + 1) (by omega) l1 l2 (by omega) ⟨hBp, hBl⟩ hb f5.1.1) (by omega) ?_
      rintro W M6 ⟨A1, a1, a2, a3, a4, a5, f6⟩
      try simp only [kb_X8_quotient_72, w_ald_0, w_ild4, w_iv1, tfr_0, tfr_1, tfr_2, tfr_3, tfr_4, w_lst5, tkl_n, tkl_i, tkl_l, tkl_r, w_bi, w_lst7, w_lld5, w_lld7, w_gf_10_9, tw_f, w_lc0, w_lcmp, ne_eq, tlc_r, tlc_eq, tlc_lt, tlc_ge, tlc_gt, tlc_le, w_if_gt, w_gf_10_10, w_if_le, w_nil, true_and, and_true, Nat.reduceAdd, Nat.reduceSub, eq_self, tsh_79, tyk_10, tcq_10, tsh_81, tsh_82, tyk_3, tcq_3]
      rw [show (10 : Int) = ((10 : Nat) : Int) from rfl]
      refine tc_l (D := 0) (fun d' hd' => y_nextDigits (b := b) (m := 10) (by omega) a1 a2 a3 ⟨hBp, hBl⟩ hb f6.1.1) (by omega) ?_
      rintro P M7 ⟨A2, c1, c2, c3, c4, c5, f7⟩
      have hW := TT_13 (show k + 1 ≤ 13 by omega)
      rw [TT_10] at c4 c5
      rw [← eT] at a3 a4 c3 c4
      obtain ⟨m1, m2⟩ := c1
      have qd := qd_v hTk a4 c4 c3
      have ro7 : RO M7 := RO_u (RO_u ro5 (f6.2 79 4 (by decide)) (f6.2 79 5 (by decide))) (f7.2 79 4 (by decide)) (f7.2 79 5 (by decide))
      have r07 : RF b M M7 := RF_tr r04 (RF_tr (SLE_R f5) (RF_tr (SLE_R f6) (SLE_R f7)))
      have n116 : ∀ (x : Int), (0 ≤ x ∧ x ≤ 1) → (x = 0 ↔ A2 = 0) → tT e d 2568 116 [some (.inr (.inr (.inl (79)))), some (.inr (.inr (.inl (x1)))), some (.inr (.inr (.inl (x2)))), some (.inl (s)), some (.inl (((k + 1 : Nat) : Int))), some (.inr (.inl (W))), none, some (.inr (.inl (P))), none] [.inl x, .inr (.inl P), .inr (.inl W), .inr (.inr (.inl 79))] M7 n (tQn n (fun M' => (∃ t, RN M' t ∧ FTc t (v * 10000000000) w) ∧ RO M' ∧ RF b M M')) := by
        intro x hx hxa
        refine tb_X8_quotient_116 (c := false) ?_
        simp only [kb_X8_quotient_116, w_iv3, tfr_0, tfr_1, tfr_2, tfr_3, tfr_4, w_nil, true_and, and_true, Nat.reduceAdd, Nat.reduceSub, eq_self, tsh_79, tyk_10, tcq_10, tsh_81, tsh_82, tyk_3, tcq_3]
        refine tc_n (D := 0) (fun d' hd' => y_rassign (b := b) (x1 := W) (x2 := P) (x3 := x) (by omega) hx hb f7.1.1) (by omega) ?_
        rintro M8 ⟨q1, q2, q3⟩
        try simp only [kb_X8_quotient_116, w_iv3, tfr_0, tfr_1, tfr_2, tfr_3, tfr_4, w_nil, true_and, and_true, Nat.reduceAdd, Nat.reduceSub, eq_self, tsh_79, tyk_10, tcq_10, tsh_81, tsh_82, tyk_3, tcq_3]
        have hS : SD (2 * (W * 10000000000 + P) + x) (V * 10000000000) w := by
          left
          refine ⟨?_, by rw [qd.1]; omega⟩
          unfold cd
          rw [qd.1]
          by_cases g : V * 10000000000 % w = 0
          · rw [if_pos g, hxa.mpr (qd.2.mp g)]
          · rw [if_neg g]
            have : x ≠ 0 := fun g2 => g (qd.2.mpr (hxa.mp g2))
            omega
        exact n119 M8 _ _ _ _ _ _ q1 (SD_F rw_.1 (by omega) hS).1 (RO_u ro7 (q3 79 4 (by decide) (by decide)) (q3 79 5 (by decide) (by decide))) (RF_tr r07 ⟨q2, fun k i g => q3 k i (by omega) (by omega)⟩)
      try simp only [kb_X8_quotient_72, w_ald_0, w_ild4, w_iv1, tfr_0, tfr_1, tfr_2, tfr_3, tfr_4, w_lst5, tkl_n, tkl_i, tkl_l, tkl_r, w_bi, w_lst7, w_lld5, w_lld7, w_gf_10_9, tw_f, w_lc0, w_lcmp, ne_eq, tlc_r, tlc_eq, tlc_lt, tlc_ge, tlc_gt, tlc_le, w_if_gt, w_gf_10_10, w_if_le, w_nil, true_and, and_true, Nat.reduceAdd, Nat.reduceSub, eq_self, tsh_79, tyk_10, tcq_10, tsh_81, tsh_82, tyk_3, tcq_3, m1, m2]
      have n111 : A2 ≠ 0 → tT e d 2568 111 [some (.inr (.inr (.inl (79)))), some (.inr (.inr (.inl (x1)))), some (.inr (.inr (.inl (x2)))), some (.inl (s)), some (.inl (((k + 1 : Nat) : Int))), some (.inr (.inl (W))), none, some (.inr (.inl (P))), none] [.inr (.inl P), .inr (.inl W), .inr (.inr (.inl 79))] M7 n (tQn n (fun M' => (∃ t, RN M' t ∧ FTc t (v * 10000000000) w) ∧ RO M' ∧ RF b M M')) := by
        intro g
        refine tb_X8_quotient_111 (c := false) ?_
        simp only [kb_X8_quotient_111, w_ic, w_goto, true_and, and_true, Nat.reduceAdd, Nat.reduceSub, eq_self]
        exact n116 1 (by decide) ⟨fun q => absurd q (by decide), fun q => absurd q g⟩
      repeat refine And.intro (by omega) ?_
      refine ⟨fun q => n111 (by omega), fun q => ?_⟩
      repeat refine And.intro (by omega) ?_
      refine ⟨fun q2 => ?_, fun q2 => n111 (by omega)⟩
      refine tb_X8_quotient_115 (c := false) ?_
      simp only [kb_X8_quotient_115, w_ic, w_nil, true_and, and_true, Nat.reduceAdd, Nat.reduceSub, eq_self]
      exact n116 0 (by decide) ⟨fun _ => by omega, fun _ => rfl⟩
    · refine tc_n (D := 0) (fun d' hd' => y_rassign (b := b) (x1 := 10000000000000) (x2 := 0) (x3 := 0) (by decide) (by decide) hb f5.1.1) (by omega) ?_
      rintro M6 ⟨q1, q2, q3⟩
      try simp only [kb_X8_quotient_38, w_ist_3, tkl_n, tkl_i, tkl_l, tkl_r, w_ald_0, w_gf_10_2, tw_f, w_gf_10_3, w_iv2, tfr_0, tfr_1, tfr_2, tfr_3, tfr_4, w_ist4, w_ild4, w_bi, w_ic_le, w_ld2, w_lc0, w_ic, w_iv3, w_goto, true_and, and_true, Nat.reduceAdd, Nat.reduceSub, eq_self, tsh_79, tyk_10, tcq_10, tsh_81, tsh_82, tyk_3, tcq_3]
      exact n119 M6 _ _ _ _ _ _ q1 (SD_F rw_.1 (by omega) (Or.inr (by omega))).1 (RO_u ro5 (q3 79 4 (by decide) (by decide)) (q3 79 5 (by decide) (by decide))) (RF_tr r04 (RF_tr (SLE_R f5) ⟨q2, fun k i g => q3 k i (by omega) (by omega)⟩))
  repeat refine And.intro (by omega) ?_
  refine ⟨fun h => ?_, fun h => ?_⟩
  · refine tb_X8_quotient_37 (c := false) ?_
    simp only [kb_X8_quotient_37, w_ic, w_nil, true_and, and_true, Nat.reduceAdd, Nat.reduceSub, eq_self]
    exact n38 0 (by decide) ⟨fun _ => by omega, fun q => absurd q (by decide)⟩
  · exact n38 1 (by decide) ⟨fun q => absurd q (by decide), fun _ => by omega⟩
end HAND
