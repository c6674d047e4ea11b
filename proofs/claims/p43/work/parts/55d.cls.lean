/-! THE CLASS: methods, printed by wip/p2/gen/sgen.py. -/
theorem k_X10_at {e : tE} {b : Nat} {d n : Nat} {r : Nat} {x1 : Int} (h0 : cl r 12) (h1 : (-2147483648 ≤ x1 ∧ x1 ≤ 2147483647)) (hd : 0 ≤ d) : sC e b d 3075 [.inr (.inr (.inl r)), .inl x1] n (SQi n (fun z => (0 ≤ z ∧ z ≤ 65535))) := by
  refine sK (fun M h => tst_X10_at h) (fun M0 => ?_)
  have n22 : ∀ (is0_22 : Int), (0 ≤ is0_22 ∧ is0_22 ≤ 65535) → sT e b M0 d 3075 22 [] [some (.inr (.inr (.inl r))), some (.inl x1)] [.inl is0_22] n (fun r n' _ => (SQi n (fun z => (0 ≤ z ∧ z ≤ 65535))) r n') := by
    intro is0_22 y22_0
    refine sblk (hv := false) kbl_X10_at kbs_X10_at (pc := 22) (pe := 23) (rk := 4) (i := 3) rfl (by decide +kernel) ?_
    simp only [kb_X10_at_22, s_ire, trg, LR, IR, true_and, and_true, Nat.reduceAdd, Nat.reduceSub, eq_self]
    exact ⟨by omega, fun _ _ _ _ => ⟨_, rfl, rfl, by omega⟩⟩
  have n12 : sT e b M0 d 3075 12 [] [some (.inr (.inr (.inl r))), some (.inl x1)] [] n (fun r n' _ => (SQi n (fun z => (0 ≤ z ∧ z ≤ 65535))) r n') := by
    refine sblk (hv := false) kbl_X10_at kbs_X10_at (pc := 12) (pe := 16) (rk := 4) (i := 1) rfl (by decide +kernel) ?_
    simp only [kb_X10_at_12, s_ic, s_goto, LR, IR, true_and, and_true, Nat.reduceAdd, Nat.reduceSub, eq_self]
    exact sT_w (n22 _ (by omega))
  refine sblk (hv := false) kbl_X10_at kbs_X10_at (pc := 0) (pe := 12) (rk := 4) (i := 0) rfl (by decide +kernel) ?_
  simp only [kb_X10_at_0, s_ild_1, s_if_lt, s_ald_0, s_gf_12_1, s_ic_lt, s_nil, LR, IR, true_and, and_true, Nat.reduceAdd, Nat.reduceSub, eq_self]
  refine ⟨by omega, fun h5_ => ?_, fun h5_ => ?_⟩
  · exact sT_w (n12)
  refine ⟨by assumption, fun x8_ h8_ g8_ k8_ => ?_⟩
  clear k8_
  refine ⟨by omega, fun h9_ => ?_, fun h9_ => ?_⟩
  · refine sT_w ?_
    refine sblk (hv := false) kbl_X10_at kbs_X10_at (pc := 16) (pe := 22) (rk := 4) (i := 2) rfl (by decide +kernel) ?_
    simp only [kb_X10_at_16, s_ald_0, s_gf_12_0, s_ild_1, s_ca, s_nil, LR, IR, true_and, and_true, Nat.reduceAdd, Nat.reduceSub, eq_self]
    refine ⟨by assumption, fun x11_ h11_ => ?_⟩
    refine ⟨aok_15 (by assumption) (by omega), fun x13_ g13_ => ?_⟩
    have h13_ := arg_15 (by assumption) g13_
    clear g13_
    exact sT_w (n22 _ (by omega))
  exact sT_w (n12)
theorem k_X10_isDigitAt {e : tE} {b : Nat} {d n : Nat} {r : Nat} {x1 : Int} (h0 : cl r 12) (h1 : (-2147483648 ≤ x1 ∧ x1 ≤ 2147483647)) (hd : 1 ≤ d) : sC e b d 3077 [.inr (.inr (.inl r)), .inl x1] n (SQi n (fun z => (0 ≤ z ∧ z ≤ 1))) := by
  refine sK (fun M h => tst_X10_isDigitAt h) (fun M0 => ?_)
  have n23 : ∀ (i2_23 : Int) (is0_23 : Int), (0 ≤ i2_23 ∧ i2_23 ≤ 65535) → (0 ≤ is0_23 ∧ is0_23 ≤ 1) → sT e b M0 d 3077 23 [] [some (.inr (.inr (.inl r))), some (.inl x1), some (.inl i2_23)] [.inl is0_23] n (fun r n' _ => (SQi n (fun z => (0 ≤ z ∧ z ≤ 1))) r n') := by
    intro i2_23 is0_23 y23_0 y23_1
    refine sblk (hv := false) kbl_X10_isDigitAt kbs_X10_isDigitAt (pc := 23) (pe := 24) (rk := 3) (i := 2) rfl (by decide +kernel) ?_
    simp only [kb_X10_isDigitAt_23, s_ire, trg, LR, IR, true_and, and_true, Nat.reduceAdd, Nat.reduceSub, eq_self]
    exact ⟨by omega, fun _ _ _ _ => ⟨_, rfl, rfl, by omega⟩⟩
  have n22 : ∀ (i2_22 : Int), (0 ≤ i2_22 ∧ i2_22 ≤ 65535) → sT e b M0 d 3077 22 [] [some (.inr (.inr (.inl r))), some (.inl x1), some (.inl i2_22)] [] n (fun r n' _ => (SQi n (fun z => (0 ≤ z ∧ z ≤ 1))) r n') := by
    intro i2_22 y22_0
    refine sblk (hv := false) kbl_X10_isDigitAt kbs_X10_isDigitAt (pc := 22) (pe := 23) (rk := 3) (i := 1) rfl (by decide +kernel) ?_
    simp only [kb_X10_isDigitAt_22, s_ic, s_nil, LR, IR, true_and, and_true, Nat.reduceAdd, Nat.reduceSub, eq_self]
    exact sT_w (n23 _ _ (by omega) (by omega))
  refine sblk (hv := false) kbl_X10_isDigitAt kbs_X10_isDigitAt (pc := 0) (pe := 22) (rk := 3) (i := 0) rfl (by decide +kernel) ?_
  simp only [kb_X10_isDigitAt_0, s_ald_0, s_ild_1, s_iv1, tfr_0, tfr_1, tfr_2, tfr_3, tfr_4, s_ist_2, tkl_n, tkl_i, tkl_l, tkl_r, s_ild_2, s_bi, s_ic_lt, s_ic_gt, s_ic, s_goto, LR, IR, true_and, and_true, Nat.reduceAdd, Nat.reduceSub, eq_self]
  refine ⟨vok_of (s := 12) (by assumption) rfl, ?_⟩
  refine sc_i (D := 0) (fun d' hd' => k_X10_at (by assumption) (by omega) hd') (by omega) ?_
  intro x5_ h5_
  try simp only [s_ist_2, tkl_n, tkl_i, tkl_l, tkl_r, s_ild_2, s_bi, s_ic_lt, s_ic_gt, s_ic, s_goto, LR, IR, true_and, and_true, Nat.reduceAdd, Nat.reduceSub, eq_self]
  refine ⟨by omega, fun h9_ => ?_, fun h9_ => ?_⟩
  · exact sT_w (n22 _ (by omega))
  refine ⟨by omega, fun h12_ => ?_, fun h12_ => ?_⟩
  · exact sT_w (n22 _ (by omega))
  exact sT_w (n23 _ _ (by omega) (by omega))
theorem k_X5_takesExponent {e : tE} {b : Nat} {d n : Nat} {r : Nat} {x1 : Nat} (h0 : cl r 7) (h1 : cl x1 12) (hb : b = 0) (hd : 2 ≤ d) : sC e b d 1812 [.inr (.inr (.inl r)), .inr (.inr (.inl x1))] n (SQi n (fun z => (0 ≤ z ∧ z ≤ 1))) := by
  refine sK (fun M h => tst_X5_takesExponent h) (fun M0 => ?_)
  refine sblk (hv := true) kbl_X5_takesExponent kbs_X5_takesExponent (pc := 0) (pe := 9) (rk := 3) (i := 0) rfl (by decide +kernel) ?_
  simp only [kb_X5_takesExponent_0, s_ald_0, s_gf_7_11, s_if_ne, s_ic, s_ire, trg, LR, IR, true_and, and_true, Nat.reduceAdd, Nat.reduceSub, eq_self]
  refine ⟨by assumption, fun x2_ h2_ g2_ k2_ => ?_⟩
  clear k2_
  refine ⟨by omega, fun h3_ => ?_, fun h3_ => ?_⟩
  · refine sT_w ?_
    refine sblk (hv := true) kbl_X5_takesExponent kbs_X5_takesExponent (pc := 9) (pe := 32) (rk := 3) (i := 1) rfl (by decide +kernel) ?_
    simp only [kb_X5_takesExponent_9, s_ald_0, s_dupi, s_dupr, s_gf_7_9, s_ic, h_iadd, s_pf_7_9, s_ald_1, s_iv1, tfr_0, tfr_1, tfr_2, tfr_3, tfr_4, s_if_ne, s_ire, trg, LR, IR, true_and, and_true, Nat.reduceAdd, Nat.reduceSub, eq_self]
    refine ⟨by assumption, fun x6_ h6_ g6_ k6_ => ?_⟩
    clear k6_
    intro x8_ h8_ g8_
    refine ⟨by omega, by assumption, by omega, ?_⟩
    refine ⟨by assumption, fun x12_ h12_ g12_ k12_ => ?_⟩
    clear k12_
    refine ⟨vok_of (s := 12) (by assumption) rfl, ?_⟩
    refine sc_i (D := 1) (fun d' hd' => k_X10_isDigitAt (by assumption) (by omega) hd') (by omega) ?_
    intro x13_ h13_
    try simp only [s_if_ne, s_ic, s_ire, trg, LR, IR, true_and, and_true, Nat.reduceAdd, Nat.reduceSub, eq_self]
    refine ⟨by omega, fun h14_ => ?_, fun h14_ => ?_⟩
    · refine sT_w ?_
      refine sblk (hv := true) kbl_X5_takesExponent kbs_X5_takesExponent (pc := 32) (pe := 67) (rk := 3) (i := 2) rfl (by decide +kernel) ?_
      simp only [kb_X5_takesExponent_32, s_ald_0, s_bi, s_lc0, s_ald_1, s_gf_7_9, s_iv1, tfr_0, tfr_1, tfr_2, tfr_3, tfr_4, h_isub, s_iv3, s_ic, s_pf_7_11, s_dupi, s_dupr, h_iadd, s_pf_7_9, s_ire, trg, LR, IR, true_and, and_true, Nat.reduceAdd, Nat.reduceSub, eq_self]
      refine ⟨by assumption, fun x20_ h20_ g20_ k20_ => ?_⟩
      clear k20_
      refine ⟨vok_of (s := 12) (by assumption) rfl, ?_⟩
      refine sc_i (D := 0) (fun d' hd' => k_X10_at (by assumption) (by omega) hd') (by omega) ?_
      intro x21_ h21_
      try simp only [s_bi, h_isub, s_iv3, tfr_0, tfr_1, tfr_2, tfr_3, tfr_4, s_ald_0, s_ic, s_pf_7_11, s_dupi, s_dupr, s_gf_7_9, h_iadd, s_pf_7_9, s_ire, trg, LR, IR, true_and, and_true, Nat.reduceAdd, Nat.reduceSub, eq_self]
      intro x23_ h23_ g23_
      refine ⟨vok_of (s := 7) (by assumption) rfl, ?_⟩
      refine sc_n (D := 0) (fun d' hd' => k_X5_append (by assumption) (by omega) (by omega) (by omega) (by omega) (by omega) hd') (by omega) ?_
      intro h24_
      try simp only [s_ald_0, s_ic, s_pf_7_11, s_dupi, s_dupr, s_gf_7_9, h_iadd, s_pf_7_9, s_ire, trg, LR, IR, true_and, and_true, Nat.reduceAdd, Nat.reduceSub, eq_self]
      refine ⟨by omega, by assumption, by omega, ?_⟩
      refine ⟨by assumption, fun x30_ h30_ g30_ k30_ => ?_⟩
      clear k30_
      intro x32_ h32_ g32_
      refine ⟨by omega, by assumption, by omega, ?_⟩
      exact ⟨by omega, fun _ _ _ _ => ⟨_, rfl, rfl, by omega⟩⟩
    exact ⟨by omega, fun _ _ _ _ => ⟨_, rfl, rfl, by omega⟩⟩
  exact ⟨by omega, fun _ _ _ _ => ⟨_, rfl, rfl, by omega⟩⟩
theorem k_X11_digits {e : tE} {b : Nat} {d n : Nat} {r : Nat} (h0 : cl r 13) (hd : 0 ≤ d) : sC e b d 3354 [.inr (.inr (.inl r))] n (SQi n (fun z => (0 ≤ z ∧ z ≤ 10))) := by
  refine sK (fun M h => tst_X11_digits h) (fun M0 => ?_)
  refine sblk (hv := false) kbl_X11_digits kbs_X11_digits (pc := 0) (pe := 5) (rk := 0) (i := 0) rfl (by decide +kernel) ?_
  simp only [kb_X11_digits_0, s_ald_0, s_gf_13_0, s_ire, trg, LR, IR, true_and, and_true, Nat.reduceAdd, Nat.reduceSub, eq_self]
  refine ⟨by assumption, fun x2_ h2_ g2_ k2_ => ?_⟩
  clear k2_
  exact fun _ _ _ _ => ⟨_, rfl, rfl, by omega⟩
theorem k_X11_erase {e : tE} {b : Nat} {d n : Nat} {r : Nat} (h0 : cl r 13) (hb : b < 2) (hd : 1 ≤ d) : sC e b d 3356 [.inr (.inr (.inl r))] n (SQi n (fun z => (0 ≤ z ∧ z ≤ 60))) := by
  refine sK (fun M h => tst_X11_erase h) (fun M0 => ?_)
  refine sblk (hv := false) kbl_X11_erase kbs_X11_erase (pc := 0) (pe := 17) (rk := 0) (i := 0) rfl (by decide +kernel) ?_
  simp only [kb_X11_erase_0, s_ald_0, s_gf_13_1, s_gf_12_1, s_ist_1, tkl_n, tkl_i, tkl_l, tkl_r, s_iv0, tfr_0, tfr_1, tfr_2, tfr_3, tfr_4, s_ild_1, s_ire, trg, LR, IR, true_and, and_true, Nat.reduceAdd, Nat.reduceSub, eq_self]
  refine ⟨by assumption, fun x2_ h2_ => ?_⟩
  refine ⟨by assumption, fun x3_ h3_ g3_ k3_ => ?_⟩
  clear k3_
  refine ⟨by assumption, fun x6_ h6_ => ?_⟩
  refine ⟨vok_of (s := 12) (by assumption) rfl, ?_⟩
  refine sc_n (D := 0) (fun d' hd' => k_X10_clear (by assumption) (by omega) hd') (by omega) ?_
  intro h7_
  try simp only [s_ild_1, s_ire, trg, LR, IR, true_and, and_true, Nat.reduceAdd, Nat.reduceSub, eq_self]
  exact fun _ _ _ _ => ⟨_, rfl, rfl, by omega⟩
theorem k_X11_takeExtreme {e : tE} {b : Nat} {d n : Nat} {r : Nat} {x1 : Nat} {x2 : Nat} {x3 : Int} {x4 : Int} (h0 : cl r 13) (h1 : cl x1 4) (h2 : cl x2 4) (h3 : (0 ≤ x3 ∧ x3 ≤ 1)) (h4 : (0 ≤ x4 ∧ x4 ≤ 1)) (hb : b < 2 ∨ b = 3) (hd : 1 ≤ d) : sC e b d 3394 [.inr (.inr (.inl r)), .inr (.inr (.inl x1)), .inr (.inr (.inl x2)), .inl x3, .inl x4] n (SQn n (True)) := by
  refine sK (fun M h => tst_X11_takeExtreme h) (fun M0 => ?_)
  have n148 : (0 ≤ x3 ∧ x3 ≤ 1) → (0 ≤ x4 ∧ x4 ≤ 1) → sT e b M0 d 3394 148 [] [some (.inr (.inr (.inl r))), some (.inr (.inr (.inl x1))), some (.inr (.inr (.inl x2))), some (.inl x3), some (.inl x4)] [] n (fun r n' _ => (SQn n (True)) r n') := by
    intro  y148_0 y148_1
    refine sblk (hv := false) kbl_X11_takeExtreme kbs_X11_takeExtreme (pc := 148) (pe := 149) (rk := 9) (i := 8) rfl (by decide +kernel) ?_
    simp only [kb_X11_takeExtreme_148, s_re, LR, IR, true_and, and_true, Nat.reduceAdd, Nat.reduceSub, eq_self]
    exact fun _ _ _ _ => ⟨rfl, rfl, by first | trivial | omega⟩
  have n40 : (0 ≤ x3 ∧ x3 ≤ 1) → (1 ≤ x4 ∧ x4 ≤ 1) → sT e b M0 d 3394 40 [] [some (.inr (.inr (.inl r))), some (.inr (.inr (.inl x1))), some (.inr (.inr (.inl x2))), some (.inl x3), some (.inl x4)] [] n (fun r n' _ => (SQn n (True)) r n') := by
    intro  y40_0 y40_1
    have n61 : sT e b M0 d 3394 61 [] [some (.inr (.inr (.inl r))), some (.inr (.inr (.inl x1))), some (.inr (.inr (.inl x2))), some (.inl x3), some (.inl x4)] [] n (fun r n' _ => (SQn n (True)) r n') := by
      refine sblk (hv := false) kbl_X11_takeExtreme kbs_X11_takeExtreme (pc := 61) (pe := 78) (rk := 9) (i := 3) rfl (by decide +kernel) ?_
      simp only [kb_X11_takeExtreme_61, s_ald_0, s_gf_13_11, s_gf_4_0, s_ald_2, s_iv1, tfr_0, tfr_1, tfr_2, tfr_3, tfr_4, s_goto, LR, IR, true_and, and_true, Nat.reduceAdd, Nat.reduceSub, eq_self]
      refine ⟨by assumption, fun x3_ h3_ => ?_⟩
      refine ⟨by assumption, fun x4_ h4_ => ?_⟩
      refine ⟨by assumption, fun x6_ h6_ => ?_⟩
      refine ⟨vok_of (s := 3) (by assumption) rfl, ?_⟩
      refine sc_n (D := 0) (fun d' hd' => k_X1_copy (by assumption) (by assumption) (by omega) hd') (by omega) ?_
      intro h7_
      try simp only [s_goto, LR, IR, true_and, and_true, Nat.reduceAdd, Nat.reduceSub, eq_self]
      exact sT_w (n148 (by omega) (by omega))
    refine sblk (hv := false) kbl_X11_takeExtreme kbs_X11_takeExtreme (pc := 40) (pe := 61) (rk := 9) (i := 2) rfl (by decide +kernel) ?_
    simp only [kb_X11_takeExtreme_40, s_ild_3, s_if_ne, s_ald_0, s_gf_13_11, s_gf_4_0, s_ald_2, s_iv1, tfr_0, tfr_1, tfr_2, tfr_3, tfr_4, s_if_eq, s_nil, LR, IR, true_and, and_true, Nat.reduceAdd, Nat.reduceSub, eq_self]
    refine ⟨by omega, fun h10_ => ?_, fun h10_ => ?_⟩
    · exact sT_w (n61)
    refine ⟨by assumption, fun x12_ h12_ => ?_⟩
    refine ⟨by assumption, fun x13_ h13_ => ?_⟩
    refine ⟨by assumption, fun x15_ h15_ => ?_⟩
    refine ⟨vok_of (s := 3) (by assumption) rfl, ?_⟩
    refine sc_i (D := 0) (fun d' hd' => k_X1_isBelow (by assumption) (by assumption) hd') (by omega) ?_
    intro x16_ h16_
    try simp only [s_if_eq, s_nil, LR, IR, true_and, and_true, Nat.reduceAdd, Nat.reduceSub, eq_self]
    refine ⟨by omega, fun h17_ => ?_, fun h17_ => ?_⟩
    · exact sT_w (n148 (by omega) (by omega))
    exact sT_w (n61)
  have n26 : (0 ≤ x3 ∧ x3 ≤ 1) → (1 ≤ x4 ∧ x4 ≤ 1) → sT e b M0 d 3394 26 [] [some (.inr (.inr (.inl r))), some (.inr (.inr (.inl x1))), some (.inr (.inr (.inl x2))), some (.inl x3), some (.inl x4)] [] n (fun r n' _ => (SQn n (True)) r n') := by
    intro  y26_0 y26_1
    refine sblk (hv := false) kbl_X11_takeExtreme kbs_X11_takeExtreme (pc := 26) (pe := 40) (rk := 9) (i := 1) rfl (by decide +kernel) ?_
    simp only [kb_X11_takeExtreme_26, s_ald_0, s_gf_13_11, s_gf_4_1, s_ald_1, s_iv1, tfr_0, tfr_1, tfr_2, tfr_3, tfr_4, s_nil, LR, IR, true_and, and_true, Nat.reduceAdd, Nat.reduceSub, eq_self]
    refine ⟨by assumption, fun x19_ h19_ => ?_⟩
    refine ⟨by assumption, fun x20_ h20_ => ?_⟩
    refine ⟨by assumption, fun x22_ h22_ => ?_⟩
    refine ⟨vok_of (s := 3) (by assumption) rfl, ?_⟩
    refine sc_n (D := 0) (fun d' hd' => k_X1_copy (by assumption) (by assumption) (by omega) hd') (by omega) ?_
    intro h23_
    try simp only [s_nil, LR, IR, true_and, and_true, Nat.reduceAdd, Nat.reduceSub, eq_self]
    exact sT_w (n40 (by omega) (by omega))
  refine sblk (hv := false) kbl_X11_takeExtreme kbs_X11_takeExtreme (pc := 0) (pe := 26) (rk := 9) (i := 0) rfl (by decide +kernel) ?_
  simp only [kb_X11_takeExtreme_0, s_ild4, s_if_eq, s_ild_3, s_if_ne, s_ald_0, s_gf_13_11, s_gf_4_1, s_ald_1, s_iv1, tfr_0, tfr_1, tfr_2, tfr_3, tfr_4, s_nil, LR, IR, true_and, and_true, Nat.reduceAdd, Nat.reduceSub, eq_self]
  refine ⟨by omega, fun h25_ => ?_, fun h25_ => ?_⟩
  · have n113 : (0 ≤ x3 ∧ x3 ≤ 1) → (0 ≤ x4 ∧ x4 ≤ 0) → sT e b M0 d 3394 113 [] [some (.inr (.inr (.inl r))), some (.inr (.inr (.inl x1))), some (.inr (.inr (.inl x2))), some (.inl x3), some (.inl x4)] [] n (fun r n' _ => (SQn n (True)) r n') := by
      intro  y113_0 y113_1
      have n134 : sT e b M0 d 3394 134 [] [some (.inr (.inr (.inl r))), some (.inr (.inr (.inl x1))), some (.inr (.inr (.inl x2))), some (.inl x3), some (.inl x4)] [] n (fun r n' _ => (SQn n (True)) r n') := by
        refine sblk (hv := false) kbl_X11_takeExtreme kbs_X11_takeExtreme (pc := 134) (pe := 148) (rk := 9) (i := 7) rfl (by decide +kernel) ?_
        simp only [kb_X11_takeExtreme_134, s_ald_0, s_gf_13_11, s_gf_4_1, s_ald_2, s_iv1, tfr_0, tfr_1, tfr_2, tfr_3, tfr_4, s_nil, LR, IR, true_and, and_true, Nat.reduceAdd, Nat.reduceSub, eq_self]
        refine ⟨by assumption, fun x27_ h27_ => ?_⟩
        refine ⟨by assumption, fun x28_ h28_ => ?_⟩
        refine ⟨by assumption, fun x30_ h30_ => ?_⟩
        refine ⟨vok_of (s := 3) (by assumption) rfl, ?_⟩
        refine sc_n (D := 0) (fun d' hd' => k_X1_copy (by assumption) (by assumption) (by omega) hd') (by omega) ?_
        intro h31_
        try simp only [s_nil, LR, IR, true_and, and_true, Nat.reduceAdd, Nat.reduceSub, eq_self]
        exact sT_w (n148 (by omega) (by omega))
      refine sblk (hv := false) kbl_X11_takeExtreme kbs_X11_takeExtreme (pc := 113) (pe := 134) (rk := 9) (i := 6) rfl (by decide +kernel) ?_
      simp only [kb_X11_takeExtreme_113, s_ild_3, s_if_ne, s_ald_2, s_gf_4_1, s_ald_0, s_gf_13_11, s_iv1, tfr_0, tfr_1, tfr_2, tfr_3, tfr_4, s_if_eq, s_nil, LR, IR, true_and, and_true, Nat.reduceAdd, Nat.reduceSub, eq_self]
      refine ⟨by omega, fun h33_ => ?_, fun h33_ => ?_⟩
      · exact sT_w (n134)
      refine ⟨by assumption, fun x35_ h35_ => ?_⟩
      refine ⟨by assumption, fun x37_ h37_ => ?_⟩
      refine ⟨by assumption, fun x38_ h38_ => ?_⟩
      refine ⟨vok_of (s := 3) (by assumption) rfl, ?_⟩
      refine sc_i (D := 0) (fun d' hd' => k_X1_isBelow (by assumption) (by assumption) hd') (by omega) ?_
      intro x39_ h39_
      try simp only [s_if_eq, s_nil, LR, IR, true_and, and_true, Nat.reduceAdd, Nat.reduceSub, eq_self]
      refine ⟨by omega, fun h40_ => ?_, fun h40_ => ?_⟩
      · exact sT_w (n148 (by omega) (by omega))
      exact sT_w (n134)
    have n99 : (0 ≤ x3 ∧ x3 ≤ 1) → (0 ≤ x4 ∧ x4 ≤ 0) → sT e b M0 d 3394 99 [] [some (.inr (.inr (.inl r))), some (.inr (.inr (.inl x1))), some (.inr (.inr (.inl x2))), some (.inl x3), some (.inl x4)] [] n (fun r n' _ => (SQn n (True)) r n') := by
      intro  y99_0 y99_1
      refine sblk (hv := false) kbl_X11_takeExtreme kbs_X11_takeExtreme (pc := 99) (pe := 113) (rk := 9) (i := 5) rfl (by decide +kernel) ?_
      simp only [kb_X11_takeExtreme_99, s_ald_0, s_gf_13_11, s_gf_4_0, s_ald_1, s_iv1, tfr_0, tfr_1, tfr_2, tfr_3, tfr_4, s_nil, LR, IR, true_and, and_true, Nat.reduceAdd, Nat.reduceSub, eq_self]
      refine ⟨by assumption, fun x42_ h42_ => ?_⟩
      refine ⟨by assumption, fun x43_ h43_ => ?_⟩
      refine ⟨by assumption, fun x45_ h45_ => ?_⟩
      refine ⟨vok_of (s := 3) (by assumption) rfl, ?_⟩
      refine sc_n (D := 0) (fun d' hd' => k_X1_copy (by assumption) (by assumption) (by omega) hd') (by omega) ?_
      intro h46_
      try simp only [s_nil, LR, IR, true_and, and_true, Nat.reduceAdd, Nat.reduceSub, eq_self]
      exact sT_w (n113 (by omega) (by omega))
    refine sT_w ?_
    refine sblk (hv := false) kbl_X11_takeExtreme kbs_X11_takeExtreme (pc := 78) (pe := 99) (rk := 9) (i := 4) rfl (by decide +kernel) ?_
    simp only [kb_X11_takeExtreme_78, s_ild_3, s_if_ne, s_ald_1, s_gf_4_0, s_ald_0, s_gf_13_11, s_iv1, tfr_0, tfr_1, tfr_2, tfr_3, tfr_4, s_if_eq, s_nil, LR, IR, true_and, and_true, Nat.reduceAdd, Nat.reduceSub, eq_self]
    refine ⟨by omega, fun h48_ => ?_, fun h48_ => ?_⟩
    · exact sT_w (n99 (by omega) (by omega))
    refine ⟨by assumption, fun x50_ h50_ => ?_⟩
    refine ⟨by assumption, fun x52_ h52_ => ?_⟩
    refine ⟨by assumption, fun x53_ h53_ => ?_⟩
    refine ⟨vok_of (s := 3) (by assumption) rfl, ?_⟩
    refine sc_i (D := 0) (fun d' hd' => k_X1_isBelow (by assumption) (by assumption) hd') (by omega) ?_
    intro x54_ h54_
    try simp only [s_if_eq, s_nil, LR, IR, true_and, and_true, Nat.reduceAdd, Nat.reduceSub, eq_self]
    refine ⟨by omega, fun h55_ => ?_, fun h55_ => ?_⟩
    · exact sT_w (n113 (by omega) (by omega))
    exact sT_w (n99 (by omega) (by omega))
  refine ⟨by omega, fun h57_ => ?_, fun h57_ => ?_⟩
  · exact sT_w (n26 (by omega) (by omega))
  refine ⟨by assumption, fun x59_ h59_ => ?_⟩
  refine ⟨by assumption, fun x60_ h60_ => ?_⟩
  refine ⟨by assumption, fun x62_ h62_ => ?_⟩
  refine ⟨vok_of (s := 3) (by assumption) rfl, ?_⟩
  refine sc_i (D := 0) (fun d' hd' => k_X1_isBelow (by assumption) (by assumption) hd') (by omega) ?_
  intro x63_ h63_
  try simp only [s_if_eq, s_nil, LR, IR, true_and, and_true, Nat.reduceAdd, Nat.reduceSub, eq_self]
  refine ⟨by omega, fun h64_ => ?_, fun h64_ => ?_⟩
  · exact sT_w (n40 (by omega) (by omega))
  exact sT_w (n26 (by omega) (by omega))
theorem k_X11_hasY {e : tE} {b : Nat} {d n : Nat} {r : Nat} {x1 : Int} (h0 : cl r 13) (h1 : (-2147483648 ≤ x1 ∧ x1 ≤ 2147483647)) (hd : 1 ≤ d) : sC e b d 3359 [.inr (.inr (.inl r)), .inl x1] n (SQx n (SQi n (fun z => (0 ≤ z ∧ z ≤ 1))) (fun s => s = "java/lang/IndexOutOfBoundsException" ∨ s = "java/util/NoSuchElementException")) := by
  refine sK (fun M h => tst_X11_hasY h) (fun M0 => ?_)
  refine sblk (hv := false) kbl_X11_hasY kbs_X11_hasY (pc := 0) (pe := 20) (rk := 3) (i := 0) rfl (by decide +kernel) ?_
  simp only [kb_X11_hasY_0, s_ald_0, s_ild_1, s_iv1, tfr_0, tfr_1, tfr_2, tfr_3, tfr_4, s_gf_13_5, s_aa, s_gf_7_5, s_ire, trg, LR, IR, true_and, and_true, Nat.reduceAdd, Nat.reduceSub, eq_self]
  refine ⟨vok_of (s := 13) (by assumption) rfl, ?_⟩
  refine sc_xn (D := 0) (fun d' hd' => k_X11_checkFormula (by assumption) (by omega) hd') (by omega) rfl ?_ (fun s hs _ => Or.inr ⟨s, rfl, rfl, (fun h => Or.inl (h)) hs⟩)
  intro h3_
  try simp only [s_ald_0, s_ild_1, s_iv1, tfr_0, tfr_1, tfr_2, tfr_3, tfr_4, s_gf_13_5, s_aa, s_gf_7_5, s_ire, trg, LR, IR, true_and, and_true, Nat.reduceAdd, Nat.reduceSub, eq_self]
  refine ⟨vok_of (s := 13) (by assumption) rfl, ?_⟩
  refine sc_xn (D := 0) (fun d' hd' => k_X11_checkDefined (by assumption) (by omega) hd') (by omega) rfl ?_ (fun s hs _ => Or.inr ⟨s, rfl, rfl, (fun h => Or.inr (h)) hs⟩)
  intro h6_
  try simp only [s_ald_0, s_gf_13_5, s_ild_1, s_aa, s_gf_7_5, s_ire, trg, LR, IR, true_and, and_true, Nat.reduceAdd, Nat.reduceSub, eq_self]
  refine ⟨by assumption, fun x8_ h8_ => ?_⟩
  refine Or.inr ⟨aok_27 (by assumption) (by omega), fun x10_ h10_ => ?_⟩
  refine ⟨by assumption, fun x11_ h11_ g11_ k11_ => ?_⟩
  clear k11_
  exact ⟨by omega, fun _ _ _ _ => Or.inl ⟨_, rfl, rfl, by omega⟩⟩
theorem k_X11_held {e : tE} {b : Nat} {d n : Nat} {r : Nat} (h0 : cl r 13) (hd : 2 ≤ d) : sC e b d 3360 [.inr (.inr (.inl r))] n (SQi n (fun z => (-2147483648 ≤ z ∧ z ≤ 2147483647))) := by
  refine sK (fun M h => tst_X11_held h) (fun M0 => ?_)
  have n4 : ∀ (fu : Nat) (i1_4 : Int) (i2_4 : Int), 10 - i2_4 + 1 ≤ (fu : Int) → (-2147483648 ≤ i1_4 ∧ i1_4 ≤ 2147483647) → (0 ≤ i2_4 ∧ i2_4 ≤ 10) → (0 ≤ i1_4 ∧ i1_4 ≤ i2_4) → sT e b M0 d 3360 4 [] [some (.inr (.inr (.inl r))), some (.inl i1_4), some (.inl i2_4)] [] n (fun r n' _ => (SQi n (fun z => (-2147483648 ≤ z ∧ z ≤ 2147483647))) r n') := by
    intro fu
    induction fu with
    | zero =>
      intro i1_4 i2_4 hm y4_0 y4_1 y4_2
      exfalso; omega
    | succ fu ih =>
      intro i1_4 i2_4 hm y4_0 y4_1 y4_2
      have ih4 := ih
      clear ih
      have n24 : ∀ (i1_24 : Int), (-2147483648 ≤ i1_24 ∧ i1_24 ≤ 2147483647) → (0 ≤ i2_4 ∧ i2_4 ≤ 9) → (0 ≤ i1_24 ∧ i1_24 ≤ i2_4 + 1) → sT e b M0 d 3360 24 [] [some (.inr (.inr (.inl r))), some (.inl i1_24), some (.inl i2_4)] [] n (fun r n' _ => (SQi n (fun z => (-2147483648 ≤ z ∧ z ≤ 2147483647))) r n') := by
        intro i1_24 y24_0 y24_1 y24_2
        refine sblk (hv := false) kbl_X11_held kbs_X11_held (pc := 24) (pe := 30) (rk := 0) (i := 2) rfl (by decide +kernel) ?_
        simp only [kb_X11_held_24, s_inc2, tkl_n, tkl_i, tkl_l, tkl_r, s_goto, LR, IR, true_and, and_true, Nat.reduceAdd, Nat.reduceSub, eq_self]
        exact sT_w (ih4 _ _ (by omega) (by omega) (by omega) (by omega))
      refine sblk (hv := false) kbl_X11_held kbs_X11_held (pc := 4) (pe := 24) (rk := 0) (i := 1) rfl (by decide +kernel) ?_
      simp only [kb_X11_held_4, s_ild_2, s_bi, s_ic_ge, s_ald_0, s_gf_13_3, s_iv1, tfr_0, tfr_1, tfr_2, tfr_3, tfr_4, s_if_eq, s_inc1, tkl_n, tkl_i, tkl_l, tkl_r, s_nil, LR, IR, true_and, and_true, Nat.reduceAdd, Nat.reduceSub, eq_self]
      refine ⟨by omega, fun h5_ => ?_, fun h5_ => ?_⟩
      · refine sT_w ?_
        refine sblk (hv := false) kbl_X11_held kbs_X11_held (pc := 30) (pe := 32) (rk := 0) (i := 3) rfl (by decide +kernel) ?_
        simp only [kb_X11_held_30, s_ild_1, s_ire, trg, LR, IR, true_and, and_true, Nat.reduceAdd, Nat.reduceSub, eq_self]
        exact fun _ _ _ _ => ⟨_, rfl, rfl, by omega⟩
      refine ⟨by assumption, fun x9_ h9_ => ?_⟩
      refine ⟨vok_of (s := 11) (by assumption) rfl, ?_⟩
      refine sc_i (D := 1) (fun d' hd' => k_X9_holds (by assumption) (by omega) hd') (by omega) ?_
      intro x11_ h11_
      try simp only [s_if_eq, s_inc1, tkl_n, tkl_i, tkl_l, tkl_r, s_nil, LR, IR, true_and, and_true, Nat.reduceAdd, Nat.reduceSub, eq_self]
      refine ⟨by omega, fun h12_ => ?_, fun h12_ => ?_⟩
      · exact sT_w (n24 _ (by omega) (by omega) (by omega))
      exact sT_w (n24 _ (by omega) (by omega) (by omega))
  refine sblk (hv := false) kbl_X11_held kbs_X11_held (pc := 0) (pe := 4) (rk := 0) (i := 0) rfl (by decide +kernel) ?_
  simp only [kb_X11_held_0, s_ic, s_ist_1, tkl_n, tkl_i, tkl_l, tkl_r, s_ist_2, s_nil, LR, IR, true_and, and_true, Nat.reduceAdd, Nat.reduceSub, eq_self]
  exact sT_w (n4 4294967400 _ _ (by omega) (by omega) (by omega) (by omega))
theorem k_X11_high {e : tE} {b : Nat} {d n : Nat} {r : Nat} {x1 : Int} (h0 : cl r 13) (h1 : (-2147483648 ≤ x1 ∧ x1 ≤ 2147483647)) (hb : b < 2) (hd : 3 ≤ d) : sC e b d 3361 [.inr (.inr (.inl r)), .inl x1] n (SQx n (SQi n (fun z => (0 ≤ z ∧ z ≤ 60))) (fun s => s = "java/lang/IndexOutOfBoundsException" ∨ s = "java/util/NoSuchElementException")) := by
  refine sK (fun M h => tst_X11_high h) (fun M0 => ?_)
  refine sblk (hv := false) kbl_X11_high kbs_X11_high (pc := 0) (pe := 36) (rk := 0) (i := 0) rfl (by decide +kernel) ?_
  simp only [kb_X11_high_0, s_ald_0, s_ild_1, s_iv1, tfr_0, tfr_1, tfr_2, tfr_3, tfr_4, s_gf_13_1, s_gf_13_3, s_gf_4_1, s_gf_12_1, s_ire, trg, LR, IR, true_and, and_true, Nat.reduceAdd, Nat.reduceSub, eq_self]
  refine ⟨vok_of (s := 13) (by assumption) rfl, ?_⟩
  refine sc_xn (D := 0) (fun d' hd' => k_X11_checkShelf (by assumption) (by omega) hd') (by omega) rfl ?_ (fun s hs _ => Or.inr ⟨s, rfl, rfl, (fun h => Or.inl (h)) hs⟩)
  intro h3_
  try simp only [s_ald_0, s_ild_1, s_iv1, tfr_0, tfr_1, tfr_2, tfr_3, tfr_4, s_gf_13_1, s_gf_13_3, s_gf_4_1, s_gf_12_1, s_ire, trg, LR, IR, true_and, and_true, Nat.reduceAdd, Nat.reduceSub, eq_self]
  refine ⟨vok_of (s := 13) (by assumption) rfl, ?_⟩
  refine sc_xn (D := 2) (fun d' hd' => k_X11_checkHeld (by assumption) (by omega) hd') (by omega) rfl ?_ (fun s hs _ => Or.inr ⟨s, rfl, rfl, (fun h => Or.inr (h)) hs⟩)
  intro h6_
  try simp only [s_ald_0, s_gf_13_1, s_gf_13_3, s_ild_1, s_iv1, tfr_0, tfr_1, tfr_2, tfr_3, tfr_4, s_gf_4_1, s_gf_12_1, s_ire, trg, LR, IR, true_and, and_true, Nat.reduceAdd, Nat.reduceSub, eq_self]
  refine ⟨by assumption, fun x8_ h8_ => ?_⟩
  refine ⟨by assumption, fun x10_ h10_ => ?_⟩
  refine ⟨vok_of (s := 11) (by assumption) rfl, ?_⟩
  refine sc_r (D := 1) (fun d' hd' => k_X9_box (by assumption) (by omega) hd') (by omega) ?_
  intro x12_ h12_
  try simp only [s_gf_4_1, s_iv1, tfr_0, tfr_1, tfr_2, tfr_3, tfr_4, s_ald_0, s_gf_13_1, s_gf_12_1, s_ire, trg, LR, IR, true_and, and_true, Nat.reduceAdd, Nat.reduceSub, eq_self]
  refine ⟨by assumption, fun x13_ h13_ => ?_⟩
  refine ⟨vok_of (s := 12) (by assumption) rfl, ?_⟩
  refine sc_n (D := 1) (fun d' hd' => k_X10_write (by assumption) (by assumption) (by omega) hd') (by omega) ?_
  intro h14_
  try simp only [s_ald_0, s_gf_13_1, s_gf_12_1, s_ire, trg, LR, IR, true_and, and_true, Nat.reduceAdd, Nat.reduceSub, eq_self]
  refine ⟨by assumption, fun x16_ h16_ => ?_⟩
  refine ⟨by assumption, fun x17_ h17_ g17_ k17_ => ?_⟩
  clear k17_
  exact fun _ _ _ _ => Or.inl ⟨_, rfl, rfl, by omega⟩
theorem k_X2_liesIn {e : tE} {b : Nat} {d n : Nat} {r : Nat} {x1 : Nat} (h0 : cl r 4) (h1 : cl x1 4) (hd : 1 ≤ d) : sC e b d 1033 [.inr (.inr (.inl r)), .inr (.inr (.inl x1))] n (SQi n (fun z => (0 ≤ z ∧ z ≤ 1))) := by
  refine sK (fun M h => tst_X2_liesIn h) (fun M0 => ?_)
  have n33 : ∀ (is0_33 : Int), (0 ≤ is0_33 ∧ is0_33 ≤ 1) → sT e b M0 d 1033 33 [] [some (.inr (.inr (.inl r))), some (.inr (.inr (.inl x1)))] [.inl is0_33] n (fun r n' _ => (SQi n (fun z => (0 ≤ z ∧ z ≤ 1))) r n') := by
    intro is0_33 y33_0
    refine sblk (hv := false) kbl_X2_liesIn kbs_X2_liesIn (pc := 33) (pe := 34) (rk := 3) (i := 2) rfl (by decide +kernel) ?_
    simp only [kb_X2_liesIn_33, s_ire, trg, LR, IR, true_and, and_true, Nat.reduceAdd, Nat.reduceSub, eq_self]
    exact ⟨by omega, fun _ _ _ _ => ⟨_, rfl, rfl, by omega⟩⟩
  have n32 : sT e b M0 d 1033 32 [] [some (.inr (.inr (.inl r))), some (.inr (.inr (.inl x1)))] [] n (fun r n' _ => (SQi n (fun z => (0 ≤ z ∧ z ≤ 1))) r n') := by
    refine sblk (hv := false) kbl_X2_liesIn kbs_X2_liesIn (pc := 32) (pe := 33) (rk := 3) (i := 1) rfl (by decide +kernel) ?_
    simp only [kb_X2_liesIn_32, s_ic, s_nil, LR, IR, true_and, and_true, Nat.reduceAdd, Nat.reduceSub, eq_self]
    exact sT_w (n33 _ (by omega))
  refine sblk (hv := false) kbl_X2_liesIn kbs_X2_liesIn (pc := 0) (pe := 32) (rk := 3) (i := 0) rfl (by decide +kernel) ?_
  simp only [kb_X2_liesIn_0, s_ald_0, s_gf_4_0, s_ald_1, s_iv1, tfr_0, tfr_1, tfr_2, tfr_3, tfr_4, s_if_ne, s_gf_4_1, s_ic, s_goto, LR, IR, true_and, and_true, Nat.reduceAdd, Nat.reduceSub, eq_self]
  refine ⟨by assumption, fun x4_ h4_ => ?_⟩
  refine ⟨by assumption, fun x6_ h6_ => ?_⟩
  refine ⟨vok_of (s := 3) (by assumption) rfl, ?_⟩
  refine sc_i (D := 0) (fun d' hd' => k_X1_isBelow (by assumption) (by assumption) hd') (by omega) ?_
  intro x7_ h7_
  try simp only [s_if_ne, s_ald_1, s_gf_4_1, s_ald_0, s_iv1, tfr_0, tfr_1, tfr_2, tfr_3, tfr_4, s_ic, s_goto, LR, IR, true_and, and_true, Nat.reduceAdd, Nat.reduceSub, eq_self]
  refine ⟨by omega, fun h8_ => ?_, fun h8_ => ?_⟩
  · exact sT_w (n32)
  refine ⟨by assumption, fun x10_ h10_ => ?_⟩
  refine ⟨by assumption, fun x12_ h12_ => ?_⟩
  refine ⟨vok_of (s := 3) (by assumption) rfl, ?_⟩
  refine sc_i (D := 0) (fun d' hd' => k_X1_isBelow (by assumption) (by assumption) hd') (by omega) ?_
  intro x13_ h13_
  try simp only [s_if_ne, s_ic, s_goto, LR, IR, true_and, and_true, Nat.reduceAdd, Nat.reduceSub, eq_self]
  refine ⟨by omega, fun h14_ => ?_, fun h14_ => ?_⟩
  · exact sT_w (n32)
  exact sT_w (n33 _ (by omega))
theorem k_X11_isWithin {e : tE} {b : Nat} {d n : Nat} {r : Nat} {x1 : Int} {x2 : Int} (h0 : cl r 13) (h1 : (-2147483648 ≤ x1 ∧ x1 ≤ 2147483647)) (h2 : (-2147483648 ≤ x2 ∧ x2 ≤ 2147483647)) (hd : 4 ≤ d) : sC e b d 3365 [.inr (.inr (.inl r)), .inl x1, .inl x2] n (SQx n (SQi n (fun z => (0 ≤ z ∧ z ≤ 1))) (fun s => s = "java/lang/IndexOutOfBoundsException" ∨ s = "java/util/NoSuchElementException")) := by
  refine sK (fun M h => tst_X11_isWithin h) (fun M0 => ?_)
  refine sblk (hv := false) kbl_X11_isWithin kbs_X11_isWithin (pc := 0) (pe := 26) (rk := 3) (i := 0) rfl (by decide +kernel) ?_
  simp only [kb_X11_isWithin_0, s_ald_0, s_ild_1, s_ild_2, s_iv2, tfr_0, tfr_1, tfr_2, tfr_3, tfr_4, s_gf_13_3, s_iv1, s_ire, trg, LR, IR, true_and, and_true, Nat.reduceAdd, Nat.reduceSub, eq_self]
  refine ⟨vok_of (s := 13) (by assumption) rfl, ?_⟩
  refine sc_xn (D := 3) (fun d' hd' => k_X11_checkPair (by assumption) (by omega) (by omega) hd') (by omega) rfl ?_ (fun s hs _ => Or.inr ⟨s, rfl, rfl, (fun h => h.elim (fun h => Or.inl (h)) (fun h => Or.inr (h))) hs⟩)
  intro h4_
  try simp only [s_ald_0, s_gf_13_3, s_ild_1, s_iv1, tfr_0, tfr_1, tfr_2, tfr_3, tfr_4, s_ild_2, s_ire, trg, LR, IR, true_and, and_true, Nat.reduceAdd, Nat.reduceSub, eq_self]
  refine ⟨by assumption, fun x6_ h6_ => ?_⟩
  refine ⟨vok_of (s := 11) (by assumption) rfl, ?_⟩
  refine sc_r (D := 1) (fun d' hd' => k_X9_box (by assumption) (by omega) hd') (by omega) ?_
  intro x8_ h8_
  try simp only [s_ald_0, s_gf_13_3, s_ild_2, s_iv1, tfr_0, tfr_1, tfr_2, tfr_3, tfr_4, s_ire, trg, LR, IR, true_and, and_true, Nat.reduceAdd, Nat.reduceSub, eq_self]
  refine ⟨by assumption, fun x10_ h10_ => ?_⟩
  refine ⟨vok_of (s := 11) (by assumption) rfl, ?_⟩
  refine sc_r (D := 1) (fun d' hd' => k_X9_box (by assumption) (by omega) hd') (by omega) ?_
  intro x12_ h12_
  try simp only [s_iv1, tfr_0, tfr_1, tfr_2, tfr_3, tfr_4, s_ire, trg, LR, IR, true_and, and_true, Nat.reduceAdd, Nat.reduceSub, eq_self]
  refine ⟨vok_of (s := 4) (by assumption) rfl, ?_⟩
  refine sc_i (D := 1) (fun d' hd' => k_X2_liesIn (by assumption) (by assumption) hd') (by omega) ?_
  intro x13_ h13_
  try simp only [s_ire, trg, LR, IR, true_and, and_true, Nat.reduceAdd, Nat.reduceSub, eq_self]
  exact ⟨by omega, fun _ _ _ _ => Or.inl ⟨_, rfl, rfl, by omega⟩⟩
theorem k_X2_embrace {e : tE} {b : Nat} {d n : Nat} {r : Nat} {x1 : Nat} (h0 : cl r 4) (h1 : cl x1 4) (hb : b < 2 ∨ b = 3) (hd : 1 ≤ d) : sC e b d 1029 [.inr (.inr (.inl r)), .inr (.inr (.inl x1))] n (SQn n (True)) := by
  refine sK (fun M h => tst_X2_embrace h) (fun M0 => ?_)
  have n25 : sT e b M0 d 1029 25 [] [some (.inr (.inr (.inl r))), some (.inr (.inr (.inl x1)))] [] n (fun r n' _ => (SQn n (True)) r n') := by
    have n50 : sT e b M0 d 1029 50 [] [some (.inr (.inr (.inl r))), some (.inr (.inr (.inl x1)))] [] n (fun r n' _ => (SQn n (True)) r n') := by
      refine sblk (hv := false) kbl_X2_embrace kbs_X2_embrace (pc := 50) (pe := 51) (rk := 9) (i := 2) rfl (by decide +kernel) ?_
      simp only [kb_X2_embrace_50, s_re, LR, IR, true_and, and_true, Nat.reduceAdd, Nat.reduceSub, eq_self]
      exact fun _ _ _ _ => ⟨rfl, rfl, by first | trivial | omega⟩
    refine sblk (hv := false) kbl_X2_embrace kbs_X2_embrace (pc := 25) (pe := 50) (rk := 9) (i := 1) rfl (by decide +kernel) ?_
    simp only [kb_X2_embrace_25, s_ald_0, s_gf_4_1, s_ald_1, s_iv1, tfr_0, tfr_1, tfr_2, tfr_3, tfr_4, s_if_eq, s_nil, LR, IR, true_and, and_true, Nat.reduceAdd, Nat.reduceSub, eq_self]
    refine ⟨by assumption, fun x3_ h3_ => ?_⟩
    refine ⟨by assumption, fun x5_ h5_ => ?_⟩
    refine ⟨vok_of (s := 3) (by assumption) rfl, ?_⟩
    refine sc_i (D := 0) (fun d' hd' => k_X1_isBelow (by assumption) (by assumption) hd') (by omega) ?_
    intro x6_ h6_
    try simp only [s_if_eq, s_ald_0, s_gf_4_1, s_ald_1, s_iv1, tfr_0, tfr_1, tfr_2, tfr_3, tfr_4, s_nil, LR, IR, true_and, and_true, Nat.reduceAdd, Nat.reduceSub, eq_self]
    refine ⟨by omega, fun h7_ => ?_, fun h7_ => ?_⟩
    · exact sT_w (n50)
    refine ⟨by assumption, fun x9_ h9_ => ?_⟩
    refine ⟨by assumption, fun x11_ h11_ => ?_⟩
    refine ⟨vok_of (s := 3) (by assumption) rfl, ?_⟩
    refine sc_n (D := 0) (fun d' hd' => k_X1_copy (by assumption) (by assumption) (by omega) hd') (by omega) ?_
    intro h12_
    try simp only [s_nil, LR, IR, true_and, and_true, Nat.reduceAdd, Nat.reduceSub, eq_self]
    exact sT_w (n50)
  refine sblk (hv := false) kbl_X2_embrace kbs_X2_embrace (pc := 0) (pe := 25) (rk := 9) (i := 0) rfl (by decide +kernel) ?_
  simp only [kb_X2_embrace_0, s_ald_1, s_gf_4_0, s_ald_0, s_iv1, tfr_0, tfr_1, tfr_2, tfr_3, tfr_4, s_if_eq, s_nil, LR, IR, true_and, and_true, Nat.reduceAdd, Nat.reduceSub, eq_self]
  refine ⟨by assumption, fun x14_ h14_ => ?_⟩
  refine ⟨by assumption, fun x16_ h16_ => ?_⟩
  refine ⟨vok_of (s := 3) (by assumption) rfl, ?_⟩
  refine sc_i (D := 0) (fun d' hd' => k_X1_isBelow (by assumption) (by assumption) hd') (by omega) ?_
  intro x17_ h17_
  try simp only [s_if_eq, s_ald_0, s_gf_4_0, s_ald_1, s_iv1, tfr_0, tfr_1, tfr_2, tfr_3, tfr_4, s_nil, LR, IR, true_and, and_true, Nat.reduceAdd, Nat.reduceSub, eq_self]
  refine ⟨by omega, fun h18_ => ?_, fun h18_ => ?_⟩
  · exact sT_w (n25)
  refine ⟨by assumption, fun x20_ h20_ => ?_⟩
  refine ⟨by assumption, fun x22_ h22_ => ?_⟩
  refine ⟨vok_of (s := 3) (by assumption) rfl, ?_⟩
  refine sc_n (D := 0) (fun d' hd' => k_X1_copy (by assumption) (by assumption) (by omega) hd') (by omega) ?_
  intro h23_
  try simp only [s_nil, LR, IR, true_and, and_true, Nat.reduceAdd, Nat.reduceSub, eq_self]
  exact sT_w (n25)
theorem k_X11_join {e : tE} {b : Nat} {d n : Nat} {r : Nat} {x1 : Int} {x2 : Int} {x3 : Int} (h0 : cl r 13) (h1 : (-2147483648 ≤ x1 ∧ x1 ≤ 2147483647)) (h2 : (-2147483648 ≤ x2 ∧ x2 ≤ 2147483647)) (h3 : (-2147483648 ≤ x3 ∧ x3 ≤ 2147483647)) (hb : b < 2) (hd : 4 ≤ d) : sC e b d 3366 [.inr (.inr (.inl r)), .inl x1, .inl x2, .inl x3] n (SQx n (SQi n (fun z => (0 ≤ z ∧ z ≤ 1))) (fun s => s = "java/lang/IndexOutOfBoundsException" ∨ s = "java/util/NoSuchElementException")) := by
  refine sK (fun M h => tst_X11_join h) (fun M0 => ?_)
  refine sblk (hv := false) kbl_X11_join kbs_X11_join (pc := 0) (pe := 57) (rk := 3) (i := 0) rfl (by decide +kernel) ?_
  simp only [kb_X11_join_0, s_ald_0, s_ild_1, s_ild_2, s_ild_3, s_iv3, tfr_0, tfr_1, tfr_2, tfr_3, tfr_4, s_iv1, s_gf_13_11, s_gf_13_3, s_iv2, s_ire, trg, LR, IR, true_and, and_true, Nat.reduceAdd, Nat.reduceSub, eq_self]
  refine ⟨vok_of (s := 13) (by assumption) rfl, ?_⟩
  refine sc_xn (D := 1) (fun d' hd' => k_X11_checkShelves (by assumption) (by omega) (by omega) (by omega) hd') (by omega) rfl ?_ (fun s hs _ => Or.inr ⟨s, rfl, rfl, (fun h => Or.inl (h)) hs⟩)
  intro h5_
  try simp only [s_ald_0, s_ild_2, s_iv1, tfr_0, tfr_1, tfr_2, tfr_3, tfr_4, s_ild_3, s_gf_13_11, s_gf_13_3, s_ild_1, s_iv2, s_ire, trg, LR, IR, true_and, and_true, Nat.reduceAdd, Nat.reduceSub, eq_self]
  refine ⟨vok_of (s := 13) (by assumption) rfl, ?_⟩
  refine sc_xn (D := 2) (fun d' hd' => k_X11_checkHeld (by assumption) (by omega) hd') (by omega) rfl ?_ (fun s hs _ => Or.inr ⟨s, rfl, rfl, (fun h => Or.inr (h)) hs⟩)
  intro h8_
  try simp only [s_ald_0, s_ild_3, s_iv1, tfr_0, tfr_1, tfr_2, tfr_3, tfr_4, s_gf_13_11, s_gf_13_3, s_ild_2, s_ild_1, s_iv2, s_ire, trg, LR, IR, true_and, and_true, Nat.reduceAdd, Nat.reduceSub, eq_self]
  refine ⟨vok_of (s := 13) (by assumption) rfl, ?_⟩
  refine sc_xn (D := 2) (fun d' hd' => k_X11_checkHeld (by assumption) (by omega) hd') (by omega) rfl ?_ (fun s hs _ => Or.inr ⟨s, rfl, rfl, (fun h => Or.inr (h)) hs⟩)
  intro h11_
  try simp only [s_ald_0, s_gf_13_11, s_gf_13_3, s_ild_2, s_iv1, tfr_0, tfr_1, tfr_2, tfr_3, tfr_4, s_ild_3, s_ild_1, s_iv2, s_ire, trg, LR, IR, true_and, and_true, Nat.reduceAdd, Nat.reduceSub, eq_self]
  refine ⟨by assumption, fun x13_ h13_ => ?_⟩
  refine ⟨by assumption, fun x15_ h15_ => ?_⟩
  refine ⟨vok_of (s := 11) (by assumption) rfl, ?_⟩
  refine sc_r (D := 1) (fun d' hd' => k_X9_box (by assumption) (by omega) hd') (by omega) ?_
  intro x17_ h17_
  try simp only [s_iv1, tfr_0, tfr_1, tfr_2, tfr_3, tfr_4, s_ald_0, s_gf_13_11, s_gf_13_3, s_ild_3, s_ild_1, s_iv2, s_ire, trg, LR, IR, true_and, and_true, Nat.reduceAdd, Nat.reduceSub, eq_self]
  refine ⟨vok_of (s := 4) (by assumption) rfl, ?_⟩
  refine sc_n (D := 1) (fun d' hd' => k_X2_copy (by assumption) (by assumption) (by omega) hd') (by omega) ?_
  intro h18_
  try simp only [s_ald_0, s_gf_13_11, s_gf_13_3, s_ild_3, s_iv1, tfr_0, tfr_1, tfr_2, tfr_3, tfr_4, s_ild_1, s_iv2, s_ire, trg, LR, IR, true_and, and_true, Nat.reduceAdd, Nat.reduceSub, eq_self]
  refine ⟨by assumption, fun x20_ h20_ => ?_⟩
  refine ⟨by assumption, fun x22_ h22_ => ?_⟩
  refine ⟨vok_of (s := 11) (by assumption) rfl, ?_⟩
  refine sc_r (D := 1) (fun d' hd' => k_X9_box (by assumption) (by omega) hd') (by omega) ?_
  intro x24_ h24_
  try simp only [s_iv1, tfr_0, tfr_1, tfr_2, tfr_3, tfr_4, s_ald_0, s_ild_1, s_gf_13_11, s_iv2, s_ire, trg, LR, IR, true_and, and_true, Nat.reduceAdd, Nat.reduceSub, eq_self]
  refine ⟨vok_of (s := 4) (by assumption) rfl, ?_⟩
  refine sc_n (D := 1) (fun d' hd' => k_X2_embrace (by assumption) (by assumption) (by omega) hd') (by omega) ?_
  intro h25_
  try simp only [s_ald_0, s_ild_1, s_gf_13_11, s_iv2, tfr_0, tfr_1, tfr_2, tfr_3, tfr_4, s_ire, trg, LR, IR, true_and, and_true, Nat.reduceAdd, Nat.reduceSub, eq_self]
  refine ⟨by assumption, fun x29_ h29_ => ?_⟩
  refine ⟨vok_of (s := 13) (by assumption) rfl, ?_⟩
  refine sc_i (D := 3) (fun d' hd' => k_X11_fill (by assumption) (by omega) (by assumption) (by omega) hd') (by omega) ?_
  intro x30_ h30_
  try simp only [s_ire, trg, LR, IR, true_and, and_true, Nat.reduceAdd, Nat.reduceSub, eq_self]
  exact ⟨by omega, fun _ _ _ _ => Or.inl ⟨_, rfl, rfl, by omega⟩⟩
theorem k_X5_leftOf {e : tE} {b : Nat} {d n : Nat} {r : Nat} {x1 : Int} (h0 : cl r 7) (h1 : (-65536 ≤ x1 ∧ x1 ≤ 2147483647)) (hd : 2 ≤ d) : sC e b d 1801 [.inr (.inr (.inl r)), .inl x1] n (SQi n (fun z => (-65537 ≤ z ∧ z ≤ 2147483646))) := by
  refine sK (fun M h => tst_X5_leftOf h) (fun M0 => ?_)
  have n26 : ∀ (is0_26 : Int), (-65536 ≤ x1 ∧ x1 ≤ 2147483647) → (-65537 ≤ is0_26 ∧ is0_26 ≤ 2147483646) → sT e b M0 d 1801 26 [] [some (.inr (.inr (.inl r))), some (.inl x1)] [.inl is0_26] n (fun r n' _ => (SQi n (fun z => (-65537 ≤ z ∧ z ≤ 2147483646))) r n') := by
    intro is0_26 y26_0 y26_1
    refine sblk (hv := false) kbl_X5_leftOf kbs_X5_leftOf (pc := 26) (pe := 27) (rk := 0) (i := 2) rfl (by decide +kernel) ?_
    simp only [kb_X5_leftOf_26, s_ire, trg, LR, IR, true_and, and_true, Nat.reduceAdd, Nat.reduceSub, eq_self]
    exact fun _ _ _ _ => ⟨_, rfl, rfl, by omega⟩
  refine sblk (hv := false) kbl_X5_leftOf kbs_X5_leftOf (pc := 0) (pe := 23) (rk := 0) (i := 0) rfl (by decide +kernel) ?_
  simp only [kb_X5_leftOf_0, s_ald_0, s_ild_1, s_iv1, tfr_0, tfr_1, tfr_2, tfr_3, tfr_4, s_is1, s_if_eq, s_ic, s_isub, s_goto, LR, IR, true_and, and_true, Nat.reduceAdd, Nat.reduceSub, eq_self]
  refine ⟨vok_of (s := 7) (by assumption) rfl, ?_⟩
  refine sc_i (D := 1) (fun d' hd' => k_X5_actAt (by assumption) (by omega) hd') (by omega) ?_
  intro x4_ h4_
  try simp only [s_is1, tfr_0, tfr_1, tfr_2, tfr_3, tfr_4, s_if_eq, s_ald_0, s_ild_1, s_ic, s_isub, s_iv1, s_goto, LR, IR, true_and, and_true, Nat.reduceAdd, Nat.reduceSub, eq_self]
  refine sc_i (D := 0) (fun d' hd' => k_X5_isPair (by omega) hd') (by omega) ?_
  intro x5_ h5_
  try simp only [s_if_eq, s_ald_0, s_ild_1, s_ic, s_isub, s_iv1, tfr_0, tfr_1, tfr_2, tfr_3, tfr_4, s_goto, LR, IR, true_and, and_true, Nat.reduceAdd, Nat.reduceSub, eq_self]
  refine ⟨by omega, fun h6_ => ?_, fun h6_ => ?_⟩
  · refine sT_w ?_
    refine sblk (hv := false) kbl_X5_leftOf kbs_X5_leftOf (pc := 23) (pe := 26) (rk := 0) (i := 1) rfl (by decide +kernel) ?_
    simp only [kb_X5_leftOf_23, s_ild_1, s_ic, s_isub, s_nil, LR, IR, true_and, and_true, Nat.reduceAdd, Nat.reduceSub, eq_self]
    exact sT_w (n26 _ (by omega) (by omega))
  refine ⟨vok_of (s := 7) (by assumption) rfl, ?_⟩
  refine sc_i (D := 1) (fun d' hd' => k_X5_startOf (by assumption) (by omega) hd') (by omega) ?_
  intro x14_ h14_
  try simp only [s_ic, s_isub, s_goto, LR, IR, true_and, and_true, Nat.reduceAdd, Nat.reduceSub, eq_self]
  exact sT_w (n26 _ (by omega) (by omega))
theorem k_X6_actOf {e : tE} {b : Nat} {d n : Nat} {x1 : Int} (h0 : (0 ≤ x1 ∧ x1 ≤ 65535)) (hd : 0 ≤ d) : sC e b d 2049 [.inl x1] n (SQi n (fun z => (0 ≤ z ∧ z ≤ 65535) ∧ (z = 114 → x1 = 114))) := by
  refine sK (fun M h => tst_X6_actOf h) (fun M0 => ?_)
  have n18 : (48 ≤ x1 ∧ x1 ≤ 110) → sT e b M0 d 2049 18 [] [some (.inl x1)] [] n (fun r n' _ => (SQi n (fun z => (0 ≤ z ∧ z ≤ 65535) ∧ (z = 114 → x1 = 114))) r n') := by
    intro  y18_0
    refine sblk (hv := false) kbl_X6_actOf kbs_X6_actOf (pc := 18) (pe := 21) (rk := 4) (i := 1) rfl (by decide +kernel) ?_
    simp only [kb_X6_actOf_18, s_bi, s_ire, trg, LR, IR, true_and, and_true, Nat.reduceAdd, Nat.reduceSub, eq_self]
    exact ⟨by omega, fun _ _ _ _ => ⟨_, rfl, rfl, by omega⟩⟩
  have n21 : (0 ≤ x1 ∧ x1 ≤ 65535) → sT e b M0 d 2049 21 [] [some (.inl x1)] [] n (fun r n' _ => (SQi n (fun z => (0 ≤ z ∧ z ≤ 65535) ∧ (z = 114 → x1 = 114))) r n') := by
    intro  y21_0
    have n33 : ∀ (is0_33 : Int), (0 ≤ is0_33 ∧ is0_33 ≤ 65535) → (is0_33 = 114 → x1 = 114) → sT e b M0 d 2049 33 [] [some (.inl x1)] [.inl is0_33] n (fun r n' _ => (SQi n (fun z => (0 ≤ z ∧ z ≤ 65535) ∧ (z = 114 → x1 = 114))) r n') := by
      intro is0_33 y33_0 y33_1
      refine sblk (hv := false) kbl_X6_actOf kbs_X6_actOf (pc := 33) (pe := 34) (rk := 4) (i := 4) rfl (by decide +kernel) ?_
      simp only [kb_X6_actOf_33, s_ire, trg, LR, IR, true_and, and_true, Nat.reduceAdd, Nat.reduceSub, eq_self]
      exact ⟨by omega, fun _ _ _ _ => ⟨_, rfl, rfl, by omega⟩⟩
    refine sblk (hv := false) kbl_X6_actOf kbs_X6_actOf (pc := 21) (pe := 32) (rk := 4) (i := 2) rfl (by decide +kernel) ?_
    simp only [kb_X6_actOf_21, s_ild_0, s_bi, s_ic_ne, s_goto, LR, IR, true_and, and_true, Nat.reduceAdd, Nat.reduceSub, eq_self]
    refine ⟨by omega, fun h6_ => ?_, fun h6_ => ?_⟩
    · refine sT_w ?_
      refine sblk (hv := false) kbl_X6_actOf kbs_X6_actOf (pc := 32) (pe := 33) (rk := 4) (i := 3) rfl (by decide +kernel) ?_
      simp only [kb_X6_actOf_32, s_ild_0, s_nil, LR, IR, true_and, and_true, Nat.reduceAdd, Nat.reduceSub, eq_self]
      exact sT_w (n33 _ (by omega) (by omega))
    exact sT_w (n33 _ (by omega) (by omega))
  refine sblk (hv := false) kbl_X6_actOf kbs_X6_actOf (pc := 0) (pe := 18) (rk := 4) (i := 0) rfl (by decide +kernel) ?_
  simp only [kb_X6_actOf_0, s_ild_0, s_bi, s_ic_eq, s_ic_lt, s_ic_gt, s_nil, LR, IR, true_and, and_true, Nat.reduceAdd, Nat.reduceSub, eq_self]
  refine ⟨by omega, fun h12_ => ?_, fun h12_ => ?_⟩
  · exact sT_w (n18 (by omega))
  refine ⟨by omega, fun h15_ => ?_, fun h15_ => ?_⟩
  · exact sT_w (n21 (by omega))
  refine ⟨by omega, fun h18_ => ?_, fun h18_ => ?_⟩
  · exact sT_w (n21 (by omega))
  exact sT_w (n18 (by omega))
theorem k_X6_byOf {e : tE} {b : Nat} {d n : Nat} {x1 : Int} {x2 : Int} (h0 : (0 ≤ x1 ∧ x1 ≤ 65535)) (h1 : (-65536 ≤ x2 ∧ x2 ≤ 2147483647)) (hd : 0 ≤ d) : sC e b d 2052 [.inl x1, .inl x2] n (SQi n (fun z => (-2147483648 ≤ z ∧ z ≤ 2147483647) ∧ (x1 = 114 → z = 2))) := by
  refine sK (fun M h => tst_X6_byOf h) (fun M0 => ?_)
  have n40 : (113 ≤ x1 ∧ x1 ≤ 114) → (-65536 ≤ x2 ∧ x2 ≤ 2147483647) → sT e b M0 d 2052 40 [] [some (.inl x1), some (.inl x2)] [] n (fun r n' _ => (SQi n (fun z => (-2147483648 ≤ z ∧ z ≤ 2147483647) ∧ (x1 = 114 → z = 2))) r n') := by
    intro  y40_0 y40_1
    refine sblk (hv := false) kbl_X6_byOf kbs_X6_byOf (pc := 40) (pe := 42) (rk := 0) (i := 2) rfl (by decide +kernel) ?_
    simp only [kb_X6_byOf_40, s_ic, s_ire, trg, LR, IR, true_and, and_true, Nat.reduceAdd, Nat.reduceSub, eq_self]
    exact fun _ _ _ _ => ⟨_, rfl, rfl, by omega⟩
  refine sblk (hv := false) kbl_X6_byOf kbs_X6_byOf (pc := 0) (pe := 36) (rk := 0) (i := 0) rfl (by decide +kernel) ?_
  simp only [kb_X6_byOf_0, s_ild_0, s_sw, tsw, LR, IR, true_and, and_true, Nat.reduceAdd, Nat.reduceSub, eq_self]
  refine ⟨by omega, ?_⟩
  refine ⟨fun h4_ => ?_, fun h4_ => ?_⟩
  · refine sT_w ?_
    refine sblk (hv := false) kbl_X6_byOf kbs_X6_byOf (pc := 36) (pe := 40) (rk := 0) (i := 1) rfl (by decide +kernel) ?_
    simp only [kb_X6_byOf_36, s_ild_1, s_ic, s_isub, s_ire, trg, LR, IR, true_and, and_true, Nat.reduceAdd, Nat.reduceSub, eq_self]
    exact fun _ _ _ _ => ⟨_, rfl, rfl, by omega⟩
  refine ⟨fun h9_ => ?_, fun h9_ => ?_⟩
  · exact sT_w (n40 (by omega) (by omega))
  refine ⟨fun h10_ => ?_, fun h10_ => ?_⟩
  · exact sT_w (n40 (by omega) (by omega))
  refine sT_w ?_
  refine sblk (hv := false) kbl_X6_byOf kbs_X6_byOf (pc := 42) (pe := 44) (rk := 0) (i := 3) rfl (by decide +kernel) ?_
  simp only [kb_X6_byOf_42, s_ic, s_ire, trg, LR, IR, true_and, and_true, Nat.reduceAdd, Nat.reduceSub, eq_self]
  exact fun _ _ _ _ => ⟨_, rfl, rfl, by omega⟩
theorem k_X6_numberOf {e : tE} {b : Nat} {d n : Nat} {x1 : Int} {x2 : Int} (h0 : (0 ≤ x1 ∧ x1 ≤ 65535)) (h1 : (-65536 ≤ x2 ∧ x2 ≤ 2147483647)) (hd : 0 ≤ d) : sC e b d 2060 [.inl x1, .inl x2] n (SQl n (fun z => (-9223372036854775808 ≤ z ∧ z < 9223372036854775808))) := by
  refine sK (fun M h => tst_X6_numberOf h) (fun M0 => ?_)
  have n16 : ∀ (ls0_16 : Int), (0 ≤ x1 ∧ x1 ≤ 65535) → (-65536 ≤ x2 ∧ x2 ≤ 2147483647) → (-9223372036854775808 ≤ ls0_16 ∧ ls0_16 < 9223372036854775808) → sT e b M0 d 2060 16 [] [some (.inl x1), some (.inl x2)] [.inr (.inl ls0_16)] n (fun r n' _ => (SQl n (fun z => (-9223372036854775808 ≤ z ∧ z < 9223372036854775808))) r n') := by
    intro ls0_16 y16_0 y16_1 y16_2
    refine sblk (hv := false) kbl_X6_numberOf kbs_X6_numberOf (pc := 16) (pe := 17) (rk := 1) (i := 2) rfl (by decide +kernel) ?_
    simp only [kb_X6_numberOf_16, s_lre, LR, IR, true_and, and_true, Nat.reduceAdd, Nat.reduceSub, eq_self]
    exact fun _ _ _ _ => ⟨_, rfl, rfl, by omega⟩
  refine sblk (hv := false) kbl_X6_numberOf kbs_X6_numberOf (pc := 0) (pe := 11) (rk := 1) (i := 0) rfl (by decide +kernel) ?_
  simp only [kb_X6_numberOf_0, s_ild_0, s_bi, s_ic_ne, s_ild_1, s_i2l, s_goto, LR, IR, true_and, and_true, Nat.reduceAdd, Nat.reduceSub, eq_self]
  refine ⟨by omega, fun h4_ => ?_, fun h4_ => ?_⟩
  · refine sT_w ?_
    refine sblk (hv := false) kbl_X6_numberOf kbs_X6_numberOf (pc := 11) (pe := 16) (rk := 1) (i := 1) rfl (by decide +kernel) ?_
    simp only [kb_X6_numberOf_11, s_ild_0, s_bi, s_isub, s_i2l, s_nil, LR, IR, true_and, and_true, Nat.reduceAdd, Nat.reduceSub, eq_self]
    refine ⟨by omega, ?_⟩
    exact sT_w (n16 _ (by omega) (by omega) (by omega))
  refine ⟨by omega, ?_⟩
  exact sT_w (n16 _ (by omega) (by omega) (by omega))
theorem k_X11_kindByEnds {e : tE} {b : Nat} {d n : Nat} {x1 : Nat} {x2 : Nat} (h0 : cl x1 4) (h1 : cl x2 4) (hd : 1 ≤ d) : sC e b d 3368 [.inr (.inr (.inl x1)), .inr (.inr (.inl x2))] n (SQi n (fun z => (32 ≤ z ∧ z ≤ 63))) := by
  refine sK (fun M h => tst_X11_kindByEnds h) (fun M0 => ?_)
  have n25 : ∀ (w2_25 : Option tV) (w3_25 : Option tV) (w4_25 : Option tV) (w5_25 : Option tV) (is0_25 : Int), (0 ≤ is0_25 ∧ is0_25 ≤ 1) → sT e b M0 d 3368 25 [] [some (.inr (.inr (.inl x1))), some (.inr (.inr (.inl x2))), w2_25, w3_25, w4_25, w5_25] [.inl is0_25] n (fun r n' _ => (SQi n (fun z => (32 ≤ z ∧ z ≤ 63))) r n') := by
    intro w2_25 w3_25 w4_25 w5_25 is0_25 y25_0
    have n51 : ∀ (i2_51 : Int) (w3_51 : Option tV) (w4_51 : Option tV) (w5_51 : Option tV) (is0_51 : Int), (0 ≤ i2_51 ∧ i2_51 ≤ 1) → (0 ≤ is0_51 ∧ is0_51 ≤ 1) → sT e b M0 d 3368 51 [] [some (.inr (.inr (.inl x1))), some (.inr (.inr (.inl x2))), some (.inl i2_51), w3_51, w4_51, w5_51] [.inl is0_51] n (fun r n' _ => (SQi n (fun z => (32 ≤ z ∧ z ≤ 63))) r n') := by
      intro i2_51 w3_51 w4_51 w5_51 is0_51 y51_0 y51_1
      have n60 : ∀ (i3_60 : Int) (w4_60 : Option tV) (w5_60 : Option tV), (0 ≤ i3_60 ∧ i3_60 ≤ 1) → sT e b M0 d 3368 60 [] [some (.inr (.inr (.inl x1))), some (.inr (.inr (.inl x2))), some (.inl i2_51), some (.inl i3_60), w4_60, w5_60] [] n (fun r n' _ => (SQi n (fun z => (32 ≤ z ∧ z ≤ 63))) r n') := by
        intro i3_60 w4_60 w5_60 y60_0
        refine sblk (hv := false) kbl_X11_kindByEnds kbs_X11_kindByEnds (pc := 60) (pe := 63) (rk := 4) (i := 5) rfl (by decide +kernel) ?_
        simp only [kb_X11_kindByEnds_60, s_bi, s_ire, trg, LR, IR, true_and, and_true, Nat.reduceAdd, Nat.reduceSub, eq_self]
        exact ⟨by omega, fun _ _ _ _ => ⟨_, rfl, rfl, by omega⟩⟩
      refine sblk (hv := false) kbl_X11_kindByEnds kbs_X11_kindByEnds (pc := 51) (pe := 60) (rk := 4) (i := 4) rfl (by decide +kernel) ?_
      simp only [kb_X11_kindByEnds_51, s_ist_3, tkl_n, tkl_i, tkl_l, tkl_r, s_ild_2, s_if_ne, s_ild_3, s_if_eq, s_nil, LR, IR, true_and, and_true, Nat.reduceAdd, Nat.reduceSub, eq_self]
      refine ⟨by omega, fun h5_ => ?_, fun h5_ => ?_⟩
      · exact sT_w (n60 _ _ _ (by omega))
      refine ⟨by omega, fun h7_ => ?_, fun h7_ => ?_⟩
      · have n88 : ∀ (i3_88 : Int) (w4_88 : Option tV) (w5_88 : Option tV) (is0_88 : Int), (0 ≤ i2_51 ∧ i2_51 ≤ 0) → (0 ≤ i3_88 ∧ i3_88 ≤ 0) → (0 ≤ is0_88 ∧ is0_88 ≤ 1) → sT e b M0 d 3368 88 [] [some (.inr (.inr (.inl x1))), some (.inr (.inr (.inl x2))), some (.inl i2_51), some (.inl i3_88), w4_88, w5_88] [.inl is0_88] n (fun r n' _ => (SQi n (fun z => (32 ≤ z ∧ z ≤ 63))) r n') := by
          intro i3_88 w4_88 w5_88 is0_88 y88_0 y88_1 y88_2
          have n115 : ∀ (i4_115 : Int) (w5_115 : Option tV) (is0_115 : Int), (0 ≤ i4_115 ∧ i4_115 ≤ 1) → (0 ≤ is0_115 ∧ is0_115 ≤ 1) → sT e b M0 d 3368 115 [] [some (.inr (.inr (.inl x1))), some (.inr (.inr (.inl x2))), some (.inl i2_51), some (.inl i3_88), some (.inl i4_115), w5_115] [.inl is0_115] n (fun r n' _ => (SQi n (fun z => (32 ≤ z ∧ z ≤ 63))) r n') := by
            intro i4_115 w5_115 is0_115 y115_0 y115_1
            have n134 : ∀ (i5_134 : Int) (is0_134 : Int), (0 ≤ i5_134 ∧ i5_134 ≤ 1) → (49 ≤ is0_134 ∧ is0_134 ≤ 63) → sT e b M0 d 3368 134 [] [some (.inr (.inr (.inl x1))), some (.inr (.inr (.inl x2))), some (.inl i2_51), some (.inl i3_88), some (.inl i4_115), some (.inl i5_134)] [.inl is0_134] n (fun r n' _ => (SQi n (fun z => (32 ≤ z ∧ z ≤ 63))) r n') := by
              intro i5_134 is0_134 y134_0 y134_1
              refine sblk (hv := false) kbl_X11_kindByEnds kbs_X11_kindByEnds (pc := 134) (pe := 135) (rk := 4) (i := 13) rfl (by decide +kernel) ?_
              simp only [kb_X11_kindByEnds_134, s_ire, trg, LR, IR, true_and, and_true, Nat.reduceAdd, Nat.reduceSub, eq_self]
              exact ⟨by omega, fun _ _ _ _ => ⟨_, rfl, rfl, by omega⟩⟩
            have n127 : ∀ (i5_127 : Int), (0 ≤ i5_127 ∧ i5_127 ≤ 1) → sT e b M0 d 3368 127 [] [some (.inr (.inr (.inl x1))), some (.inr (.inr (.inl x2))), some (.inl i2_51), some (.inl i3_88), some (.inl i4_115), some (.inl i5_127)] [] n (fun r n' _ => (SQi n (fun z => (32 ≤ z ∧ z ≤ 63))) r n') := by
              intro i5_127 y127_0
              refine sblk (hv := false) kbl_X11_kindByEnds kbs_X11_kindByEnds (pc := 127) (pe := 132) (rk := 4) (i := 11) rfl (by decide +kernel) ?_
              simp only [kb_X11_kindByEnds_127, s_bi, s_goto, LR, IR, true_and, and_true, Nat.reduceAdd, Nat.reduceSub, eq_self]
              exact sT_w (n134 _ _ (by omega) (by omega))
            refine sblk (hv := false) kbl_X11_kindByEnds kbs_X11_kindByEnds (pc := 115) (pe := 127) (rk := 4) (i := 10) rfl (by decide +kernel) ?_
            simp only [kb_X11_kindByEnds_115, s_ist5, tkl_n, tkl_i, tkl_l, tkl_r, s_ild4, s_if_ne, s_ild5, s_if_eq, s_nil, LR, IR, true_and, and_true, Nat.reduceAdd, Nat.reduceSub, eq_self]
            refine ⟨by omega, fun h13_ => ?_, fun h13_ => ?_⟩
            · exact sT_w (n127 _ (by omega))
            refine ⟨by omega, fun h15_ => ?_, fun h15_ => ?_⟩
            · refine sT_w ?_
              refine sblk (hv := false) kbl_X11_kindByEnds kbs_X11_kindByEnds (pc := 132) (pe := 134) (rk := 4) (i := 12) rfl (by decide +kernel) ?_
              simp only [kb_X11_kindByEnds_132, s_bi, s_nil, LR, IR, true_and, and_true, Nat.reduceAdd, Nat.reduceSub, eq_self]
              exact sT_w (n134 _ _ (by omega) (by omega))
            exact sT_w (n127 _ (by omega))
          have n114 : ∀ (i4_114 : Int) (w5_114 : Option tV), (0 ≤ i4_114 ∧ i4_114 ≤ 1) → sT e b M0 d 3368 114 [] [some (.inr (.inr (.inl x1))), some (.inr (.inr (.inl x2))), some (.inl i2_51), some (.inl i3_88), some (.inl i4_114), w5_114] [] n (fun r n' _ => (SQi n (fun z => (32 ≤ z ∧ z ≤ 63))) r n') := by
            intro i4_114 w5_114 y114_0
            refine sblk (hv := false) kbl_X11_kindByEnds kbs_X11_kindByEnds (pc := 114) (pe := 115) (rk := 4) (i := 9) rfl (by decide +kernel) ?_
            simp only [kb_X11_kindByEnds_114, s_ic, s_nil, LR, IR, true_and, and_true, Nat.reduceAdd, Nat.reduceSub, eq_self]
            exact sT_w (n115 _ _ _ (by omega) (by omega))
          refine sblk (hv := false) kbl_X11_kindByEnds kbs_X11_kindByEnds (pc := 88) (pe := 114) (rk := 4) (i := 8) rfl (by decide +kernel) ?_
          simp only [kb_X11_kindByEnds_88, s_ist4, tkl_n, tkl_i, tkl_l, tkl_r, s_ald_1, s_gf_4_1, s_iv0, tfr_0, tfr_1, tfr_2, tfr_3, tfr_4, s_if_ne, s_ald_0, s_gf_4_0, s_ic, s_goto, LR, IR, true_and, and_true, Nat.reduceAdd, Nat.reduceSub, eq_self]
          refine ⟨by assumption, fun x20_ h20_ => ?_⟩
          refine ⟨vok_of (s := 3) (by assumption) rfl, ?_⟩
          refine sc_i (D := 0) (fun d' hd' => k_X1_isPositive (by assumption) hd') (by omega) ?_
          intro x21_ h21_
          try simp only [s_if_ne, s_ald_0, s_gf_4_0, s_iv0, tfr_0, tfr_1, tfr_2, tfr_3, tfr_4, s_ic, s_goto, LR, IR, true_and, and_true, Nat.reduceAdd, Nat.reduceSub, eq_self]
          refine ⟨by omega, fun h22_ => ?_, fun h22_ => ?_⟩
          · exact sT_w (n114 _ _ (by omega))
          refine ⟨by assumption, fun x24_ h24_ => ?_⟩
          refine ⟨vok_of (s := 3) (by assumption) rfl, ?_⟩
          refine sc_i (D := 0) (fun d' hd' => k_X1_isNegative (by assumption) hd') (by omega) ?_
          intro x25_ h25_
          try simp only [s_if_ne, s_ic, s_goto, LR, IR, true_and, and_true, Nat.reduceAdd, Nat.reduceSub, eq_self]
          refine ⟨by omega, fun h26_ => ?_, fun h26_ => ?_⟩
          · exact sT_w (n114 _ _ (by omega))
          exact sT_w (n115 _ _ _ (by omega) (by omega))
        have n87 : ∀ (i3_87 : Int) (w4_87 : Option tV) (w5_87 : Option tV), (0 ≤ i2_51 ∧ i2_51 ≤ 0) → (0 ≤ i3_87 ∧ i3_87 ≤ 0) → sT e b M0 d 3368 87 [] [some (.inr (.inr (.inl x1))), some (.inr (.inr (.inl x2))), some (.inl i2_51), some (.inl i3_87), w4_87, w5_87] [] n (fun r n' _ => (SQi n (fun z => (32 ≤ z ∧ z ≤ 63))) r n') := by
          intro i3_87 w4_87 w5_87 y87_0 y87_1
          refine sblk (hv := false) kbl_X11_kindByEnds kbs_X11_kindByEnds (pc := 87) (pe := 88) (rk := 4) (i := 7) rfl (by decide +kernel) ?_
          simp only [kb_X11_kindByEnds_87, s_ic, s_nil, LR, IR, true_and, and_true, Nat.reduceAdd, Nat.reduceSub, eq_self]
          exact sT_w (n88 _ _ _ _ (by omega) (by omega) (by omega))
        refine sT_w ?_
        refine sblk (hv := false) kbl_X11_kindByEnds kbs_X11_kindByEnds (pc := 63) (pe := 87) (rk := 4) (i := 6) rfl (by decide +kernel) ?_
        simp only [kb_X11_kindByEnds_63, s_ald_0, s_gf_4_1, s_iv0, tfr_0, tfr_1, tfr_2, tfr_3, tfr_4, s_if_ne, s_ald_1, s_gf_4_0, s_ic, s_goto, LR, IR, true_and, and_true, Nat.reduceAdd, Nat.reduceSub, eq_self]
        refine ⟨by assumption, fun x31_ h31_ => ?_⟩
        refine ⟨vok_of (s := 3) (by assumption) rfl, ?_⟩
        refine sc_i (D := 0) (fun d' hd' => k_X1_isPositive (by assumption) hd') (by omega) ?_
        intro x32_ h32_
        try simp only [s_if_ne, s_ald_1, s_gf_4_0, s_iv0, tfr_0, tfr_1, tfr_2, tfr_3, tfr_4, s_ic, s_goto, LR, IR, true_and, and_true, Nat.reduceAdd, Nat.reduceSub, eq_self]
        refine ⟨by omega, fun h33_ => ?_, fun h33_ => ?_⟩
        · exact sT_w (n87 _ _ _ (by omega) (by omega))
        refine ⟨by assumption, fun x35_ h35_ => ?_⟩
        refine ⟨vok_of (s := 3) (by assumption) rfl, ?_⟩
        refine sc_i (D := 0) (fun d' hd' => k_X1_isNegative (by assumption) hd') (by omega) ?_
        intro x36_ h36_
        try simp only [s_if_ne, s_ic, s_goto, LR, IR, true_and, and_true, Nat.reduceAdd, Nat.reduceSub, eq_self]
        refine ⟨by omega, fun h37_ => ?_, fun h37_ => ?_⟩
        · exact sT_w (n87 _ _ _ (by omega) (by omega))
        exact sT_w (n88 _ _ _ _ (by omega) (by omega) (by omega))
      exact sT_w (n60 _ _ _ (by omega))
    have n50 : ∀ (i2_50 : Int) (w3_50 : Option tV) (w4_50 : Option tV) (w5_50 : Option tV), (0 ≤ i2_50 ∧ i2_50 ≤ 1) → sT e b M0 d 3368 50 [] [some (.inr (.inr (.inl x1))), some (.inr (.inr (.inl x2))), some (.inl i2_50), w3_50, w4_50, w5_50] [] n (fun r n' _ => (SQi n (fun z => (32 ≤ z ∧ z ≤ 63))) r n') := by
      intro i2_50 w3_50 w4_50 w5_50 y50_0
      refine sblk (hv := false) kbl_X11_kindByEnds kbs_X11_kindByEnds (pc := 50) (pe := 51) (rk := 4) (i := 3) rfl (by decide +kernel) ?_
      simp only [kb_X11_kindByEnds_50, s_ic, s_nil, LR, IR, true_and, and_true, Nat.reduceAdd, Nat.reduceSub, eq_self]
      exact sT_w (n51 _ _ _ _ _ (by omega) (by omega))
    refine sblk (hv := false) kbl_X11_kindByEnds kbs_X11_kindByEnds (pc := 25) (pe := 50) (rk := 4) (i := 2) rfl (by decide +kernel) ?_
    simp only [kb_X11_kindByEnds_25, s_ist_2, tkl_n, tkl_i, tkl_l, tkl_r, s_ald_0, s_gf_4_1, s_iv0, tfr_0, tfr_1, tfr_2, tfr_3, tfr_4, s_if_eq, s_ald_1, s_ic, s_goto, LR, IR, true_and, and_true, Nat.reduceAdd, Nat.reduceSub, eq_self]
    refine ⟨by assumption, fun x43_ h43_ => ?_⟩
    refine ⟨vok_of (s := 3) (by assumption) rfl, ?_⟩
    refine sc_i (D := 0) (fun d' hd' => k_X1_isNegative (by assumption) hd') (by omega) ?_
    intro x44_ h44_
    try simp only [s_if_eq, s_ald_1, s_gf_4_1, s_iv0, tfr_0, tfr_1, tfr_2, tfr_3, tfr_4, s_ic, s_goto, LR, IR, true_and, and_true, Nat.reduceAdd, Nat.reduceSub, eq_self]
    refine ⟨by omega, fun h45_ => ?_, fun h45_ => ?_⟩
    · exact sT_w (n50 _ _ _ _ (by omega))
    refine ⟨by assumption, fun x47_ h47_ => ?_⟩
    refine ⟨vok_of (s := 3) (by assumption) rfl, ?_⟩
    refine sc_i (D := 0) (fun d' hd' => k_X1_isNegative (by assumption) hd') (by omega) ?_
    intro x48_ h48_
    try simp only [s_if_eq, s_ic, s_goto, LR, IR, true_and, and_true, Nat.reduceAdd, Nat.reduceSub, eq_self]
    refine ⟨by omega, fun h49_ => ?_, fun h49_ => ?_⟩
    · exact sT_w (n50 _ _ _ _ (by omega))
    exact sT_w (n51 _ _ _ _ _ (by omega) (by omega))
  have n24 : ∀ (w2_24 : Option tV) (w3_24 : Option tV) (w4_24 : Option tV) (w5_24 : Option tV), sT e b M0 d 3368 24 [] [some (.inr (.inr (.inl x1))), some (.inr (.inr (.inl x2))), w2_24, w3_24, w4_24, w5_24] [] n (fun r n' _ => (SQi n (fun z => (32 ≤ z ∧ z ≤ 63))) r n') := by
    intro w2_24 w3_24 w4_24 w5_24 
    refine sblk (hv := false) kbl_X11_kindByEnds kbs_X11_kindByEnds (pc := 24) (pe := 25) (rk := 4) (i := 1) rfl (by decide +kernel) ?_
    simp only [kb_X11_kindByEnds_24, s_ic, s_nil, LR, IR, true_and, and_true, Nat.reduceAdd, Nat.reduceSub, eq_self]
    exact sT_w (n25 _ _ _ _ _ (by omega))
  refine sblk (hv := false) kbl_X11_kindByEnds kbs_X11_kindByEnds (pc := 0) (pe := 24) (rk := 4) (i := 0) rfl (by decide +kernel) ?_
  simp only [kb_X11_kindByEnds_0, s_ald_0, s_gf_4_0, s_iv0, tfr_0, tfr_1, tfr_2, tfr_3, tfr_4, s_if_eq, s_ald_1, s_ic, s_goto, LR, IR, true_and, and_true, Nat.reduceAdd, Nat.reduceSub, eq_self]
  refine ⟨by assumption, fun x54_ h54_ => ?_⟩
  refine ⟨vok_of (s := 3) (by assumption) rfl, ?_⟩
  refine sc_i (D := 0) (fun d' hd' => k_X1_isPositive (by assumption) hd') (by omega) ?_
  intro x55_ h55_
  try simp only [s_if_eq, s_ald_1, s_gf_4_0, s_iv0, tfr_0, tfr_1, tfr_2, tfr_3, tfr_4, s_ic, s_goto, LR, IR, true_and, and_true, Nat.reduceAdd, Nat.reduceSub, eq_self]
  refine ⟨by omega, fun h56_ => ?_, fun h56_ => ?_⟩
  · exact sT_w (n24 _ _ _ _)
  refine ⟨by assumption, fun x58_ h58_ => ?_⟩
  refine ⟨vok_of (s := 3) (by assumption) rfl, ?_⟩
  refine sc_i (D := 0) (fun d' hd' => k_X1_isPositive (by assumption) hd') (by omega) ?_
  intro x59_ h59_
  try simp only [s_if_eq, s_ic, s_goto, LR, IR, true_and, and_true, Nat.reduceAdd, Nat.reduceSub, eq_self]
  refine ⟨by omega, fun h60_ => ?_, fun h60_ => ?_⟩
  · exact sT_w (n24 _ _ _ _)
  exact sT_w (n25 _ _ _ _ _ (by omega))
theorem k_X11_low {e : tE} {b : Nat} {d n : Nat} {r : Nat} {x1 : Int} (h0 : cl r 13) (h1 : (-2147483648 ≤ x1 ∧ x1 ≤ 2147483647)) (hb : b < 2) (hd : 3 ≤ d) : sC e b d 3370 [.inr (.inr (.inl r)), .inl x1] n (SQx n (SQi n (fun z => (0 ≤ z ∧ z ≤ 60))) (fun s => s = "java/lang/IndexOutOfBoundsException" ∨ s = "java/util/NoSuchElementException")) := by
  refine sK (fun M h => tst_X11_low h) (fun M0 => ?_)
  refine sblk (hv := false) kbl_X11_low kbs_X11_low (pc := 0) (pe := 36) (rk := 0) (i := 0) rfl (by decide +kernel) ?_
  simp only [kb_X11_low_0, s_ald_0, s_ild_1, s_iv1, tfr_0, tfr_1, tfr_2, tfr_3, tfr_4, s_gf_13_1, s_gf_13_3, s_gf_4_0, s_gf_12_1, s_ire, trg, LR, IR, true_and, and_true, Nat.reduceAdd, Nat.reduceSub, eq_self]
  refine ⟨vok_of (s := 13) (by assumption) rfl, ?_⟩
  refine sc_xn (D := 0) (fun d' hd' => k_X11_checkShelf (by assumption) (by omega) hd') (by omega) rfl ?_ (fun s hs _ => Or.inr ⟨s, rfl, rfl, (fun h => Or.inl (h)) hs⟩)
  intro h3_
  try simp only [s_ald_0, s_ild_1, s_iv1, tfr_0, tfr_1, tfr_2, tfr_3, tfr_4, s_gf_13_1, s_gf_13_3, s_gf_4_0, s_gf_12_1, s_ire, trg, LR, IR, true_and, and_true, Nat.reduceAdd, Nat.reduceSub, eq_self]
  refine ⟨vok_of (s := 13) (by assumption) rfl, ?_⟩
  refine sc_xn (D := 2) (fun d' hd' => k_X11_checkHeld (by assumption) (by omega) hd') (by omega) rfl ?_ (fun s hs _ => Or.inr ⟨s, rfl, rfl, (fun h => Or.inr (h)) hs⟩)
  intro h6_
  try simp only [s_ald_0, s_gf_13_1, s_gf_13_3, s_ild_1, s_iv1, tfr_0, tfr_1, tfr_2, tfr_3, tfr_4, s_gf_4_0, s_gf_12_1, s_ire, trg, LR, IR, true_and, and_true, Nat.reduceAdd, Nat.reduceSub, eq_self]
  refine ⟨by assumption, fun x8_ h8_ => ?_⟩
  refine ⟨by assumption, fun x10_ h10_ => ?_⟩
  refine ⟨vok_of (s := 11) (by assumption) rfl, ?_⟩
  refine sc_r (D := 1) (fun d' hd' => k_X9_box (by assumption) (by omega) hd') (by omega) ?_
  intro x12_ h12_
  try simp only [s_gf_4_0, s_iv1, tfr_0, tfr_1, tfr_2, tfr_3, tfr_4, s_ald_0, s_gf_13_1, s_gf_12_1, s_ire, trg, LR, IR, true_and, and_true, Nat.reduceAdd, Nat.reduceSub, eq_self]
  refine ⟨by assumption, fun x13_ h13_ => ?_⟩
  refine ⟨vok_of (s := 12) (by assumption) rfl, ?_⟩
  refine sc_n (D := 1) (fun d' hd' => k_X10_write (by assumption) (by assumption) (by omega) hd') (by omega) ?_
  intro h14_
  try simp only [s_ald_0, s_gf_13_1, s_gf_12_1, s_ire, trg, LR, IR, true_and, and_true, Nat.reduceAdd, Nat.reduceSub, eq_self]
  refine ⟨by assumption, fun x16_ h16_ => ?_⟩
  refine ⟨by assumption, fun x17_ h17_ g17_ k17_ => ?_⟩
  clear k17_
  exact fun _ _ _ _ => Or.inl ⟨_, rfl, rfl, by omega⟩
theorem k_X2_cutDownTo {e : tE} {b : Nat} {d n : Nat} {r : Nat} {x1 : Nat} (h0 : cl r 4) (h1 : cl x1 4) (hb : b < 2 ∨ b = 3) (hd : 1 ≤ d) : sC e b d 1027 [.inr (.inr (.inl r)), .inr (.inr (.inl x1))] n (SQi n (fun z => (0 ≤ z ∧ z ≤ 1))) := by
  refine sK (fun M h => tst_X2_cutDownTo h) (fun M0 => ?_)
  have n25 : sT e b M0 d 1027 25 [] [some (.inr (.inr (.inl r))), some (.inr (.inr (.inl x1)))] [] n (fun r n' _ => (SQi n (fun z => (0 ≤ z ∧ z ≤ 1))) r n') := by
    have n50 : sT e b M0 d 1027 50 [] [some (.inr (.inr (.inl r))), some (.inr (.inr (.inl x1)))] [] n (fun r n' _ => (SQi n (fun z => (0 ≤ z ∧ z ≤ 1))) r n') := by
      have n69 : ∀ (is0_69 : Int), (0 ≤ is0_69 ∧ is0_69 ≤ 1) → sT e b M0 d 1027 69 [] [some (.inr (.inr (.inl r))), some (.inr (.inr (.inl x1)))] [.inl is0_69] n (fun r n' _ => (SQi n (fun z => (0 ≤ z ∧ z ≤ 1))) r n') := by
        intro is0_69 y69_0
        refine sblk (hv := false) kbl_X2_cutDownTo kbs_X2_cutDownTo (pc := 69) (pe := 70) (rk := 3) (i := 4) rfl (by decide +kernel) ?_
        simp only [kb_X2_cutDownTo_69, s_ire, trg, LR, IR, true_and, and_true, Nat.reduceAdd, Nat.reduceSub, eq_self]
        exact ⟨by omega, fun _ _ _ _ => ⟨_, rfl, rfl, by omega⟩⟩
      refine sblk (hv := false) kbl_X2_cutDownTo kbs_X2_cutDownTo (pc := 50) (pe := 68) (rk := 3) (i := 2) rfl (by decide +kernel) ?_
      simp only [kb_X2_cutDownTo_50, s_ald_0, s_gf_4_1, s_gf_4_0, s_iv1, tfr_0, tfr_1, tfr_2, tfr_3, tfr_4, s_if_ne, s_ic, s_goto, LR, IR, true_and, and_true, Nat.reduceAdd, Nat.reduceSub, eq_self]
      refine ⟨by assumption, fun x3_ h3_ => ?_⟩
      refine ⟨by assumption, fun x5_ h5_ => ?_⟩
      refine ⟨vok_of (s := 3) (by assumption) rfl, ?_⟩
      refine sc_i (D := 0) (fun d' hd' => k_X1_isBelow (by assumption) (by assumption) hd') (by omega) ?_
      intro x6_ h6_
      try simp only [s_if_ne, s_ic, s_goto, LR, IR, true_and, and_true, Nat.reduceAdd, Nat.reduceSub, eq_self]
      refine ⟨by omega, fun h7_ => ?_, fun h7_ => ?_⟩
      · refine sT_w ?_
        refine sblk (hv := false) kbl_X2_cutDownTo kbs_X2_cutDownTo (pc := 68) (pe := 69) (rk := 3) (i := 3) rfl (by decide +kernel) ?_
        simp only [kb_X2_cutDownTo_68, s_ic, s_nil, LR, IR, true_and, and_true, Nat.reduceAdd, Nat.reduceSub, eq_self]
        exact sT_w (n69 _ (by omega))
      exact sT_w (n69 _ (by omega))
    refine sblk (hv := false) kbl_X2_cutDownTo kbs_X2_cutDownTo (pc := 25) (pe := 50) (rk := 3) (i := 1) rfl (by decide +kernel) ?_
    simp only [kb_X2_cutDownTo_25, s_ald_1, s_gf_4_1, s_ald_0, s_iv1, tfr_0, tfr_1, tfr_2, tfr_3, tfr_4, s_if_eq, s_nil, LR, IR, true_and, and_true, Nat.reduceAdd, Nat.reduceSub, eq_self]
    refine ⟨by assumption, fun x12_ h12_ => ?_⟩
    refine ⟨by assumption, fun x14_ h14_ => ?_⟩
    refine ⟨vok_of (s := 3) (by assumption) rfl, ?_⟩
    refine sc_i (D := 0) (fun d' hd' => k_X1_isBelow (by assumption) (by assumption) hd') (by omega) ?_
    intro x15_ h15_
    try simp only [s_if_eq, s_ald_0, s_gf_4_1, s_ald_1, s_iv1, tfr_0, tfr_1, tfr_2, tfr_3, tfr_4, s_nil, LR, IR, true_and, and_true, Nat.reduceAdd, Nat.reduceSub, eq_self]
    refine ⟨by omega, fun h16_ => ?_, fun h16_ => ?_⟩
    · exact sT_w (n50)
    refine ⟨by assumption, fun x18_ h18_ => ?_⟩
    refine ⟨by assumption, fun x20_ h20_ => ?_⟩
    refine ⟨vok_of (s := 3) (by assumption) rfl, ?_⟩
    refine sc_n (D := 0) (fun d' hd' => k_X1_copy (by assumption) (by assumption) (by omega) hd') (by omega) ?_
    intro h21_
    try simp only [s_nil, LR, IR, true_and, and_true, Nat.reduceAdd, Nat.reduceSub, eq_self]
    exact sT_w (n50)
  refine sblk (hv := false) kbl_X2_cutDownTo kbs_X2_cutDownTo (pc := 0) (pe := 25) (rk := 3) (i := 0) rfl (by decide +kernel) ?_
  simp only [kb_X2_cutDownTo_0, s_ald_0, s_gf_4_0, s_ald_1, s_iv1, tfr_0, tfr_1, tfr_2, tfr_3, tfr_4, s_if_eq, s_nil, LR, IR, true_and, and_true, Nat.reduceAdd, Nat.reduceSub, eq_self]
  refine ⟨by assumption, fun x23_ h23_ => ?_⟩
  refine ⟨by assumption, fun x25_ h25_ => ?_⟩
  refine ⟨vok_of (s := 3) (by assumption) rfl, ?_⟩
  refine sc_i (D := 0) (fun d' hd' => k_X1_isBelow (by assumption) (by assumption) hd') (by omega) ?_
  intro x26_ h26_
  try simp only [s_if_eq, s_ald_0, s_gf_4_0, s_ald_1, s_iv1, tfr_0, tfr_1, tfr_2, tfr_3, tfr_4, s_nil, LR, IR, true_and, and_true, Nat.reduceAdd, Nat.reduceSub, eq_self]
  refine ⟨by omega, fun h27_ => ?_, fun h27_ => ?_⟩
  · exact sT_w (n25)
  refine ⟨by assumption, fun x29_ h29_ => ?_⟩
  refine ⟨by assumption, fun x31_ h31_ => ?_⟩
  refine ⟨vok_of (s := 3) (by assumption) rfl, ?_⟩
  refine sc_n (D := 0) (fun d' hd' => k_X1_copy (by assumption) (by assumption) (by omega) hd') (by omega) ?_
  intro h32_
  try simp only [s_nil, LR, IR, true_and, and_true, Nat.reduceAdd, Nat.reduceSub, eq_self]
  exact sT_w (n25)
theorem k_X11_meet {e : tE} {b : Nat} {d n : Nat} {r : Nat} {x1 : Int} {x2 : Int} {x3 : Int} (h0 : cl r 13) (h1 : (-2147483648 ≤ x1 ∧ x1 ≤ 2147483647)) (h2 : (-2147483648 ≤ x2 ∧ x2 ≤ 2147483647)) (h3 : (-2147483648 ≤ x3 ∧ x3 ≤ 2147483647)) (hb : b < 2) (hd : 4 ≤ d) : sC e b d 3374 [.inr (.inr (.inl r)), .inl x1, .inl x2, .inl x3] n (SQx n (SQi n (fun z => (0 ≤ z ∧ z ≤ 1))) (fun s => s = "java/lang/IndexOutOfBoundsException" ∨ s = "java/util/NoSuchElementException")) := by
  refine sK (fun M h => tst_X11_meet h) (fun M0 => ?_)
  refine sblk (hv := false) kbl_X11_meet kbs_X11_meet (pc := 0) (pe := 53) (rk := 3) (i := 0) rfl (by decide +kernel) ?_
  simp only [kb_X11_meet_0, s_ald_0, s_ild_1, s_ild_2, s_ild_3, s_iv3, tfr_0, tfr_1, tfr_2, tfr_3, tfr_4, s_iv1, s_gf_13_11, s_gf_13_3, s_if_ne, s_new, LR, IR, true_and, and_true, Nat.reduceAdd, Nat.reduceSub, eq_self]
  refine ⟨vok_of (s := 13) (by assumption) rfl, ?_⟩
  refine sc_xn (D := 1) (fun d' hd' => k_X11_checkShelves (by assumption) (by omega) (by omega) (by omega) hd') (by omega) rfl ?_ (fun s hs _ => Or.inr ⟨s, rfl, rfl, (fun h => Or.inl (h)) hs⟩)
  intro h5_
  try simp only [s_ald_0, s_ild_2, s_iv1, tfr_0, tfr_1, tfr_2, tfr_3, tfr_4, s_ild_3, s_gf_13_11, s_gf_13_3, s_if_ne, s_new, LR, IR, true_and, and_true, Nat.reduceAdd, Nat.reduceSub, eq_self]
  refine ⟨vok_of (s := 13) (by assumption) rfl, ?_⟩
  refine sc_xn (D := 2) (fun d' hd' => k_X11_checkHeld (by assumption) (by omega) hd') (by omega) rfl ?_ (fun s hs _ => Or.inr ⟨s, rfl, rfl, (fun h => Or.inr (h)) hs⟩)
  intro h8_
  try simp only [s_ald_0, s_ild_3, s_iv1, tfr_0, tfr_1, tfr_2, tfr_3, tfr_4, s_gf_13_11, s_gf_13_3, s_ild_2, s_if_ne, s_new, LR, IR, true_and, and_true, Nat.reduceAdd, Nat.reduceSub, eq_self]
  refine ⟨vok_of (s := 13) (by assumption) rfl, ?_⟩
  refine sc_xn (D := 2) (fun d' hd' => k_X11_checkHeld (by assumption) (by omega) hd') (by omega) rfl ?_ (fun s hs _ => Or.inr ⟨s, rfl, rfl, (fun h => Or.inr (h)) hs⟩)
  intro h11_
  try simp only [s_ald_0, s_gf_13_11, s_gf_13_3, s_ild_2, s_iv1, tfr_0, tfr_1, tfr_2, tfr_3, tfr_4, s_ild_3, s_if_ne, s_new, LR, IR, true_and, and_true, Nat.reduceAdd, Nat.reduceSub, eq_self]
  refine ⟨by assumption, fun x13_ h13_ => ?_⟩
  refine ⟨by assumption, fun x15_ h15_ => ?_⟩
  refine ⟨vok_of (s := 11) (by assumption) rfl, ?_⟩
  refine sc_r (D := 1) (fun d' hd' => k_X9_box (by assumption) (by omega) hd') (by omega) ?_
  intro x17_ h17_
  try simp only [s_iv1, tfr_0, tfr_1, tfr_2, tfr_3, tfr_4, s_ald_0, s_gf_13_11, s_gf_13_3, s_ild_3, s_if_ne, s_new, LR, IR, true_and, and_true, Nat.reduceAdd, Nat.reduceSub, eq_self]
  refine ⟨vok_of (s := 4) (by assumption) rfl, ?_⟩
  refine sc_n (D := 1) (fun d' hd' => k_X2_copy (by assumption) (by assumption) (by omega) hd') (by omega) ?_
  intro h18_
  try simp only [s_ald_0, s_gf_13_11, s_gf_13_3, s_ild_3, s_iv1, tfr_0, tfr_1, tfr_2, tfr_3, tfr_4, s_if_ne, s_new, LR, IR, true_and, and_true, Nat.reduceAdd, Nat.reduceSub, eq_self]
  refine ⟨by assumption, fun x20_ h20_ => ?_⟩
  refine ⟨by assumption, fun x22_ h22_ => ?_⟩
  refine ⟨vok_of (s := 11) (by assumption) rfl, ?_⟩
  refine sc_r (D := 1) (fun d' hd' => k_X9_box (by assumption) (by omega) hd') (by omega) ?_
  intro x24_ h24_
  try simp only [s_iv1, tfr_0, tfr_1, tfr_2, tfr_3, tfr_4, s_if_ne, s_new, LR, IR, true_and, and_true, Nat.reduceAdd, Nat.reduceSub, eq_self]
  refine ⟨vok_of (s := 4) (by assumption) rfl, ?_⟩
  refine sc_i (D := 1) (fun d' hd' => k_X2_cutDownTo (by assumption) (by assumption) (by omega) hd') (by omega) ?_
  intro x25_ h25_
  try simp only [s_if_ne, s_new, LR, IR, true_and, and_true, Nat.reduceAdd, Nat.reduceSub, eq_self]
  refine ⟨by omega, fun h26_ => ?_, fun h26_ => ?_⟩
  · refine sT_w ?_
    refine sblk (hv := false) kbl_X11_meet kbs_X11_meet (pc := 60) (pe := 70) (rk := 3) (i := 2) rfl (by decide +kernel) ?_
    simp only [kb_X11_meet_60, s_ald_0, s_ild_1, s_gf_13_11, s_iv2, tfr_0, tfr_1, tfr_2, tfr_3, tfr_4, s_ire, trg, LR, IR, true_and, and_true, Nat.reduceAdd, Nat.reduceSub, eq_self]
    refine ⟨by assumption, fun x30_ h30_ => ?_⟩
    refine ⟨vok_of (s := 13) (by assumption) rfl, ?_⟩
    refine sc_i (D := 3) (fun d' hd' => k_X11_fill (by assumption) (by omega) (by assumption) (by omega) hd') (by omega) ?_
    intro x31_ h31_
    try simp only [s_ire, trg, LR, IR, true_and, and_true, Nat.reduceAdd, Nat.reduceSub, eq_self]
    exact ⟨by omega, fun _ _ _ _ => Or.inl ⟨_, rfl, rfl, by omega⟩⟩
  exact fun _ _ _ _ => Or.inr ⟨_, rfl, rfl, Or.inr (rfl)⟩
theorem k_X11_piece {e : tE} {b : Nat} {d n : Nat} {r : Nat} {x1 : Int} {x2 : Int} (h0 : cl r 13) (h1 : (-2147483648 ≤ x1 ∧ x1 ≤ 2147483647)) (h2 : (-2147483648 ≤ x2 ∧ x2 ≤ 2147483647)) (hb : b < 2) (hd : 4 ≤ d) : sC e b d 3379 [.inr (.inr (.inl r)), .inl x1, .inl x2] n (SQx n (SQi n (fun z => (0 ≤ z ∧ z ≤ 1))) (fun s => s = "java/lang/IndexOutOfBoundsException" ∨ s = "java/util/NoSuchElementException")) := by
  refine sK (fun M h => tst_X11_piece h) (fun M0 => ?_)
  refine sblk (hv := false) kbl_X11_piece kbs_X11_piece (pc := 0) (pe := 24) (rk := 3) (i := 0) rfl (by decide +kernel) ?_
  simp only [kb_X11_piece_0, s_ald_0, s_ild_1, s_iv1, tfr_0, tfr_1, tfr_2, tfr_3, tfr_4, s_ild_2, s_gf_13_7, s_iv2, s_ire, trg, LR, IR, true_and, and_true, Nat.reduceAdd, Nat.reduceSub, eq_self]
  refine ⟨vok_of (s := 13) (by assumption) rfl, ?_⟩
  refine sc_xn (D := 0) (fun d' hd' => k_X11_checkShelf (by assumption) (by omega) hd') (by omega) rfl ?_ (fun s hs _ => Or.inr ⟨s, rfl, rfl, (fun h => Or.inl (h)) hs⟩)
  intro h3_
  try simp only [s_ald_0, s_ild_2, s_iv1, tfr_0, tfr_1, tfr_2, tfr_3, tfr_4, s_ild_1, s_gf_13_7, s_iv2, s_ire, trg, LR, IR, true_and, and_true, Nat.reduceAdd, Nat.reduceSub, eq_self]
  refine ⟨vok_of (s := 13) (by assumption) rfl, ?_⟩
  refine sc_xn (D := 0) (fun d' hd' => k_X11_checkPiece (by assumption) (by omega) hd') (by omega) rfl ?_ (fun s hs _ => Or.inr ⟨s, rfl, rfl, (fun h => Or.inr (h)) hs⟩)
  intro h6_
  try simp only [s_ald_0, s_ild_1, s_gf_13_7, s_ild_2, s_iv1, tfr_0, tfr_1, tfr_2, tfr_3, tfr_4, s_iv2, s_ire, trg, LR, IR, true_and, and_true, Nat.reduceAdd, Nat.reduceSub, eq_self]
  refine ⟨by assumption, fun x10_ h10_ => ?_⟩
  refine ⟨vok_of (s := 9) (by assumption) rfl, ?_⟩
  refine sc_r (D := 1) (fun d' hd' => k_X7_box (by assumption) (by omega) hd') (by omega) ?_
  intro x12_ h12_
  try simp only [s_iv2, tfr_0, tfr_1, tfr_2, tfr_3, tfr_4, s_ire, trg, LR, IR, true_and, and_true, Nat.reduceAdd, Nat.reduceSub, eq_self]
  refine ⟨vok_of (s := 13) (by assumption) rfl, ?_⟩
  refine sc_i (D := 3) (fun d' hd' => k_X11_fill (by assumption) (by omega) (by assumption) (by omega) hd') (by omega) ?_
  intro x13_ h13_
  try simp only [s_ire, trg, LR, IR, true_and, and_true, Nat.reduceAdd, Nat.reduceSub, eq_self]
  exact ⟨by omega, fun _ _ _ _ => Or.inl ⟨_, rfl, rfl, by omega⟩⟩
theorem k_X7_markAt {e : tE} {b : Nat} {d n : Nat} {r : Nat} {x1 : Int} (h0 : cl r 9) (h1 : (-2147483648 ≤ x1 ∧ x1 ≤ 2147483647)) (hd : 1 ≤ d) : sC e b d 2309 [.inr (.inr (.inl r)), .inl x1] n (SQi n (fun z => (-2147483648 ≤ z ∧ z ≤ 2147483647))) := by
  refine sK (fun M h => tst_X7_markAt h) (fun M0 => ?_)
  refine sblk (hv := false) kbl_X7_markAt kbs_X7_markAt (pc := 0) (pe := 11) (rk := 0) (i := 0) rfl (by decide +kernel) ?_
  simp only [kb_X7_markAt_0, s_ald_0, s_gf_9_1, s_ild_1, s_iv1, tfr_0, tfr_1, tfr_2, tfr_3, tfr_4, s_ia, s_iax, s_ire, trg, LR, IR, true_and, and_true, Nat.reduceAdd, Nat.reduceSub, eq_self]
  refine ⟨by assumption, fun x2_ h2_ => ?_⟩
  refine ⟨vok_of (s := 9) (by assumption) rfl, ?_⟩
  refine sc_i (D := 0) (fun d' hd' => k_X7_within (by assumption) (by omega) hd') (by omega) ?_
  intro x5_ h5_
  try simp only [s_ia, s_iax, s_ire, trg, LR, IR, true_and, and_true, Nat.reduceAdd, Nat.reduceSub, eq_self]
  refine ⟨aok_30 (by assumption) (by omega), fun x6_ g6_ => ?_⟩
  have h6_ := arg_30 (by assumption) g6_
  clear g6_
  exact fun _ _ _ _ => ⟨_, rfl, rfl, by omega⟩
theorem k_X11_pieceKind {e : tE} {b : Nat} {d n : Nat} {r : Nat} {x1 : Int} (h0 : cl r 13) (h1 : (-2147483648 ≤ x1 ∧ x1 ≤ 2147483647)) (hd : 2 ≤ d) : sC e b d 3380 [.inr (.inr (.inl r)), .inl x1] n (SQx n (SQi n (fun z => (0 ≤ z ∧ z ≤ 65535))) (fun s => s = "java/util/NoSuchElementException")) := by
  refine sK (fun M h => tst_X11_pieceKind h) (fun M0 => ?_)
  refine sblk (hv := false) kbl_X11_pieceKind kbs_X11_pieceKind (pc := 0) (pe := 15) (rk := 4) (i := 0) rfl (by decide +kernel) ?_
  simp only [kb_X11_pieceKind_0, s_ald_0, s_ild_1, s_iv1, tfr_0, tfr_1, tfr_2, tfr_3, tfr_4, s_gf_13_7, s_i2c, s_ire, trg, LR, IR, true_and, and_true, Nat.reduceAdd, Nat.reduceSub, eq_self]
  refine ⟨vok_of (s := 13) (by assumption) rfl, ?_⟩
  refine sc_xn (D := 0) (fun d' hd' => k_X11_checkPiece (by assumption) (by omega) hd') (by omega) rfl ?_ (fun s hs _ => Or.inr ⟨s, rfl, rfl, (fun h => h) hs⟩)
  intro h3_
  try simp only [s_ald_0, s_gf_13_7, s_ild_1, s_iv1, tfr_0, tfr_1, tfr_2, tfr_3, tfr_4, s_i2c, s_ire, trg, LR, IR, true_and, and_true, Nat.reduceAdd, Nat.reduceSub, eq_self]
  refine ⟨by assumption, fun x5_ h5_ => ?_⟩
  refine ⟨vok_of (s := 9) (by assumption) rfl, ?_⟩
  refine sc_i (D := 1) (fun d' hd' => k_X7_markAt (by assumption) (by omega) hd') (by omega) ?_
  intro x7_ h7_
  try simp only [s_i2c, s_ire, trg, LR, IR, true_and, and_true, Nat.reduceAdd, Nat.reduceSub, eq_self]
  exact ⟨by omega, fun _ _ _ _ => Or.inl ⟨_, rfl, rfl, by omega⟩⟩
theorem k_X8_takeDigit {e : tE} {b : Nat} {d n : Nat} {r : Nat} {x1 : Int} {x2 : Int} (h0 : cl r 10) (h1 : (-48 ≤ x1 ∧ x1 ≤ 65487)) (h2 : (-2147483648 ≤ x2 ∧ x2 ≤ 2147483647)) (hb : b < 2) (hd : 0 ≤ d) : sC e b d 2573 [.inr (.inr (.inl r)), .inl x1, .inl x2] n (SQn n (True)) := by
  refine sK (fun M h => tst_X8_takeDigit h) (fun M0 => ?_)
  have n94 : (-48 ≤ x1 ∧ x1 ≤ 65487) → sT e b M0 d 2573 94 [] [some (.inr (.inr (.inl r))), some (.inl x1), some (.inl x2)] [] n (fun r n' _ => (SQn n (True)) r n') := by
    intro  y94_0
    refine sblk (hv := false) kbl_X8_takeDigit kbs_X8_takeDigit (pc := 94) (pe := 95) (rk := 9) (i := 6) rfl (by decide +kernel) ?_
    simp only [kb_X8_takeDigit_94, s_re, LR, IR, true_and, and_true, Nat.reduceAdd, Nat.reduceSub, eq_self]
    exact fun _ _ _ _ => ⟨rfl, rfl, by first | trivial | omega⟩
  refine sblk (hv := false) kbl_X8_takeDigit kbs_X8_takeDigit (pc := 0) (pe := 42) (rk := 9) (i := 0) rfl (by decide +kernel) ?_
  simp only [kb_X8_takeDigit_0, s_ild_2, s_if_ge, s_ald_0, s_gf_10_0, s_gf_3_0, s_ld2, s_lcmp, ne_eq, tlc_r, tlc_eq, tlc_lt, tlc_ge, tlc_gt, tlc_le, s_lmul, s_ild_1, s_i2l, s_ladd, s_pf_3_0, s_goto, LR, IR, true_and, and_true, Nat.reduceAdd, Nat.reduceSub, eq_self]
  refine ⟨by omega, fun h3_ => ?_, fun h3_ => ?_⟩
  · refine sT_w ?_
    refine sblk (hv := false) kbl_X8_takeDigit kbs_X8_takeDigit (pc := 42) (pe := 74) (rk := 9) (i := 1) rfl (by decide +kernel) ?_
    simp only [kb_X8_takeDigit_42, s_ild_2, s_bi, s_ic_ge, s_ald_0, s_gf_10_0, s_dupi, s_dupr, s_gf_3_1, s_ild_1, s_i2l, s_gs, s_isub, s_la, s_lax, forall_const, s_lmul, s_ladd, s_pf_3_1, s_goto, LR, IR, true_and, and_true, Nat.reduceAdd, Nat.reduceSub, eq_self]
    refine ⟨by omega, fun h6_ => ?_, fun h6_ => ?_⟩
    · have n91 : ∀ (is0_91 : Int) (qs1_91 : Nat), (-48 ≤ x1 ∧ x1 ≤ 65487) → (10 ≤ x2 ∧ x2 ≤ 2147483647) → (0 ≤ is0_91 ∧ is0_91 ≤ 1) → cl qs1_91 10 → sT e b M0 d 2573 91 [] [some (.inr (.inr (.inl r))), some (.inl x1), some (.inl x2)] [.inl is0_91, .inr (.inr (.inl qs1_91))] n (fun r n' _ => (SQn n (True)) r n') := by
        intro is0_91 qs1_91 y91_0 y91_1 y91_2 y91_3
        refine sblk (hv := false) kbl_X8_takeDigit kbs_X8_takeDigit (pc := 91) (pe := 94) (rk := 9) (i := 5) rfl (by decide +kernel) ?_
        simp only [kb_X8_takeDigit_91, s_pf_10_1, s_nil, LR, IR, true_and, and_true, Nat.reduceAdd, Nat.reduceSub, eq_self]
        refine ⟨by omega, by assumption, by omega, ?_⟩
        exact sT_w (n94 (by omega))
      have n86 : ∀ (qs0_86 : Nat), (-48 ≤ x1 ∧ x1 ≤ 65487) → (10 ≤ x2 ∧ x2 ≤ 2147483647) → cl qs0_86 10 → sT e b M0 d 2573 86 [] [some (.inr (.inr (.inl r))), some (.inl x1), some (.inl x2)] [.inr (.inr (.inl qs0_86))] n (fun r n' _ => (SQn n (True)) r n') := by
        intro qs0_86 y86_0 y86_1 y86_2
        refine sblk (hv := false) kbl_X8_takeDigit kbs_X8_takeDigit (pc := 86) (pe := 90) (rk := 9) (i := 3) rfl (by decide +kernel) ?_
        simp only [kb_X8_takeDigit_86, s_ic, s_goto, LR, IR, true_and, and_true, Nat.reduceAdd, Nat.reduceSub, eq_self]
        exact sT_w (n91 _ _ (by omega) (by omega) (by omega) (by assumption))
      refine sT_w ?_
      refine sblk (hv := false) kbl_X8_takeDigit kbs_X8_takeDigit (pc := 74) (pe := 86) (rk := 9) (i := 2) rfl (by decide +kernel) ?_
      simp only [kb_X8_takeDigit_74, s_ald_0, s_gf_10_1, s_if_ne, s_ild_1, s_if_le, s_nil, LR, IR, true_and, and_true, Nat.reduceAdd, Nat.reduceSub, eq_self]
      refine ⟨by assumption, fun x12_ h12_ g12_ k12_ => ?_⟩
      clear k12_
      refine ⟨by omega, fun h13_ => ?_, fun h13_ => ?_⟩
      · exact sT_w (n86 _ (by omega) (by omega) (by assumption))
      refine ⟨by omega, fun h15_ => ?_, fun h15_ => ?_⟩
      · refine sT_w ?_
        refine sblk (hv := false) kbl_X8_takeDigit kbs_X8_takeDigit (pc := 90) (pe := 91) (rk := 9) (i := 4) rfl (by decide +kernel) ?_
        simp only [kb_X8_takeDigit_90, s_ic, s_nil, LR, IR, true_and, and_true, Nat.reduceAdd, Nat.reduceSub, eq_self]
        exact sT_w (n91 _ _ (by omega) (by omega) (by omega) (by assumption))
      exact sT_w (n86 _ (by omega) (by omega) (by assumption))
    refine ⟨by assumption, fun x18_ h18_ z18_ => ?_⟩
    refine ⟨by assumption, fun x20_ h20_ => ?_⟩
    refine ⟨by omega, ?_⟩
    refine ⟨by omega, fun x27_ h27_ g27_ => ?_⟩
    intro x28_ h28_
    intro x29_ h29_
    refine ⟨by omega, by assumption, ?_⟩
    exact sT_w (n94 (by omega))
  refine ⟨by assumption, fun x33_ h33_ z33_ => ?_⟩
  refine ⟨by assumption, fun x34_ h34_ => ?_⟩
  refine ⟨by omega, ?_⟩
  refine ⟨fun h37_ => ?_, fun h37_ => ?_⟩
  · exact sT_w (n94 (by omega))
  refine ⟨by assumption, fun x39_ h39_ z39_ => ?_⟩
  refine ⟨by assumption, fun x41_ h41_ z41_ => ?_⟩
  refine ⟨by assumption, fun x42_ h42_ => ?_⟩
  intro x44_ h44_
  refine ⟨by omega, ?_⟩
  intro x47_ h47_
  refine ⟨by omega, by assumption, ?_⟩
  exact sT_w (n94 (by omega))
theorem k_X8_takeText {e : tE} {b : Nat} {d n : Nat} {r : Nat} {x1 : Nat} (h0 : cl r 10) (h1 : cl x1 12) (hb : b < 2) (hd : 2 ≤ d) : sC e b d 2574 [.inr (.inr (.inl r)), .inr (.inr (.inl x1))] n (SQn n (True)) := by
  refine sK (fun M h => tst_X8_takeText h) (fun M0 => ?_)
  have n11 : ∀ (fu : Nat) (i2_11 : Int) (i3_11 : Int), 60 - i3_11 + 1 ≤ (fu : Int) → (-2147483648 ≤ i2_11 ∧ i2_11 ≤ 2147483647) → (0 ≤ i3_11 ∧ i3_11 ≤ 60) → (-1 ≤ i2_11 ∧ i2_11 ≤ i3_11) → sT e b M0 d 2574 11 [] [some (.inr (.inr (.inl r))), some (.inr (.inr (.inl x1))), some (.inl i2_11), some (.inl i3_11)] [] n (fun r n' _ => (SQn n (True)) r n') := by
    intro fu
    induction fu with
    | zero =>
      intro i2_11 i3_11 hm y11_0 y11_1 y11_2
      exfalso; omega
    | succ fu ih =>
      intro i2_11 i3_11 hm y11_0 y11_1 y11_2
      have ih11 := ih
      clear ih
      have n67 : ∀ (i2_67 : Int), (-2147483648 ≤ i2_67 ∧ i2_67 ≤ 2147483647) → (0 ≤ i3_11 ∧ i3_11 ≤ 59) → (-1 ≤ i2_67 ∧ i2_67 ≤ i3_11 + 1) → sT e b M0 d 2574 67 [] [some (.inr (.inr (.inl r))), some (.inr (.inr (.inl x1))), some (.inl i2_67), some (.inl i3_11)] [] n (fun r n' _ => (SQn n (True)) r n') := by
        intro i2_67 y67_0 y67_1 y67_2
        refine sblk (hv := false) kbl_X8_takeText kbs_X8_takeText (pc := 67) (pe := 73) (rk := 9) (i := 5) rfl (by decide +kernel) ?_
        simp only [kb_X8_takeText_67, s_inc3, tkl_n, tkl_i, tkl_l, tkl_r, s_goto, LR, IR, true_and, and_true, Nat.reduceAdd, Nat.reduceSub, eq_self]
        exact sT_w (ih11 _ _ (by omega) (by omega) (by omega) (by omega))
      refine sblk (hv := false) kbl_X8_takeText kbs_X8_takeText (pc := 11) (pe := 34) (rk := 9) (i := 1) rfl (by decide +kernel) ?_
      simp only [kb_X8_takeText_11, s_ild_3, s_ald_1, s_gf_12_1, s_ic_ge, s_iv1, tfr_0, tfr_1, tfr_2, tfr_3, tfr_4, s_bi, s_ic_ne, s_ic, s_ist_2, tkl_n, tkl_i, tkl_l, tkl_r, s_goto, LR, IR, true_and, and_true, Nat.reduceAdd, Nat.reduceSub, eq_self]
      refine ⟨by assumption, fun x5_ h5_ g5_ k5_ => ?_⟩
      clear k5_
      refine ⟨by omega, fun h6_ => ?_, fun h6_ => ?_⟩
      · have n87 : sT e b M0 d 2574 87 [] [some (.inr (.inr (.inl r))), some (.inr (.inr (.inl x1))), some (.inl i2_11), some (.inl i3_11)] [] n (fun r n' _ => (SQn n (True)) r n') := by
          refine sblk (hv := false) kbl_X8_takeText kbs_X8_takeText (pc := 87) (pe := 88) (rk := 9) (i := 7) rfl (by decide +kernel) ?_
          simp only [kb_X8_takeText_87, s_re, LR, IR, true_and, and_true, Nat.reduceAdd, Nat.reduceSub, eq_self]
          exact fun _ _ _ _ => ⟨rfl, rfl, by first | trivial | omega⟩
        refine sT_w ?_
        refine sblk (hv := false) kbl_X8_takeText kbs_X8_takeText (pc := 73) (pe := 87) (rk := 9) (i := 6) rfl (by decide +kernel) ?_
        simp only [kb_X8_takeText_73, s_ald_1, s_ic, s_iv1, tfr_0, tfr_1, tfr_2, tfr_3, tfr_4, s_bi, s_ic_ne, s_ald_0, s_iv0, s_nil, LR, IR, true_and, and_true, Nat.reduceAdd, Nat.reduceSub, eq_self]
        refine ⟨vok_of (s := 12) (by assumption) rfl, ?_⟩
        refine sc_i (D := 0) (fun d' hd' => k_X10_at (by assumption) (by omega) hd') (by omega) ?_
        intro x10_ h10_
        try simp only [s_bi, s_ic_ne, s_ald_0, s_iv0, tfr_0, tfr_1, tfr_2, tfr_3, tfr_4, s_nil, LR, IR, true_and, and_true, Nat.reduceAdd, Nat.reduceSub, eq_self]
        refine ⟨by omega, fun h12_ => ?_, fun h12_ => ?_⟩
        · exact sT_w (n87)
        refine ⟨vok_of (s := 10) (by assumption) rfl, ?_⟩
        refine sc_n (D := 1) (fun d' hd' => k_X8_turn (by assumption) (by omega) hd') (by omega) ?_
        intro h14_
        try simp only [s_nil, LR, IR, true_and, and_true, Nat.reduceAdd, Nat.reduceSub, eq_self]
        exact sT_w (n87)
      refine ⟨vok_of (s := 12) (by assumption) rfl, ?_⟩
      refine sc_i (D := 0) (fun d' hd' => k_X10_at (by assumption) (by omega) hd') (by omega) ?_
      intro x17_ h17_
      try simp only [s_bi, s_ic_ne, s_ic, s_ist_2, tkl_n, tkl_i, tkl_l, tkl_r, s_goto, LR, IR, true_and, and_true, Nat.reduceAdd, Nat.reduceSub, eq_self]
      refine ⟨by omega, fun h19_ => ?_, fun h19_ => ?_⟩
      · have n65 : ∀ (is0_65 : Int) (is1_65 : Int), (0 ≤ i3_11 ∧ i3_11 ≤ 59) → (0 ≤ is0_65 ∧ is0_65 ≤ 1) → (-2147483648 ≤ is1_65 ∧ is1_65 ≤ 2147483647) → (-1 ≤ is1_65 ∧ is1_65 ≤ i3_11) → sT e b M0 d 2574 65 [] [some (.inr (.inr (.inl r))), some (.inr (.inr (.inl x1))), some (.inl i2_11), some (.inl i3_11)] [.inl is0_65, .inl is1_65] n (fun r n' _ => (SQn n (True)) r n') := by
          intro is0_65 is1_65 y65_0 y65_1 y65_2 y65_3
          refine sblk (hv := false) kbl_X8_takeText kbs_X8_takeText (pc := 65) (pe := 67) (rk := 9) (i := 4) rfl (by decide +kernel) ?_
          simp only [kb_X8_takeText_65, s_iadd, s_ist_2, tkl_n, tkl_i, tkl_l, tkl_r, s_nil, LR, IR, true_and, and_true, Nat.reduceAdd, Nat.reduceSub, eq_self]
          exact sT_w (n67 _ (by omega) (by omega) (by omega))
        refine sT_w ?_
        refine sblk (hv := false) kbl_X8_takeText kbs_X8_takeText (pc := 34) (pe := 64) (rk := 9) (i := 2) rfl (by decide +kernel) ?_
        simp only [kb_X8_takeText_34, s_ald_1, s_ild_3, s_iv1, tfr_0, tfr_1, tfr_2, tfr_3, tfr_4, s_if_eq, s_ald_0, s_bi, s_isub, s_ild_2, s_iv2, s_if_ge, s_ic, s_goto, LR, IR, true_and, and_true, Nat.reduceAdd, Nat.reduceSub, eq_self]
        refine ⟨vok_of (s := 12) (by assumption) rfl, ?_⟩
        refine sc_i (D := 1) (fun d' hd' => k_X10_isDigitAt (by assumption) (by omega) hd') (by omega) ?_
        intro x24_ h24_
        try simp only [s_if_eq, s_ald_0, s_ald_1, s_ild_3, s_iv1, tfr_0, tfr_1, tfr_2, tfr_3, tfr_4, s_bi, s_isub, s_ild_2, s_iv2, s_if_ge, s_ic, s_goto, LR, IR, true_and, and_true, Nat.reduceAdd, Nat.reduceSub, eq_self]
        refine ⟨by omega, fun h25_ => ?_, fun h25_ => ?_⟩
        · exact sT_w (n67 _ (by omega) (by omega) (by omega))
        refine ⟨vok_of (s := 12) (by assumption) rfl, ?_⟩
        refine sc_i (D := 0) (fun d' hd' => k_X10_at (by assumption) (by omega) hd') (by omega) ?_
        intro x29_ h29_
        try simp only [s_bi, s_isub, s_ild_2, s_iv2, tfr_0, tfr_1, tfr_2, tfr_3, tfr_4, s_if_ge, s_ic, s_goto, LR, IR, true_and, and_true, Nat.reduceAdd, Nat.reduceSub, eq_self]
        refine ⟨vok_of (s := 10) (by assumption) rfl, ?_⟩
        refine sc_n (D := 0) (fun d' hd' => k_X8_takeDigit (by assumption) (by omega) (by omega) (by omega) hd') (by omega) ?_
        intro h33_
        try simp only [s_ild_2, s_if_ge, s_ic, s_goto, LR, IR, true_and, and_true, Nat.reduceAdd, Nat.reduceSub, eq_self]
        refine ⟨by omega, fun h36_ => ?_, fun h36_ => ?_⟩
        · refine sT_w ?_
          refine sblk (hv := false) kbl_X8_takeText kbs_X8_takeText (pc := 64) (pe := 65) (rk := 9) (i := 3) rfl (by decide +kernel) ?_
          simp only [kb_X8_takeText_64, s_ic, s_nil, LR, IR, true_and, and_true, Nat.reduceAdd, Nat.reduceSub, eq_self]
          exact sT_w (n65 _ _ (by omega) (by omega) (by omega) (by omega))
        exact sT_w (n65 _ _ (by omega) (by omega) (by omega) (by omega))
      exact sT_w (n67 _ (by omega) (by omega) (by omega))
  refine sblk (hv := false) kbl_X8_takeText kbs_X8_takeText (pc := 0) (pe := 11) (rk := 9) (i := 0) rfl (by decide +kernel) ?_
  simp only [kb_X8_takeText_0, s_ald_0, s_lc0, s_ic, s_iv3, tfr_0, tfr_1, tfr_2, tfr_3, tfr_4, s_ist_2, tkl_n, tkl_i, tkl_l, tkl_r, s_ist_3, s_nil, LR, IR, true_and, and_true, Nat.reduceAdd, Nat.reduceSub, eq_self]
  refine ⟨vok_of (s := 10) (by assumption) rfl, ?_⟩
  refine sc_n (D := 0) (fun d' hd' => k_X8_assign (by assumption) (by omega) (by omega) (by omega) (by omega) hd') (by omega) ?_
  intro h47_
  try simp only [s_ic, s_ist_2, tkl_n, tkl_i, tkl_l, tkl_r, s_ist_3, s_nil, LR, IR, true_and, and_true, Nat.reduceAdd, Nat.reduceSub, eq_self]
  exact sT_w (n11 4294967400 _ _ (by omega) (by omega) (by omega) (by omega))
theorem k_X0_tellText {e : tE} {b : Nat} {d n : Nat} {r : Nat} {x1 : Nat} {x2 : Nat} (h0 : cl r 2) (h1 : cl x1 4) (h2 : cl x2 12) (hb : b < 2) (hd : 3 ≤ d) : sC e b d 523 [.inr (.inr (.inl r)), .inr (.inr (.inl x1)), .inr (.inr (.inl x2))] n (SQi n (fun z => (z = 0 ∨ z = 2))) := by
  refine sK (fun M h => tst_X0_tellText h) (fun M0 => ?_)
  refine sblk (hv := false) kbl_X0_tellText kbs_X0_tellText (pc := 0) (pe := 14) (rk := 0) (i := 0) rfl (by decide +kernel) ?_
  simp only [kb_X0_tellText_0, s_ald_0, s_gf_2_0, s_ald_2, s_iv1, tfr_0, tfr_1, tfr_2, tfr_3, tfr_4, s_ald_1, s_ire, trg, LR, IR, true_and, and_true, Nat.reduceAdd, Nat.reduceSub, eq_self]
  refine ⟨by assumption, fun x2_ h2_ => ?_⟩
  refine ⟨vok_of (s := 10) (by assumption) rfl, ?_⟩
  refine sc_n (D := 2) (fun d' hd' => k_X8_takeText (by assumption) (by assumption) (by omega) hd') (by omega) ?_
  intro h4_
  try simp only [s_ald_0, s_ald_1, s_iv1, tfr_0, tfr_1, tfr_2, tfr_3, tfr_4, s_ire, trg, LR, IR, true_and, and_true, Nat.reduceAdd, Nat.reduceSub, eq_self]
  refine ⟨vok_of (s := 2) (by assumption) rfl, ?_⟩
  refine sc_i (D := 2) (fun d' hd' => k_X0_told (by assumption) (by assumption) (by omega) hd') (by omega) ?_
  intro x7_ h7_
  try simp only [s_ire, trg, LR, IR, true_and, and_true, Nat.reduceAdd, Nat.reduceSub, eq_self]
  exact fun _ _ _ _ => ⟨_, rfl, rfl, by omega⟩
theorem k_X6_makeFrom {e : tE} {b : Nat} {d n : Nat} {r : Nat} {x1 : Nat} (h0 : cl r 8) (h1 : cl x1 12) (hb : b < 2) (hd : 4 ≤ d) : sC e b d 2056 [.inr (.inr (.inl r)), .inr (.inr (.inl x1))] n (SQi n (fun z => (z = 0 ∨ z = 2))) := by
  refine sK (fun M h => tst_X6_makeFrom h) (fun M0 => ?_)
  refine sblk (hv := false) kbl_X6_makeFrom kbs_X6_makeFrom (pc := 0) (pe := 12) (rk := 0) (i := 0) rfl (by decide +kernel) ?_
  simp only [kb_X6_makeFrom_0, s_ald_0, s_gf_8_2, s_si, s_ic_lt, s_ic, s_ire, trg, LR, IR, true_and, and_true, Nat.reduceAdd, Nat.reduceSub, eq_self]
  refine ⟨by assumption, fun x2_ h2_ g2_ k2_ => ?_⟩
  simp (disch := decide) only [gk, gd, eq_self, true_imp_iff, false_imp_iff, and_true, true_and, Nat.reduceEqDiff, reduceIte, reduceCtorEq, ne_eq, not_false_eq_true] at k2_
  refine ⟨by omega, fun h4_ => ?_, fun h4_ => ?_⟩
  · refine sblk (hv := false) kbl_X6_makeFrom kbs_X6_makeFrom (pc := 12) (pe := 35) (rk := 0) (i := 1) rfl (by decide +kernel) ?_
    simp only [kb_X6_makeFrom_12, s_ald_0, s_dupi, s_dupr, s_gf_8_2, s_ic, s_iadd, s_pf_8_2, s_gf_8_0, s_iv0, tfr_0, tfr_1, tfr_2, tfr_3, tfr_4, s_ald_1, s_iv2, s_ire, trg, LR, IR, true_and, and_true, Nat.reduceAdd, Nat.reduceSub, eq_self]
    refine ⟨by assumption, fun x7_ h7_ g7_ k7_ => ?_⟩
    simp (disch := decide) only [gk, gd, eq_self, true_imp_iff, false_imp_iff, and_true, true_and, Nat.reduceEqDiff, reduceIte, reduceCtorEq, ne_eq, not_false_eq_true] at k7_
    refine ⟨by omega, by assumption, by omega, ?_⟩
    refine ⟨by assumption, fun x12_ h12_ => ?_⟩
    refine ⟨vok_of (s := 8) (by assumption) rfl, ?_⟩
    refine sp_r (D := 1) (fun d' hd' => k_X6_result (by assumption) hd') (by omega) ?_
    intro x14_ h14_
    try simp only [s_ald_1, s_iv2, tfr_0, tfr_1, tfr_2, tfr_3, tfr_4, s_ire, trg, LR, IR, true_and, and_true, Nat.reduceAdd, Nat.reduceSub, eq_self]
    refine ⟨vok_of (s := 2) (by assumption) rfl, ?_⟩
    refine sc_i (D := 3) (fun d' hd' => k_X0_tellText (by assumption) (by assumption) (by assumption) (by omega) hd') (by omega) ?_
    intro x16_ h16_
    try simp only [s_ire, trg, LR, IR, true_and, and_true, Nat.reduceAdd, Nat.reduceSub, eq_self]
    exact fun _ _ _ _ => ⟨_, rfl, rfl, by omega⟩
  exact fun _ _ _ _ => ⟨_, rfl, rfl, by omega⟩
theorem k_X10_isNumber {e : tE} {b : Nat} {d n : Nat} {r : Nat} (h0 : cl r 12) (hd : 2 ≤ d) : sC e b d 3078 [.inr (.inr (.inl r))] n (SQi n (fun z => (0 ≤ z ∧ z ≤ 1))) := by
  refine sK (fun M h => tst_X10_isNumber h) (fun M0 => ?_)
  have n25 : ∀ (w1_25 : Option tV) (w2_25 : Option tV) (w3_25 : Option tV) (w4_25 : Option tV) (is0_25 : Int), (0 ≤ is0_25 ∧ is0_25 ≤ 1) → sT e b M0 d 3078 25 [] [some (.inr (.inr (.inl r))), w1_25, w2_25, w3_25, w4_25] [.inl is0_25] n (fun r n' _ => (SQi n (fun z => (0 ≤ z ∧ z ≤ 1))) r n') := by
    intro w1_25 w2_25 w3_25 w4_25 is0_25 y25_0
    have n33 : ∀ (fu : Nat) (i1_33 : Int) (i2_33 : Int) (i3_33 : Int) (i4_33 : Int), 60 - i4_33 + 1 ≤ (fu : Int) → (0 ≤ i1_33 ∧ i1_33 ≤ 1) → (-2147483648 ≤ i2_33 ∧ i2_33 ≤ 2147483647) → (-2147483648 ≤ i3_33 ∧ i3_33 ≤ 2147483647) → (0 ≤ i4_33 ∧ i4_33 ≤ 60) → (0 ≤ i2_33 ∧ i2_33 ≤ i4_33) → (0 ≤ i3_33 ∧ i3_33 ≤ i4_33) → sT e b M0 d 3078 33 [] [some (.inr (.inr (.inl r))), some (.inl i1_33), some (.inl i2_33), some (.inl i3_33), some (.inl i4_33)] [] n (fun r n' _ => (SQi n (fun z => (0 ≤ z ∧ z ≤ 1))) r n') := by
      intro fu
      induction fu with
      | zero =>
        intro i1_33 i2_33 i3_33 i4_33 hm y33_0 y33_1 y33_2 y33_3 y33_4 y33_5
        exfalso; omega
      | succ fu ih =>
        intro i1_33 i2_33 i3_33 i4_33 hm y33_0 y33_1 y33_2 y33_3 y33_4 y33_5
        have ih33 := ih
        clear ih
        have n77 : ∀ (i2_77 : Int) (i3_77 : Int), (-2147483648 ≤ i2_77 ∧ i2_77 ≤ 2147483647) → (-2147483648 ≤ i3_77 ∧ i3_77 ≤ 2147483647) → (0 ≤ i4_33 ∧ i4_33 ≤ 59) → (0 ≤ i2_77 ∧ i2_77 ≤ i4_33 + 1) → (0 ≤ i3_77 ∧ i3_77 ≤ i4_33 + 1) → sT e b M0 d 3078 77 [] [some (.inr (.inr (.inl r))), some (.inl i1_33), some (.inl i2_77), some (.inl i3_77), some (.inl i4_33)] [] n (fun r n' _ => (SQi n (fun z => (0 ≤ z ∧ z ≤ 1))) r n') := by
          intro i2_77 i3_77 y77_0 y77_1 y77_2 y77_3 y77_4
          refine sblk (hv := false) kbl_X10_isNumber kbs_X10_isNumber (pc := 77) (pe := 83) (rk := 3) (i := 7) rfl (by decide +kernel) ?_
          simp only [kb_X10_isNumber_77, s_inc4, tkl_n, tkl_i, tkl_l, tkl_r, s_goto, LR, IR, true_and, and_true, Nat.reduceAdd, Nat.reduceSub, eq_self]
          exact sT_w (ih33 _ _ _ _ (by omega) (by omega) (by omega) (by omega) (by omega) (by omega) (by omega))
        refine sblk (hv := false) kbl_X10_isNumber kbs_X10_isNumber (pc := 33) (pe := 57) (rk := 3) (i := 4) rfl (by decide +kernel) ?_
        simp only [kb_X10_isNumber_33, s_ild4, s_ald_0, s_gf_12_1, s_ic_ge, s_iv1, tfr_0, tfr_1, tfr_2, tfr_3, tfr_4, s_if_eq, s_inc2, tkl_n, tkl_i, tkl_l, tkl_r, s_goto, LR, IR, true_and, and_true, Nat.reduceAdd, Nat.reduceSub, eq_self]
        refine ⟨by assumption, fun x5_ h5_ g5_ k5_ => ?_⟩
        clear k5_
        refine ⟨by omega, fun h6_ => ?_, fun h6_ => ?_⟩
        · have n104 : ∀ (is0_104 : Int), (0 ≤ is0_104 ∧ is0_104 ≤ 1) → sT e b M0 d 3078 104 [] [some (.inr (.inr (.inl r))), some (.inl i1_33), some (.inl i2_33), some (.inl i3_33), some (.inl i4_33)] [.inl is0_104] n (fun r n' _ => (SQi n (fun z => (0 ≤ z ∧ z ≤ 1))) r n') := by
            intro is0_104 y104_0
            refine sblk (hv := false) kbl_X10_isNumber kbs_X10_isNumber (pc := 104) (pe := 105) (rk := 3) (i := 10) rfl (by decide +kernel) ?_
            simp only [kb_X10_isNumber_104, s_ire, trg, LR, IR, true_and, and_true, Nat.reduceAdd, Nat.reduceSub, eq_self]
            exact ⟨by omega, fun _ _ _ _ => ⟨_, rfl, rfl, by omega⟩⟩
          have n103 : sT e b M0 d 3078 103 [] [some (.inr (.inr (.inl r))), some (.inl i1_33), some (.inl i2_33), some (.inl i3_33), some (.inl i4_33)] [] n (fun r n' _ => (SQi n (fun z => (0 ≤ z ∧ z ≤ 1))) r n') := by
            refine sblk (hv := false) kbl_X10_isNumber kbs_X10_isNumber (pc := 103) (pe := 104) (rk := 3) (i := 9) rfl (by decide +kernel) ?_
            simp only [kb_X10_isNumber_103, s_ic, s_nil, LR, IR, true_and, and_true, Nat.reduceAdd, Nat.reduceSub, eq_self]
            exact sT_w (n104 _ (by omega))
          refine sT_w ?_
          refine sblk (hv := false) kbl_X10_isNumber kbs_X10_isNumber (pc := 83) (pe := 103) (rk := 3) (i := 8) rfl (by decide +kernel) ?_
          simp only [kb_X10_isNumber_83, s_ild_2, s_ic, s_ic_lt, s_bi, s_ic_gt, s_ild_3, s_goto, LR, IR, true_and, and_true, Nat.reduceAdd, Nat.reduceSub, eq_self]
          refine ⟨by omega, fun h11_ => ?_, fun h11_ => ?_⟩
          · exact sT_w (n103)
          refine ⟨by omega, fun h14_ => ?_, fun h14_ => ?_⟩
          · exact sT_w (n103)
          refine ⟨by omega, fun h17_ => ?_, fun h17_ => ?_⟩
          · exact sT_w (n103)
          exact sT_w (n104 _ (by omega))
        refine ⟨vok_of (s := 12) (by assumption) rfl, ?_⟩
        refine sc_i (D := 1) (fun d' hd' => k_X10_isDigitAt (by assumption) (by omega) hd') (by omega) ?_
        intro x22_ h22_
        try simp only [s_if_eq, s_inc2, tkl_n, tkl_i, tkl_l, tkl_r, s_goto, LR, IR, true_and, and_true, Nat.reduceAdd, Nat.reduceSub, eq_self]
        refine ⟨by omega, fun h23_ => ?_, fun h23_ => ?_⟩
        · refine sT_w ?_
          refine sblk (hv := false) kbl_X10_isNumber kbs_X10_isNumber (pc := 57) (pe := 75) (rk := 3) (i := 5) rfl (by decide +kernel) ?_
          simp only [kb_X10_isNumber_57, s_ald_0, s_gf_12_0, s_ild4, s_ca, s_bi, s_ic_ne, s_inc3, tkl_n, tkl_i, tkl_l, tkl_r, s_goto, LR, IR, true_and, and_true, Nat.reduceAdd, Nat.reduceSub, eq_self]
          refine ⟨by assumption, fun x25_ h25_ => ?_⟩
          refine ⟨aok_15 (by assumption) (by omega), fun x27_ g27_ => ?_⟩
          have h27_ := arg_15 (by assumption) g27_
          clear g27_
          refine ⟨by omega, fun h29_ => ?_, fun h29_ => ?_⟩
          · refine sT_w ?_
            refine sblk (hv := false) kbl_X10_isNumber kbs_X10_isNumber (pc := 75) (pe := 77) (rk := 3) (i := 6) rfl (by decide +kernel) ?_
            simp only [kb_X10_isNumber_75, s_ic, s_ire, trg, LR, IR, true_and, and_true, Nat.reduceAdd, Nat.reduceSub, eq_self]
            exact ⟨by omega, fun _ _ _ _ => ⟨_, rfl, rfl, by omega⟩⟩
          exact sT_w (n77 _ _ (by omega) (by omega) (by omega) (by omega) (by omega))
        exact sT_w (n77 _ _ (by omega) (by omega) (by omega) (by omega) (by omega))
    refine sblk (hv := false) kbl_X10_isNumber kbs_X10_isNumber (pc := 25) (pe := 33) (rk := 3) (i := 3) rfl (by decide +kernel) ?_
    simp only [kb_X10_isNumber_25, s_ist_1, tkl_n, tkl_i, tkl_l, tkl_r, s_ic, s_ist_2, s_ist_3, s_ild_1, s_ist4, s_nil, LR, IR, true_and, and_true, Nat.reduceAdd, Nat.reduceSub, eq_self]
    exact sT_w (n33 4294967400 _ _ _ _ (by omega) (by omega) (by omega) (by omega) (by omega) (by omega) (by omega))
  have n20 : ∀ (w1_20 : Option tV) (w2_20 : Option tV) (w3_20 : Option tV) (w4_20 : Option tV), sT e b M0 d 3078 20 [] [some (.inr (.inr (.inl r))), w1_20, w2_20, w3_20, w4_20] [] n (fun r n' _ => (SQi n (fun z => (0 ≤ z ∧ z ≤ 1))) r n') := by
    intro w1_20 w2_20 w3_20 w4_20 
    refine sblk (hv := false) kbl_X10_isNumber kbs_X10_isNumber (pc := 20) (pe := 24) (rk := 3) (i := 1) rfl (by decide +kernel) ?_
    simp only [kb_X10_isNumber_20, s_ic, s_goto, LR, IR, true_and, and_true, Nat.reduceAdd, Nat.reduceSub, eq_self]
    exact sT_w (n25 _ _ _ _ _ (by omega))
  refine sblk (hv := false) kbl_X10_isNumber kbs_X10_isNumber (pc := 0) (pe := 20) (rk := 3) (i := 0) rfl (by decide +kernel) ?_
  simp only [kb_X10_isNumber_0, s_ald_0, s_ic, s_iv1, tfr_0, tfr_1, tfr_2, tfr_3, tfr_4, s_bi, s_ic_eq, s_ic_ne, s_nil, LR, IR, true_and, and_true, Nat.reduceAdd, Nat.reduceSub, eq_self]
  refine ⟨vok_of (s := 12) (by assumption) rfl, ?_⟩
  refine sc_i (D := 0) (fun d' hd' => k_X10_at (by assumption) (by omega) hd') (by omega) ?_
  intro x47_ h47_
  try simp only [s_bi, s_ic_eq, s_ald_0, s_ic, s_iv1, tfr_0, tfr_1, tfr_2, tfr_3, tfr_4, s_ic_ne, s_nil, LR, IR, true_and, and_true, Nat.reduceAdd, Nat.reduceSub, eq_self]
  refine ⟨by omega, fun h49_ => ?_, fun h49_ => ?_⟩
  · exact sT_w (n20 _ _ _ _)
  refine ⟨vok_of (s := 12) (by assumption) rfl, ?_⟩
  refine sc_i (D := 0) (fun d' hd' => k_X10_at (by assumption) (by omega) hd') (by omega) ?_
  intro x52_ h52_
  try simp only [s_bi, s_ic_ne, s_nil, LR, IR, true_and, and_true, Nat.reduceAdd, Nat.reduceSub, eq_self]
  refine ⟨by omega, fun h54_ => ?_, fun h54_ => ?_⟩
  · refine sT_w ?_
    refine sblk (hv := false) kbl_X10_isNumber kbs_X10_isNumber (pc := 24) (pe := 25) (rk := 3) (i := 2) rfl (by decide +kernel) ?_
    simp only [kb_X10_isNumber_24, s_ic, s_nil, LR, IR, true_and, and_true, Nat.reduceAdd, Nat.reduceSub, eq_self]
    exact sT_w (n25 _ _ _ _ _ (by omega))
  exact sT_w (n20 _ _ _ _)
theorem k_X11_read {e : tE} {b : Nat} {d n : Nat} {r : Nat} {x1 : Int} (h0 : cl r 13) (h1 : (-2147483648 ≤ x1 ∧ x1 ≤ 2147483647)) (hb : b < 2) (hd : 5 ≤ d) : sC e b d 3383 [.inr (.inr (.inl r)), .inl x1] n (SQx n (SQi n (fun z => (0 ≤ z ∧ z ≤ 1))) (fun s => s = "java/lang/IllegalArgumentException" ∨ s = "java/lang/IllegalStateException" ∨ s = "java/lang/IndexOutOfBoundsException")) := by
  refine sK (fun M h => tst_X11_read h) (fun M0 => ?_)
  refine sblk (hv := false) kbl_X11_read kbs_X11_read (pc := 0) (pe := 18) (rk := 3) (i := 0) rfl (by decide +kernel) ?_
  simp only [kb_X11_read_0, s_ald_0, s_ild_1, s_iv1, tfr_0, tfr_1, tfr_2, tfr_3, tfr_4, s_gf_13_1, s_iv0, s_if_ne, s_new, LR, IR, true_and, and_true, Nat.reduceAdd, Nat.reduceSub, eq_self]
  refine ⟨vok_of (s := 13) (by assumption) rfl, ?_⟩
  refine sc_xn (D := 0) (fun d' hd' => k_X11_checkShelf (by assumption) (by omega) hd') (by omega) rfl ?_ (fun s hs _ => Or.inr ⟨s, rfl, rfl, (fun h => Or.inr (Or.inr (h))) hs⟩)
  intro h3_
  try simp only [s_ald_0, s_gf_13_1, s_iv0, tfr_0, tfr_1, tfr_2, tfr_3, tfr_4, s_if_ne, s_new, LR, IR, true_and, and_true, Nat.reduceAdd, Nat.reduceSub, eq_self]
  refine ⟨by assumption, fun x5_ h5_ => ?_⟩
  refine ⟨vok_of (s := 12) (by assumption) rfl, ?_⟩
  refine sc_i (D := 2) (fun d' hd' => k_X10_isNumber (by assumption) hd') (by omega) ?_
  intro x6_ h6_
  try simp only [s_if_ne, s_new, LR, IR, true_and, and_true, Nat.reduceAdd, Nat.reduceSub, eq_self]
  refine ⟨by omega, fun h7_ => ?_, fun h7_ => ?_⟩
  · refine sT_w ?_
    refine sblk (hv := false) kbl_X11_read kbs_X11_read (pc := 25) (pe := 58) (rk := 3) (i := 2) rfl (by decide +kernel) ?_
    simp only [kb_X11_read_25, s_ald_0, s_gf_13_4, s_iv0, tfr_0, tfr_1, tfr_2, tfr_3, tfr_4, s_ild_1, s_gf_13_1, s_iv1, s_iv2, s_ist_2, tkl_n, tkl_i, tkl_l, tkl_r, s_ild_2, s_ire, trg, LR, IR, true_and, and_true, Nat.reduceAdd, Nat.reduceSub, eq_self]
    refine ⟨by assumption, fun x9_ h9_ => ?_⟩
    refine ⟨vok_of (s := 8) (by assumption) rfl, ?_⟩
    refine sc_n (D := 0) (fun d' hd' => k_X6_clear (by assumption) (by omega) hd') (by omega) ?_
    intro h10_
    try simp only [s_ald_0, s_ild_1, s_gf_13_4, s_gf_13_1, s_iv1, tfr_0, tfr_1, tfr_2, tfr_3, tfr_4, s_iv2, s_ist_2, tkl_n, tkl_i, tkl_l, tkl_r, s_iv0, s_ild_2, s_ire, trg, LR, IR, true_and, and_true, Nat.reduceAdd, Nat.reduceSub, eq_self]
    refine ⟨by assumption, fun x14_ h14_ => ?_⟩
    refine ⟨by assumption, fun x16_ h16_ => ?_⟩
    refine ⟨vok_of (s := 8) (by assumption) rfl, ?_⟩
    refine sc_i (D := 4) (fun d' hd' => k_X6_makeFrom (by assumption) (by assumption) (by omega) hd') (by omega) ?_
    intro x17_ h17_
    try simp only [s_iv2, tfr_0, tfr_1, tfr_2, tfr_3, tfr_4, s_ist_2, tkl_n, tkl_i, tkl_l, tkl_r, s_ald_0, s_gf_13_1, s_iv0, s_ild_2, s_ire, trg, LR, IR, true_and, and_true, Nat.reduceAdd, Nat.reduceSub, eq_self]
    refine ⟨vok_of (s := 13) (by assumption) rfl, ?_⟩
    refine sc_xi (D := 4) (fun d' hd' => k_X11_become (by assumption) (by omega) (by omega) (by omega) hd') (by omega) rfl ?_ (fun s hs _ => Or.inr ⟨s, rfl, rfl, (fun h => h.elim (fun h => absurd h.1 (by omega)) (fun h => Or.inr (Or.inl (h.2)))) hs⟩)
    intro x18_ h18_
    try simp only [s_ist_2, tkl_n, tkl_i, tkl_l, tkl_r, s_ald_0, s_gf_13_1, s_iv0, tfr_0, tfr_1, tfr_2, tfr_3, tfr_4, s_ild_2, s_ire, trg, LR, IR, true_and, and_true, Nat.reduceAdd, Nat.reduceSub, eq_self]
    refine ⟨by assumption, fun x21_ h21_ => ?_⟩
    refine ⟨vok_of (s := 12) (by assumption) rfl, ?_⟩
    refine sc_n (D := 0) (fun d' hd' => k_X10_clear (by assumption) (by omega) hd') (by omega) ?_
    intro h22_
    try simp only [s_ild_2, s_ire, trg, LR, IR, true_and, and_true, Nat.reduceAdd, Nat.reduceSub, eq_self]
    exact ⟨by omega, fun _ _ _ _ => Or.inl ⟨_, rfl, rfl, by omega⟩⟩
  exact fun _ _ _ _ => Or.inr ⟨_, rfl, rfl, Or.inl (rfl)⟩
theorem k_X11_signAt {e : tE} {b : Nat} {d n : Nat} {r : Nat} {x1 : Int} (h0 : cl r 13) (h1 : (-2147483648 ≤ x1 ∧ x1 ≤ 2147483647)) (hd : 1 ≤ d) : sC e b d 3388 [.inr (.inr (.inl r)), .inl x1] n (SQx n (SQi n (fun z => (0 ≤ z ∧ z ≤ 65535))) (fun s => s = "java/lang/IllegalArgumentException")) := by
  refine sK (fun M h => tst_X11_signAt h) (fun M0 => ?_)
  have n15 : sT e b M0 d 3388 15 [] [some (.inr (.inr (.inl r))), some (.inl x1)] [] n (fun r n' _ => (SQx n (SQi n (fun z => (0 ≤ z ∧ z ≤ 65535))) (fun s => s = "java/lang/IllegalArgumentException")) r n') := by
    refine sblk (hv := false) kbl_X11_signAt kbs_X11_signAt (pc := 15) (pe := 18) (rk := 4) (i := 1) rfl (by decide +kernel) ?_
    simp only [kb_X11_signAt_15, s_new, LR, IR, true_and, and_true, Nat.reduceAdd, Nat.reduceSub, eq_self]
    exact fun _ _ _ _ => Or.inr ⟨_, rfl, rfl, rfl⟩
  refine sblk (hv := false) kbl_X11_signAt kbs_X11_signAt (pc := 0) (pe := 15) (rk := 4) (i := 0) rfl (by decide +kernel) ?_
  simp only [kb_X11_signAt_0, s_ild_1, s_if_lt, s_ald_0, s_gf_13_1, s_gf_12_1, s_ic_lt, s_nil, LR, IR, true_and, and_true, Nat.reduceAdd, Nat.reduceSub, eq_self]
  refine ⟨by omega, fun h3_ => ?_, fun h3_ => ?_⟩
  · exact sT_w (n15)
  refine ⟨by assumption, fun x6_ h6_ => ?_⟩
  refine ⟨by assumption, fun x7_ h7_ g7_ k7_ => ?_⟩
  clear k7_
  refine ⟨by omega, fun h8_ => ?_, fun h8_ => ?_⟩
  · refine sT_w ?_
    refine sblk (hv := false) kbl_X11_signAt kbs_X11_signAt (pc := 25) (pe := 34) (rk := 4) (i := 3) rfl (by decide +kernel) ?_
    simp only [kb_X11_signAt_25, s_ald_0, s_gf_13_1, s_ild_1, s_iv1, tfr_0, tfr_1, tfr_2, tfr_3, tfr_4, s_ire, trg, LR, IR, true_and, and_true, Nat.reduceAdd, Nat.reduceSub, eq_self]
    refine ⟨by assumption, fun x10_ h10_ => ?_⟩
    refine ⟨vok_of (s := 12) (by assumption) rfl, ?_⟩
    refine sc_i (D := 0) (fun d' hd' => k_X10_at (by assumption) (by omega) hd') (by omega) ?_
    intro x12_ h12_
    try simp only [s_ire, trg, LR, IR, true_and, and_true, Nat.reduceAdd, Nat.reduceSub, eq_self]
    exact ⟨by omega, fun _ _ _ _ => Or.inl ⟨_, rfl, rfl, by omega⟩⟩
  exact sT_w (n15)
theorem k_X11_sure {e : tE} {b : Nat} {d n : Nat} {r : Nat} {x1 : Int} (h0 : cl r 13) (h1 : (-2147483648 ≤ x1 ∧ x1 ≤ 2147483647)) (hb : b < 2 ∨ b = 3) (hd : 3 ≤ d) : sC e b d 3393 [.inr (.inr (.inl r)), .inl x1] n (SQx n (SQi n (fun z => (-1 ≤ z ∧ z ≤ 10))) (fun s => s = "java/lang/IndexOutOfBoundsException" ∨ s = "java/util/NoSuchElementException")) := by
  refine sK (fun M h => tst_X11_sure h) (fun M0 => ?_)
  have n22 : ∀ (fu : Nat) (q2_22 : Nat) (i3_22 : Int), i3_22 + 1 + 1 ≤ (fu : Int) → cl q2_22 4 → (-1 ≤ i3_22 ∧ i3_22 ≤ 10) → sT e b M0 d 3393 22 [] [some (.inr (.inr (.inl r))), some (.inl x1), some (.inr (.inr (.inl q2_22))), some (.inl i3_22)] [] n (fun r n' _ => (SQx n (SQi n (fun z => (-1 ≤ z ∧ z ≤ 10))) (fun s => s = "java/lang/IndexOutOfBoundsException" ∨ s = "java/util/NoSuchElementException")) r n') := by
    intro fu
    induction fu with
    | zero =>
      intro q2_22 i3_22 hm y22_0 y22_1
      exfalso; omega
    | succ fu ih =>
      intro q2_22 i3_22 hm y22_0 y22_1
      have ih22 := ih
      clear ih
      refine sblk (hv := false) kbl_X11_sure kbs_X11_sure (pc := 22) (pe := 86) (rk := 0) (i := 1) rfl (by decide +kernel) ?_
      simp only [kb_X11_sure_22, s_ild_3, s_if_lt, s_ald_0, s_gf_13_15, s_ald_2, s_gf_4_0, s_iv1, tfr_0, tfr_1, tfr_2, tfr_3, tfr_4, s_is1, s_gf_13_16, s_gf_4_1, s_if_ne, s_ire, trg, LR, IR, true_and, and_true, Nat.reduceAdd, Nat.reduceSub, eq_self]
      refine ⟨by omega, fun h2_ => ?_, fun h2_ => ?_⟩
      · refine sT_w ?_
        refine sblk (hv := false) kbl_X11_sure kbs_X11_sure (pc := 92) (pe := 94) (rk := 0) (i := 3) rfl (by decide +kernel) ?_
        simp only [kb_X11_sure_92, s_ic, s_ire, trg, LR, IR, true_and, and_true, Nat.reduceAdd, Nat.reduceSub, eq_self]
        exact fun _ _ _ _ => Or.inl ⟨_, rfl, rfl, by omega⟩
      refine ⟨by assumption, fun x6_ h6_ => ?_⟩
      refine ⟨by assumption, fun x8_ h8_ => ?_⟩
      refine ⟨vok_of (s := 3) (by assumption) rfl, ?_⟩
      refine sc_n (D := 0) (fun d' hd' => k_X1_copy (by assumption) (by assumption) (by omega) hd') (by omega) ?_
      intro h9_
      try simp only [s_ald_0, s_gf_13_15, s_ild_3, s_is1, tfr_0, tfr_1, tfr_2, tfr_3, tfr_4, s_iv1, s_gf_13_16, s_ald_2, s_gf_4_1, s_if_ne, s_ire, trg, LR, IR, true_and, and_true, Nat.reduceAdd, Nat.reduceSub, eq_self]
      refine ⟨by assumption, fun x11_ h11_ => ?_⟩
      refine sc_l (D := 0) (fun d' hd' => k_X11_unitOf (by omega) hd') (by omega) ?_
      intro x13_ h13_
      try simp only [s_iv1, tfr_0, tfr_1, tfr_2, tfr_3, tfr_4, s_ald_0, s_gf_13_16, s_ald_2, s_gf_4_1, s_ild_3, s_is1, s_gf_13_15, s_if_ne, s_ire, trg, LR, IR, true_and, and_true, Nat.reduceAdd, Nat.reduceSub, eq_self]
      refine ⟨vok_of (s := 3) (by assumption) rfl, ?_⟩
      refine sc_n (D := 0) (fun d' hd' => k_X1_roundDown (by assumption) (by omega) (by omega) hd') (by omega) ?_
      intro h14_
      try simp only [s_ald_0, s_gf_13_16, s_ald_2, s_gf_4_1, s_iv1, tfr_0, tfr_1, tfr_2, tfr_3, tfr_4, s_ild_3, s_is1, s_gf_13_15, s_if_ne, s_ire, trg, LR, IR, true_and, and_true, Nat.reduceAdd, Nat.reduceSub, eq_self]
      refine ⟨by assumption, fun x16_ h16_ => ?_⟩
      refine ⟨by assumption, fun x18_ h18_ => ?_⟩
      refine ⟨vok_of (s := 3) (by assumption) rfl, ?_⟩
      refine sc_n (D := 0) (fun d' hd' => k_X1_copy (by assumption) (by assumption) (by omega) hd') (by omega) ?_
      intro h19_
      try simp only [s_ald_0, s_gf_13_16, s_ild_3, s_is1, tfr_0, tfr_1, tfr_2, tfr_3, tfr_4, s_iv1, s_gf_13_15, s_if_ne, s_ire, trg, LR, IR, true_and, and_true, Nat.reduceAdd, Nat.reduceSub, eq_self]
      refine ⟨by assumption, fun x21_ h21_ => ?_⟩
      refine sc_l (D := 0) (fun d' hd' => k_X11_unitOf (by omega) hd') (by omega) ?_
      intro x23_ h23_
      try simp only [s_iv1, tfr_0, tfr_1, tfr_2, tfr_3, tfr_4, s_ald_0, s_gf_13_15, s_gf_13_16, s_if_ne, s_ild_3, s_ire, trg, LR, IR, true_and, and_true, Nat.reduceAdd, Nat.reduceSub, eq_self]
      refine ⟨vok_of (s := 3) (by assumption) rfl, ?_⟩
      refine sc_n (D := 0) (fun d' hd' => k_X1_roundDown (by assumption) (by omega) (by omega) hd') (by omega) ?_
      intro h24_
      try simp only [s_ald_0, s_gf_13_15, s_gf_13_16, s_iv1, tfr_0, tfr_1, tfr_2, tfr_3, tfr_4, s_if_ne, s_ild_3, s_ire, trg, LR, IR, true_and, and_true, Nat.reduceAdd, Nat.reduceSub, eq_self]
      refine ⟨by assumption, fun x26_ h26_ => ?_⟩
      refine ⟨by assumption, fun x28_ h28_ => ?_⟩
      refine ⟨vok_of (s := 3) (by assumption) rfl, ?_⟩
      refine sc_i (D := 1) (fun d' hd' => k_X1_against (by assumption) (by assumption) hd') (by omega) ?_
      intro x29_ h29_
      try simp only [s_if_ne, s_ild_3, s_ire, trg, LR, IR, true_and, and_true, Nat.reduceAdd, Nat.reduceSub, eq_self]
      refine ⟨by omega, fun h30_ => ?_, fun h30_ => ?_⟩
      · refine sT_w ?_
        refine sblk (hv := false) kbl_X11_sure kbs_X11_sure (pc := 86) (pe := 92) (rk := 0) (i := 2) rfl (by decide +kernel) ?_
        simp only [kb_X11_sure_86, s_inc3, tkl_n, tkl_i, tkl_l, tkl_r, s_goto, LR, IR, true_and, and_true, Nat.reduceAdd, Nat.reduceSub, eq_self]
        exact sT_w (ih22 _ _ (by omega) (by assumption) (by omega))
      exact fun _ _ _ _ => Or.inl ⟨_, rfl, rfl, by omega⟩
  refine sblk (hv := false) kbl_X11_sure kbs_X11_sure (pc := 0) (pe := 22) (rk := 0) (i := 0) rfl (by decide +kernel) ?_
  simp only [kb_X11_sure_0, s_ald_0, s_ild_1, s_iv1, tfr_0, tfr_1, tfr_2, tfr_3, tfr_4, s_gf_13_3, s_ast_2, tkl_n, tkl_i, tkl_l, tkl_r, s_bi, s_ist_3, s_nil, LR, IR, true_and, and_true, Nat.reduceAdd, Nat.reduceSub, eq_self]
  refine ⟨vok_of (s := 13) (by assumption) rfl, ?_⟩
  refine sc_xn (D := 0) (fun d' hd' => k_X11_checkShelf (by assumption) (by omega) hd') (by omega) rfl ?_ (fun s hs _ => Or.inr ⟨s, rfl, rfl, (fun h => Or.inl (h)) hs⟩)
  intro h37_
  try simp only [s_ald_0, s_ild_1, s_iv1, tfr_0, tfr_1, tfr_2, tfr_3, tfr_4, s_gf_13_3, s_ast_2, tkl_n, tkl_i, tkl_l, tkl_r, s_bi, s_ist_3, s_nil, LR, IR, true_and, and_true, Nat.reduceAdd, Nat.reduceSub, eq_self]
  refine ⟨vok_of (s := 13) (by assumption) rfl, ?_⟩
  refine sc_xn (D := 2) (fun d' hd' => k_X11_checkHeld (by assumption) (by omega) hd') (by omega) rfl ?_ (fun s hs _ => Or.inr ⟨s, rfl, rfl, (fun h => Or.inr (h)) hs⟩)
  intro h40_
  try simp only [s_ald_0, s_gf_13_3, s_ild_1, s_iv1, tfr_0, tfr_1, tfr_2, tfr_3, tfr_4, s_ast_2, tkl_n, tkl_i, tkl_l, tkl_r, s_bi, s_ist_3, s_nil, LR, IR, true_and, and_true, Nat.reduceAdd, Nat.reduceSub, eq_self]
  refine ⟨by assumption, fun x42_ h42_ => ?_⟩
  refine ⟨vok_of (s := 11) (by assumption) rfl, ?_⟩
  refine sc_r (D := 1) (fun d' hd' => k_X9_box (by assumption) (by omega) hd') (by omega) ?_
  intro x44_ h44_
  try simp only [s_ast_2, tkl_n, tkl_i, tkl_l, tkl_r, s_bi, s_ist_3, s_nil, LR, IR, true_and, and_true, Nat.reduceAdd, Nat.reduceSub, eq_self]
  exact sT_w (n22 4294967400 _ _ (by omega) (by assumption) (by omega))
theorem k_X11_type {e : tE} {b : Nat} {d n : Nat} {r : Nat} {x1 : Int} (h0 : cl r 13) (h1 : (0 ≤ x1 ∧ x1 ≤ 65535)) (hb : b < 2) (hd : 1 ≤ d) : sC e b d 3395 [.inr (.inr (.inl r)), .inl x1] n (SQx n (SQi n (fun z => (0 ≤ z ∧ z ≤ 60))) (fun s => s = "java/lang/IllegalArgumentException" ∨ s = "java/lang/IllegalStateException")) := by
  refine sK (fun M h => tst_X11_type h) (fun M0 => ?_)
  have n12 : (0 ≤ x1 ∧ x1 ≤ 65535) → sT e b M0 d 3395 12 [] [some (.inr (.inr (.inl r))), some (.inl x1)] [] n (fun r n' _ => (SQx n (SQi n (fun z => (0 ≤ z ∧ z ≤ 60))) (fun s => s = "java/lang/IllegalArgumentException" ∨ s = "java/lang/IllegalStateException")) r n') := by
    intro  y12_0
    refine sblk (hv := false) kbl_X11_type kbs_X11_type (pc := 12) (pe := 15) (rk := 0) (i := 1) rfl (by decide +kernel) ?_
    simp only [kb_X11_type_12, s_new, LR, IR, true_and, and_true, Nat.reduceAdd, Nat.reduceSub, eq_self]
    exact fun _ _ _ _ => Or.inr ⟨_, rfl, rfl, Or.inl (rfl)⟩
  refine sblk (hv := false) kbl_X11_type kbs_X11_type (pc := 0) (pe := 12) (rk := 0) (i := 0) rfl (by decide +kernel) ?_
  simp only [kb_X11_type_0, s_ild_1, s_bi, s_ic_lt, s_ic_le, s_nil, LR, IR, true_and, and_true, Nat.reduceAdd, Nat.reduceSub, eq_self]
  refine ⟨by omega, fun h4_ => ?_, fun h4_ => ?_⟩
  · exact sT_w (n12 (by omega))
  refine ⟨by omega, fun h7_ => ?_, fun h7_ => ?_⟩
  · refine sT_w ?_
    refine sblk (hv := false) kbl_X11_type kbs_X11_type (pc := 22) (pe := 37) (rk := 0) (i := 3) rfl (by decide +kernel) ?_
    simp only [kb_X11_type_22, s_ald_0, s_gf_13_1, s_gf_12_1, s_bi, s_ic_lt, s_new, LR, IR, true_and, and_true, Nat.reduceAdd, Nat.reduceSub, eq_self]
    refine ⟨by assumption, fun x9_ h9_ => ?_⟩
    refine ⟨by assumption, fun x10_ h10_ g10_ k10_ => ?_⟩
    clear k10_
    refine ⟨by omega, fun h12_ => ?_, fun h12_ => ?_⟩
    · refine sT_w ?_
      refine sblk (hv := false) kbl_X11_type kbs_X11_type (pc := 44) (pe := 60) (rk := 0) (i := 5) rfl (by decide +kernel) ?_
      simp only [kb_X11_type_44, s_ald_0, s_gf_13_1, s_ild_1, s_iv1, tfr_0, tfr_1, tfr_2, tfr_3, tfr_4, s_gf_12_1, s_ire, trg, LR, IR, true_and, and_true, Nat.reduceAdd, Nat.reduceSub, eq_self]
      refine ⟨by assumption, fun x14_ h14_ => ?_⟩
      refine ⟨vok_of (s := 12) (by assumption) rfl, ?_⟩
      refine sc_n (D := 0) (fun d' hd' => k_X10_append (by assumption) (by omega) (by omega) hd') (by omega) ?_
      intro h16_
      try simp only [s_ald_0, s_gf_13_1, s_gf_12_1, s_ire, trg, LR, IR, true_and, and_true, Nat.reduceAdd, Nat.reduceSub, eq_self]
      refine ⟨by assumption, fun x18_ h18_ => ?_⟩
      refine ⟨by assumption, fun x19_ h19_ g19_ k19_ => ?_⟩
      clear k19_
      exact fun _ _ _ _ => Or.inl ⟨_, rfl, rfl, by omega⟩
    exact fun _ _ _ _ => Or.inr ⟨_, rfl, rfl, Or.inr (rfl)⟩
  exact sT_w (n12 (by omega))
theorem k_X9_takeBack {e : tE} {b : Nat} {d n : Nat} {r : Nat} (h0 : cl r 11) (hb : b < 2) (hd : 2 ≤ d) : sC e b d 2821 [.inr (.inr (.inl r))] n (SQi n (fun z => (-1 ≤ z ∧ z ≤ 9))) := by
  refine sK (fun M h => tst_X9_takeBack h) (fun M0 => ?_)
  refine sblk (hv := false) kbl_X9_takeBack kbs_X9_takeBack (pc := 0) (pe := 9) (rk := 0) (i := 0) rfl (by decide +kernel) ?_
  simp only [kb_X9_takeBack_0, s_ald_0, s_gf_11_6, s_if_ne, s_ic, s_ire, trg, LR, IR, true_and, and_true, Nat.reduceAdd, Nat.reduceSub, eq_self]
  refine ⟨by assumption, fun x2_ h2_ g2_ k2_ => ?_⟩
  simp (disch := decide) only [gk, gd, eq_self, true_imp_iff, false_imp_iff, and_true, true_and, Nat.reduceEqDiff, reduceIte, reduceCtorEq, ne_eq, not_false_eq_true] at k2_
  refine ⟨by omega, fun h3_ => ?_, fun h3_ => ?_⟩
  · refine sblk (hv := false) kbl_X9_takeBack kbs_X9_takeBack (pc := 9) (pe := 68) (rk := 0) (i := 1) rfl (by decide +kernel) ?_
    simp only [kb_X9_takeBack_9, s_ald_0, s_dupi, s_dupr, s_gf_11_6, s_ic, s_isub, s_pf_11_6, s_gf_11_5, s_iadd, s_bi, s_irem, s_ist_1, tkl_n, tkl_i, tkl_l, tkl_r, s_gf_11_4, s_ild_1, s_ia, s_iax, s_ist_2, s_gf_11_1, s_ild_2, s_gf_11_3, s_ba, s_bas, s_gf_11_0, s_aa, s_gf_11_2, s_iv1, tfr_0, tfr_1, tfr_2, tfr_3, tfr_4, s_ire, trg, LR, IR, true_and, and_true, Nat.reduceAdd, Nat.reduceSub, eq_self]
    refine ⟨by assumption, fun x6_ h6_ g6_ k6_ => ?_⟩
    simp (disch := decide) only [gk, gd, eq_self, true_imp_iff, false_imp_iff, and_true, true_and, Nat.reduceEqDiff, reduceIte, reduceCtorEq, ne_eq, not_false_eq_true] at k6_
    refine ⟨by omega, by assumption, by omega, ?_⟩
    refine ⟨by assumption, fun x11_ h11_ g11_ k11_ => ?_⟩
    simp (disch := decide) only [gk, gd, eq_self, true_imp_iff, false_imp_iff, and_true, true_and, Nat.reduceEqDiff, reduceIte, reduceCtorEq, ne_eq, not_false_eq_true] at k11_
    refine ⟨by assumption, fun x13_ h13_ g13_ k13_ => ?_⟩
    simp (disch := decide) only [gk, gd, eq_self, true_imp_iff, false_imp_iff, and_true, true_and, Nat.reduceEqDiff, reduceIte, reduceCtorEq, ne_eq, not_false_eq_true] at k13_
    refine ⟨by omega, fun x16_ h16_ g16_ => ?_⟩
    refine ⟨by assumption, fun x19_ h19_ => ?_⟩
    refine ⟨aok_20 (by assumption) (by omega), fun x21_ g21_ => ?_⟩
    have h21_ := arg_20 (by assumption) g21_
    clear g21_
    refine ⟨by assumption, fun x24_ h24_ => ?_⟩
    refine ⟨by assumption, fun x27_ h27_ => ?_⟩
    refine ⟨aok_19 (by assumption) (by omega), fun x29_ g29_ => ?_⟩
    have h29_ := arg_19 (by assumption) g29_
    clear g29_
    refine ⟨by omega, aok_17 (by assumption) (by omega), ars_17 (by assumption) (by omega), n26_17 (by assumption), ?_⟩
    refine ⟨by assumption, fun x32_ h32_ => ?_⟩
    refine Or.inl ⟨aok_16 (by assumption) (by omega), fun x34_ h34_ => ?_⟩
    refine ⟨by assumption, fun x36_ h36_ => ?_⟩
    refine Or.inl ⟨aok_18 (by assumption) (by omega), fun x38_ h38_ => ?_⟩
    refine ⟨vok_of (s := 4) (by assumption) rfl, ?_⟩
    refine s3_n (D := 1) (fun d' hd' => k_X2_copy (by assumption) (by assumption) (by omega) hd') (by omega) (by omega) (by repeat' first | exact trivial | exact ne3 (by assumption) (by decide) | refine ⟨?_, ?_⟩) ?_
    intro h39_
    try simp only [s_ild_2, s_ire, trg, LR, IR, true_and, and_true, Nat.reduceAdd, Nat.reduceSub, eq_self]
    exact fun _ _ _ _ => ⟨_, rfl, rfl, by omega⟩
  exact fun _ _ _ _ => ⟨_, rfl, rfl, by omega⟩
theorem k_X11_undo {e : tE} {b : Nat} {d n : Nat} {r : Nat} (h0 : cl r 13) (hb : b < 2) (hd : 3 ≤ d) : sC e b d 3396 [.inr (.inr (.inl r))] n (SQx n (SQi n (fun z => (0 ≤ z ∧ z ≤ 9))) (fun s => s = "java/util/NoSuchElementException")) := by
  refine sK (fun M h => tst_X11_undo h) (fun M0 => ?_)
  refine sblk (hv := false) kbl_X11_undo kbs_X11_undo (pc := 0) (pe := 15) (rk := 0) (i := 0) rfl (by decide +kernel) ?_
  simp only [kb_X11_undo_0, s_ald_0, s_gf_13_3, s_iv0, tfr_0, tfr_1, tfr_2, tfr_3, tfr_4, s_ist_1, tkl_n, tkl_i, tkl_l, tkl_r, s_ild_1, s_if_ge, s_new, LR, IR, true_and, and_true, Nat.reduceAdd, Nat.reduceSub, eq_self]
  refine ⟨by assumption, fun x2_ h2_ => ?_⟩
  refine ⟨vok_of (s := 11) (by assumption) rfl, ?_⟩
  refine sc_i (D := 2) (fun d' hd' => k_X9_takeBack (by assumption) (by omega) hd') (by omega) ?_
  intro x3_ h3_
  try simp only [s_ist_1, tkl_n, tkl_i, tkl_l, tkl_r, s_ild_1, s_if_ge, s_new, LR, IR, true_and, and_true, Nat.reduceAdd, Nat.reduceSub, eq_self]
  refine ⟨by omega, fun h6_ => ?_, fun h6_ => ?_⟩
  · refine sT_w ?_
    refine sblk (hv := false) kbl_X11_undo kbs_X11_undo (pc := 22) (pe := 24) (rk := 0) (i := 2) rfl (by decide +kernel) ?_
    simp only [kb_X11_undo_22, s_ild_1, s_ire, trg, LR, IR, true_and, and_true, Nat.reduceAdd, Nat.reduceSub, eq_self]
    exact fun _ _ _ _ => Or.inl ⟨_, rfl, rfl, by omega⟩
  exact fun _ _ _ _ => Or.inr ⟨_, rfl, rfl, rfl⟩
theorem k_X11_width {e : tE} {b : Nat} {d n : Nat} {r : Nat} {x1 : Int} (h0 : cl r 13) (h1 : (-2147483648 ≤ x1 ∧ x1 ≤ 2147483647)) (hb : b < 2) (hd : 3 ≤ d) : sC e b d 3399 [.inr (.inr (.inl r)), .inl x1] n (SQx n (SQi n (fun z => (0 ≤ z ∧ z ≤ 60))) (fun s => s = "java/lang/IndexOutOfBoundsException" ∨ s = "java/util/NoSuchElementException")) := by
  refine sK (fun M h => tst_X11_width h) (fun M0 => ?_)
  refine sblk (hv := false) kbl_X11_width kbs_X11_width (pc := 0) (pe := 53) (rk := 0) (i := 0) rfl (by decide +kernel) ?_
  simp only [kb_X11_width_0, s_ald_0, s_ild_1, s_iv1, tfr_0, tfr_1, tfr_2, tfr_3, tfr_4, s_gf_13_3, s_ast_2, tkl_n, tkl_i, tkl_l, tkl_r, s_gf_13_15, s_ald_2, s_gf_4_1, s_gf_4_0, s_iv2, s_gf_13_1, s_gf_12_1, s_ire, trg, LR, IR, true_and, and_true, Nat.reduceAdd, Nat.reduceSub, eq_self]
  refine ⟨vok_of (s := 13) (by assumption) rfl, ?_⟩
  refine sc_xn (D := 0) (fun d' hd' => k_X11_checkShelf (by assumption) (by omega) hd') (by omega) rfl ?_ (fun s hs _ => Or.inr ⟨s, rfl, rfl, (fun h => Or.inl (h)) hs⟩)
  intro h3_
  try simp only [s_ald_0, s_ild_1, s_iv1, tfr_0, tfr_1, tfr_2, tfr_3, tfr_4, s_gf_13_3, s_ast_2, tkl_n, tkl_i, tkl_l, tkl_r, s_gf_13_15, s_ald_2, s_gf_4_1, s_gf_4_0, s_iv2, s_gf_13_1, s_gf_12_1, s_ire, trg, LR, IR, true_and, and_true, Nat.reduceAdd, Nat.reduceSub, eq_self]
  refine ⟨vok_of (s := 13) (by assumption) rfl, ?_⟩
  refine sc_xn (D := 2) (fun d' hd' => k_X11_checkHeld (by assumption) (by omega) hd') (by omega) rfl ?_ (fun s hs _ => Or.inr ⟨s, rfl, rfl, (fun h => Or.inr (h)) hs⟩)
  intro h6_
  try simp only [s_ald_0, s_gf_13_3, s_ild_1, s_iv1, tfr_0, tfr_1, tfr_2, tfr_3, tfr_4, s_ast_2, tkl_n, tkl_i, tkl_l, tkl_r, s_gf_13_15, s_ald_2, s_gf_4_1, s_gf_4_0, s_iv2, s_gf_13_1, s_gf_12_1, s_ire, trg, LR, IR, true_and, and_true, Nat.reduceAdd, Nat.reduceSub, eq_self]
  refine ⟨by assumption, fun x8_ h8_ => ?_⟩
  refine ⟨vok_of (s := 11) (by assumption) rfl, ?_⟩
  refine sc_r (D := 1) (fun d' hd' => k_X9_box (by assumption) (by omega) hd') (by omega) ?_
  intro x10_ h10_
  try simp only [s_ast_2, tkl_n, tkl_i, tkl_l, tkl_r, s_ald_0, s_gf_13_15, s_ald_2, s_gf_4_1, s_gf_4_0, s_iv2, tfr_0, tfr_1, tfr_2, tfr_3, tfr_4, s_gf_13_1, s_iv1, s_gf_12_1, s_ire, trg, LR, IR, true_and, and_true, Nat.reduceAdd, Nat.reduceSub, eq_self]
  refine ⟨by assumption, fun x13_ h13_ => ?_⟩
  refine ⟨by assumption, fun x15_ h15_ => ?_⟩
  refine ⟨by assumption, fun x17_ h17_ => ?_⟩
  refine ⟨vok_of (s := 3) (by assumption) rfl, ?_⟩
  refine sc_n (D := 0) (fun d' hd' => k_X1_toDifference (by assumption) (by assumption) (by assumption) (by omega) hd') (by omega) ?_
  intro h18_
  try simp only [s_ald_0, s_gf_13_1, s_gf_13_15, s_iv1, tfr_0, tfr_1, tfr_2, tfr_3, tfr_4, s_gf_12_1, s_ire, trg, LR, IR, true_and, and_true, Nat.reduceAdd, Nat.reduceSub, eq_self]
  refine ⟨by assumption, fun x20_ h20_ => ?_⟩
  refine ⟨by assumption, fun x22_ h22_ => ?_⟩
  refine ⟨vok_of (s := 12) (by assumption) rfl, ?_⟩
  refine sc_n (D := 1) (fun d' hd' => k_X10_write (by assumption) (by assumption) (by omega) hd') (by omega) ?_
  intro h23_
  try simp only [s_ald_0, s_gf_13_1, s_gf_12_1, s_ire, trg, LR, IR, true_and, and_true, Nat.reduceAdd, Nat.reduceSub, eq_self]
  refine ⟨by assumption, fun x25_ h25_ => ?_⟩
  refine ⟨by assumption, fun x26_ h26_ g26_ k26_ => ?_⟩
  clear k26_
  exact fun _ _ _ _ => Or.inl ⟨_, rfl, rfl, by omega⟩
theorem k_X7_takeLast {e : tE} {b : Nat} {d n : Nat} {r : Nat} {x1 : Nat} (h0 : cl r 9) (h1 : cl x1 4) (hb : b < 2) (hd : 2 ≤ d) : sC e b d 2311 [.inr (.inr (.inl r)), .inr (.inr (.inl x1))] n (SQi n (fun z => (-2147483648 ≤ z ∧ z ≤ 2147483647))) := by
  refine sK (fun M h => tst_X7_takeLast h) (fun M0 => ?_)
  have n17 : ∀ (c17 : Int), (0 ≤ c17 ∧ c17 ≤ 7) → sT e b M0 d 2311 17 [(r, 3, c17)] [some (.inr (.inr (.inl r))), some (.inr (.inr (.inl x1)))] [] n (fun r n' _ => (SQi n (fun z => (-2147483648 ≤ z ∧ z ≤ 2147483647))) r n') := by
    intro c17 y17_0
    refine sblk (hv := false) kbl_X7_takeLast kbs_X7_takeLast (pc := 17) (pe := 40) (rk := 0) (i := 1) rfl (by decide +kernel) ?_
    simp only [kb_X7_takeLast_17, s_ald_1, s_ald_0, s_gf_9_0, s_gf_9_3, s_aa, s_iv1, tfr_0, tfr_1, tfr_2, tfr_3, tfr_4, s_gf_9_1, s_ia, s_iax, s_ire, trg, LR, IR, true_and, and_true, Nat.reduceAdd, Nat.reduceSub, eq_self]
    refine ⟨by assumption, fun x3_ h3_ => ?_⟩
    refine ⟨by assumption, fun x5_ h5_ g5_ k5_ => ?_⟩
    simp (disch := decide) only [gk, gd, eq_self, true_imp_iff, false_imp_iff, and_true, true_and, Nat.reduceEqDiff, reduceIte, reduceCtorEq, ne_eq, not_false_eq_true] at k5_
    refine Or.inl ⟨aok_29 (by assumption) (by omega), fun x6_ h6_ => ?_⟩
    refine ⟨vok_of (s := 4) (by assumption) rfl, ?_⟩
    refine s3_n (D := 1) (fun d' hd' => k_X2_copy (by assumption) (by assumption) (by omega) hd') (by omega) (by omega) (by repeat' first | exact trivial | exact ne3 (by assumption) (by decide) | refine ⟨?_, ?_⟩) ?_
    intro h7_
    try simp only [s_ald_0, s_gf_9_1, s_gf_9_3, s_ia, s_iax, s_ire, trg, LR, IR, true_and, and_true, Nat.reduceAdd, Nat.reduceSub, eq_self]
    refine ⟨by assumption, fun x9_ h9_ => ?_⟩
    refine ⟨by assumption, fun x11_ h11_ g11_ k11_ => ?_⟩
    simp (disch := decide) only [gk, gd, eq_self, true_imp_iff, false_imp_iff, and_true, true_and, Nat.reduceEqDiff, reduceIte, reduceCtorEq, ne_eq, not_false_eq_true] at k11_
    refine ⟨aok_30 (by assumption) (by omega), fun x12_ g12_ => ?_⟩
    have h12_ := arg_30 (by assumption) g12_
    clear g12_
    exact fun _ _ _ _ => ⟨_, rfl, rfl, by omega⟩
  refine sblk (hv := false) kbl_X7_takeLast kbs_X7_takeLast (pc := 0) (pe := 17) (rk := 0) (i := 0) rfl (by decide +kernel) ?_
  simp only [kb_X7_takeLast_0, s_ald_0, s_gf_9_3, s_if_le, s_dupi, s_dupr, s_ic, s_isub, s_pf_9_3, s_nil, LR, IR, true_and, and_true, Nat.reduceAdd, Nat.reduceSub, eq_self]
  refine ⟨by assumption, fun x15_ h15_ g15_ k15_ => ?_⟩
  simp (disch := decide) only [gk, gd, eq_self, true_imp_iff, false_imp_iff, and_true, true_and, Nat.reduceEqDiff, reduceIte, reduceCtorEq, ne_eq, not_false_eq_true] at k15_
  refine ⟨by omega, fun h16_ => ?_, fun h16_ => ?_⟩
  · exact sT_g (G' := [(r, 3, _)]) (fun M hg => ⟨hg.1, trivial⟩) (n17 _ (by omega))
  refine ⟨by assumption, fun x19_ h19_ g19_ k19_ => ?_⟩
  simp (disch := decide) only [gk, gd, eq_self, true_imp_iff, false_imp_iff, and_true, true_and, Nat.reduceEqDiff, reduceIte, reduceCtorEq, ne_eq, not_false_eq_true] at k19_
  refine ⟨by omega, by assumption, by omega, ?_⟩
  exact sT_g (G' := [(r, 3, _)]) (fun M hg => ⟨hg.1, trivial⟩) (n17 _ (by omega))
