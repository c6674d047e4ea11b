/-! THE CLASS: methods, printed by wip/p2/gen/sgen.py. -/
theorem k_X1_against {e : tE} {b : Bool} {d n : Nat} {r : Nat} {x1 : Nat} (h0 : cl r 3) (h1 : cl x1 3) (hd : 1 ≤ d) : sC e b d 769 [.inr (.inr (.inl r)), .inr (.inr (.inl x1))] n (SQi n (fun z => (-1 ≤ z ∧ z ≤ 1))) := by
  refine sK (fun M h => tst_X1_against h) (fun M0 => ?_)
  have n37 : ∀ (is0_37 : Int), (-1 ≤ is0_37 ∧ is0_37 ≤ 1) → sT e b M0 d 769 37 [some (.inr (.inr (.inl r))), some (.inr (.inr (.inl x1)))] [.inl is0_37] n (SQi n (fun z => (-1 ≤ z ∧ z ≤ 1))) := by
    intro is0_37 y37_0
    refine sB (fun M => tb_X1_against_37) ?_
    simp only [kb_X1_against_37, s_ire, trg, LR, IR, true_and, and_true, Nat.reduceAdd, Nat.reduceSub, eq_self]
    exact ⟨_, rfl, rfl, by omega⟩
  refine sB (fun M => tb_X1_against_0) ?_
  simp only [kb_X1_against_0, s_ald_0, s_gf_3_0, s_ald_1, s_lcmp, ne_eq, tlc_r, tlc_eq, tlc_lt, tlc_ge, tlc_gt, tlc_le, s_if_eq, s_is2, tfr_0, tfr_1, tfr_2, tfr_3, tfr_4, s_goto, LR, IR, true_and, and_true, Nat.reduceAdd, Nat.reduceSub, eq_self]
  refine ⟨by assumption, fun x3_ h3_ => ?_⟩
  refine ⟨by assumption, fun x5_ h5_ => ?_⟩
  refine ⟨by omega, ?_⟩
  refine ⟨fun h7_ => ?_, fun h7_ => ?_⟩
  · refine sB (fun M => tb_X1_against_26) ?_
    simp only [kb_X1_against_26, s_ald_0, s_gf_3_1, s_ald_1, s_is2, tfr_0, tfr_1, tfr_2, tfr_3, tfr_4, s_nil, LR, IR, true_and, and_true, Nat.reduceAdd, Nat.reduceSub, eq_self]
    refine ⟨by assumption, fun x9_ h9_ => ?_⟩
    refine ⟨by assumption, fun x11_ h11_ => ?_⟩
    refine sc_i (D := 0) (fun d' hd' => k_J13_compare_74951 (by omega) (by omega) hd') (by omega) ?_
    intro x12_ h12_
    try simp only [s_nil, LR, IR, true_and, and_true, Nat.reduceAdd, Nat.reduceSub, eq_self]
    exact n37 _ (by omega)
  refine ⟨by assumption, fun x14_ h14_ => ?_⟩
  refine ⟨by assumption, fun x16_ h16_ => ?_⟩
  refine sc_i (D := 0) (fun d' hd' => k_J13_compare_74951 (by omega) (by omega) hd') (by omega) ?_
  intro x17_ h17_
  try simp only [s_goto, LR, IR, true_and, and_true, Nat.reduceAdd, Nat.reduceSub, eq_self]
  exact n37 _ (by omega)
theorem k_X2_isSingle {e : tE} {b : Bool} {d n : Nat} {r : Nat} (h0 : cl r 4) (hd : 2 ≤ d) : sC e b d 1031 [.inr (.inr (.inl r))] n (SQi n (fun z => (0 ≤ z ∧ z ≤ 1))) := by
  refine sK (fun M h => tst_X2_isSingle h) (fun M0 => ?_)
  have n19 : ∀ (is0_19 : Int), (0 ≤ is0_19 ∧ is0_19 ≤ 1) → sT e b M0 d 1031 19 [some (.inr (.inr (.inl r)))] [.inl is0_19] n (SQi n (fun z => (0 ≤ z ∧ z ≤ 1))) := by
    intro is0_19 y19_0
    refine sB (fun M => tb_X2_isSingle_19) ?_
    simp only [kb_X2_isSingle_19, s_ire, trg, LR, IR, true_and, and_true, Nat.reduceAdd, Nat.reduceSub, eq_self]
    exact ⟨by omega, ⟨_, rfl, rfl, by omega⟩⟩
  refine sB (fun M => tb_X2_isSingle_0) ?_
  simp only [kb_X2_isSingle_0, s_ald_0, s_gf_4_0, s_gf_4_1, s_iv1, tfr_0, tfr_1, tfr_2, tfr_3, tfr_4, s_if_ne, s_ic, s_goto, LR, IR, true_and, and_true, Nat.reduceAdd, Nat.reduceSub, eq_self]
  refine ⟨by assumption, fun x3_ h3_ => ?_⟩
  refine ⟨by assumption, fun x5_ h5_ => ?_⟩
  refine ⟨vok_of (s := 3) (by assumption) rfl, ?_⟩
  refine sc_i (D := 1) (fun d' hd' => k_X1_against (by assumption) (by assumption) hd') (by omega) ?_
  intro x6_ h6_
  try simp only [s_if_ne, s_ic, s_goto, LR, IR, true_and, and_true, Nat.reduceAdd, Nat.reduceSub, eq_self]
  refine ⟨by omega, fun h7_ => ?_, fun h7_ => ?_⟩
  · refine sB (fun M => tb_X2_isSingle_18) ?_
    simp only [kb_X2_isSingle_18, s_ic, s_nil, LR, IR, true_and, and_true, Nat.reduceAdd, Nat.reduceSub, eq_self]
    exact n19 _ (by omega)
  exact n19 _ (by omega)
theorem k_X1_isZero {e : tE} {b : Bool} {d n : Nat} {r : Nat} (h0 : cl r 3) (hd : 0 ≤ d) : sC e b d 777 [.inr (.inr (.inl r))] n (SQi n (fun z => (0 ≤ z ∧ z ≤ 1))) := by
  refine sK (fun M h => tst_X1_isZero h) (fun M0 => ?_)
  have n23 : ∀ (is0_23 : Int), (0 ≤ is0_23 ∧ is0_23 ≤ 1) → sT e b M0 d 777 23 [some (.inr (.inr (.inl r)))] [.inl is0_23] n (SQi n (fun z => (0 ≤ z ∧ z ≤ 1))) := by
    intro is0_23 y23_0
    refine sB (fun M => tb_X1_isZero_23) ?_
    simp only [kb_X1_isZero_23, s_ire, trg, LR, IR, true_and, and_true, Nat.reduceAdd, Nat.reduceSub, eq_self]
    exact ⟨by omega, ⟨_, rfl, rfl, by omega⟩⟩
  have n22 : sT e b M0 d 777 22 [some (.inr (.inr (.inl r)))] [] n (SQi n (fun z => (0 ≤ z ∧ z ≤ 1))) := by
    refine sB (fun M => tb_X1_isZero_22) ?_
    simp only [kb_X1_isZero_22, s_ic, s_nil, LR, IR, true_and, and_true, Nat.reduceAdd, Nat.reduceSub, eq_self]
    exact n23 _ (by omega)
  refine sB (fun M => tb_X1_isZero_0) ?_
  simp only [kb_X1_isZero_0, s_ald_0, s_gf_3_0, s_lc0, s_lcmp, ne_eq, tlc_r, tlc_eq, tlc_lt, tlc_ge, tlc_gt, tlc_le, s_if_ne, s_gf_3_1, s_ic, s_goto, LR, IR, true_and, and_true, Nat.reduceAdd, Nat.reduceSub, eq_self]
  refine ⟨by assumption, fun x4_ h4_ => ?_⟩
  refine ⟨by omega, ?_⟩
  refine ⟨fun h7_ => ?_, fun h7_ => ?_⟩
  · exact n22
  refine ⟨by assumption, fun x9_ h9_ => ?_⟩
  refine ⟨by omega, ?_⟩
  refine ⟨fun h12_ => ?_, fun h12_ => ?_⟩
  · exact n22
  exact n23 _ (by omega)
theorem k_X4_clear {e : tE} {b : Bool} {d n : Nat} {r : Nat} (h0 : cl r 6) (hd : 0 ≤ d) : sC e b d 1537 [.inr (.inr (.inl r))] n (SQn n (True)) := by
  refine sK (fun M h => tst_X4_clear h) (fun M0 => ?_)
  have n2 : ∀ (fu : Nat) (i1_2 : Int), 8 - i1_2 + 1 ≤ (fu : Int) → (0 ≤ i1_2 ∧ i1_2 ≤ 8) → sT e b M0 d 1537 2 [some (.inr (.inr (.inl r))), some (.inl i1_2)] [] n (SQn n (True)) := by
    intro fu
    induction fu with
    | zero =>
      intro i1_2 hm y2_0
      exfalso; omega
    | succ fu ih =>
      intro i1_2 hm y2_0
      have ih2 := ih
      clear ih
      refine sB (fun M => tb_X4_clear_2) ?_
      simp only [kb_X4_clear_2, s_ild_1, s_bi, s_ic_ge, s_ald_0, s_gf_6_0, s_lc0, s_las, s_inc1, tkl_n, tkl_i, tkl_l, tkl_r, s_goto, LR, IR, true_and, and_true, Nat.reduceAdd, Nat.reduceSub, eq_self]
      refine ⟨by omega, fun h3_ => ?_, fun h3_ => ?_⟩
      · refine sB (fun M => tb_X4_clear_21) ?_
        simp only [kb_X4_clear_21, s_re, LR, IR, true_and, and_true, Nat.reduceAdd, Nat.reduceSub, eq_self]
        exact ⟨rfl, rfl, by first | trivial | omega⟩
      refine ⟨by assumption, fun x6_ h6_ => ?_⟩
      refine ⟨aok_23 (by assumption) (by omega), ?_⟩
      exact ih2 _ (by omega) (by omega)
  refine sB (fun M => tb_X4_clear_0) ?_
  simp only [kb_X4_clear_0, s_ic, s_ist_1, tkl_n, tkl_i, tkl_l, tkl_r, s_nil, LR, IR, true_and, and_true, Nat.reduceAdd, Nat.reduceSub, eq_self]
  exact n2 4294967400 _ (by omega) (by omega)
theorem k_X3_begin {e : tE} {b : Bool} {d n : Nat} {r : Nat} {x1 : Int} (h0 : cl r 5) (h1 : (0 ≤ x1 ∧ x1 ≤ 1)) (hd : 1 ≤ d) : sC e b d 1282 [.inr (.inr (.inl r)), .inl x1] n (SQn n (True)) := by
  refine sK (fun M h => tst_X3_begin h) (fun M0 => ?_)
  refine sB (fun M => tb_X3_begin_0) ?_
  simp only [kb_X3_begin_0, s_ald_0, s_ic, s_pf_5_1, s_ild_1, s_pf_5_2, s_gf_5_6, s_iv0, tfr_0, tfr_1, tfr_2, tfr_3, tfr_4, s_re, LR, IR, true_and, and_true, Nat.reduceAdd, Nat.reduceSub, eq_self]
  refine ⟨by assumption, by omega, ?_⟩
  refine ⟨by assumption, by omega, ?_⟩
  refine ⟨by assumption, fun x8_ h8_ => ?_⟩
  refine ⟨vok_of (s := 6) (by assumption) rfl, ?_⟩
  refine sc_n (D := 0) (fun d' hd' => k_X4_clear (by assumption) hd') (by omega) ?_
  intro h9_
  try simp only [s_re, LR, IR, true_and, and_true, Nat.reduceAdd, Nat.reduceSub, eq_self]
  exact ⟨rfl, rfl, by first | trivial | omega⟩
theorem k_X1_toMultiple {e : tE} {b : Bool} {d n : Nat} {r : Nat} {x1 : Nat} {x2 : Int} (h0 : cl r 3) (h1 : cl x1 3) (h2 : (-9223372036854775808 ≤ x2 ∧ x2 < 9223372036854775808)) (hd : 0 ≤ d) : sC e b d 782 [.inr (.inr (.inl r)), .inr (.inr (.inl x1)), .inr (.inl x2)] n (SQn n (True)) := by
  refine sK (fun M h => tst_X1_toMultiple h) (fun M0 => ?_)
  refine sB (fun M => tb_X1_toMultiple_0) ?_
  simp only [kb_X1_toMultiple_0, s_ald_1, s_gf_3_1, s_lld_2, s_lmul, s_lst4, tkl_n, tkl_i, tkl_l, tkl_r, s_ald_0, s_gf_3_0, s_lld4, s_ld2, s_ldiv, s_ladd, s_pf_3_0, s_lrem, s_pf_3_1, s_re, LR, IR, true_and, and_true, Nat.reduceAdd, Nat.reduceSub, eq_self]
  refine ⟨by assumption, fun x2_ h2_ => ?_⟩
  intro x4_ h4_
  refine ⟨by assumption, fun x8_ h8_ => ?_⟩
  intro x10_ h10_
  refine ⟨by omega, fun x13_ h13_ => ?_⟩
  intro x14_ h14_
  refine ⟨by assumption, ?_⟩
  refine ⟨by omega, fun x19_ h19_ => ?_⟩
  refine ⟨by assumption, ?_⟩
  exact ⟨rfl, rfl, by first | trivial | omega⟩
theorem k_X3_nearestEighth {e : tE} {b : Bool} {d n : Nat} {r : Nat} (h0 : cl r 5) (hd : 1 ≤ d) : sC e b d 1285 [.inr (.inr (.inl r))] n (SQi n (fun z => (0 ≤ z ∧ z ≤ 8))) := by
  refine sK (fun M h => tst_X3_nearestEighth h) (fun M0 => ?_)
  have n16 : ∀ (fu : Nat) (i1_16 : Int), 8 - i1_16 + 1 ≤ (fu : Int) → (0 ≤ i1_16 ∧ i1_16 ≤ 8) → sT e b M0 d 1285 16 [some (.inr (.inr (.inl r))), some (.inl i1_16)] [] n (SQi n (fun z => (0 ≤ z ∧ z ≤ 8))) := by
    intro fu
    induction fu with
    | zero =>
      intro i1_16 hm y16_0
      exfalso; omega
    | succ fu ih =>
      intro i1_16 hm y16_0
      have ih16 := ih
      clear ih
      have n64 : sT e b M0 d 1285 64 [some (.inr (.inr (.inl r))), some (.inl i1_16)] [] n (SQi n (fun z => (0 ≤ z ∧ z ≤ 8))) := by
        refine sB (fun M => tb_X3_nearestEighth_64) ?_
        simp only [kb_X3_nearestEighth_64, s_ild_1, s_ire, trg, LR, IR, true_and, and_true, Nat.reduceAdd, Nat.reduceSub, eq_self]
        exact ⟨_, rfl, rfl, by omega⟩
      refine sB (fun M => tb_X3_nearestEighth_16) ?_
      simp only [kb_X3_nearestEighth_16, s_ild_1, s_bi, s_ic_ge, s_ald_0, s_gf_5_10, s_gf_5_12, s_ld2, s_i2l, s_lmul, s_lc1, s_ladd, s_iv2, tfr_0, tfr_1, tfr_2, tfr_3, tfr_4, s_gf_5_9, s_iv1, s_if_eq, s_goto, LR, IR, true_and, and_true, Nat.reduceAdd, Nat.reduceSub, eq_self]
      refine ⟨by omega, fun h5_ => ?_, fun h5_ => ?_⟩
      · exact n64
      refine ⟨by assumption, fun x7_ h7_ => ?_⟩
      refine ⟨by assumption, fun x9_ h9_ => ?_⟩
      refine ⟨by omega, ?_⟩
      intro x13_ h13_
      intro x15_ h15_
      refine ⟨vok_of (s := 3) (by assumption) rfl, ?_⟩
      refine sc_n (D := 0) (fun d' hd' => k_X1_toMultiple (by assumption) (by assumption) (by omega) hd') (by omega) ?_
      intro h16_
      try simp only [s_ald_0, s_gf_5_9, s_gf_5_10, s_iv1, tfr_0, tfr_1, tfr_2, tfr_3, tfr_4, s_if_eq, s_goto, LR, IR, true_and, and_true, Nat.reduceAdd, Nat.reduceSub, eq_self]
      refine ⟨by assumption, fun x18_ h18_ => ?_⟩
      refine ⟨by assumption, fun x20_ h20_ => ?_⟩
      refine ⟨vok_of (s := 3) (by assumption) rfl, ?_⟩
      refine sc_i (D := 0) (fun d' hd' => k_X1_isBelow (by assumption) (by assumption) hd') (by omega) ?_
      intro x21_ h21_
      try simp only [s_if_eq, s_goto, LR, IR, true_and, and_true, Nat.reduceAdd, Nat.reduceSub, eq_self]
      refine ⟨by omega, fun h22_ => ?_, fun h22_ => ?_⟩
      · refine sB (fun M => tb_X3_nearestEighth_58) ?_
        simp only [kb_X3_nearestEighth_58, s_inc1, tkl_n, tkl_i, tkl_l, tkl_r, s_goto, LR, IR, true_and, and_true, Nat.reduceAdd, Nat.reduceSub, eq_self]
        exact ih16 _ (by omega) (by omega)
      exact n64
  refine sB (fun M => tb_X3_nearestEighth_0) ?_
  simp only [kb_X3_nearestEighth_0, s_ald_0, s_gf_5_9, s_gf_5_11, s_ld2, s_iv2, tfr_0, tfr_1, tfr_2, tfr_3, tfr_4, s_ic, s_ist_1, tkl_n, tkl_i, tkl_l, tkl_r, s_nil, LR, IR, true_and, and_true, Nat.reduceAdd, Nat.reduceSub, eq_self]
  refine ⟨by assumption, fun x27_ h27_ => ?_⟩
  refine ⟨by assumption, fun x29_ h29_ => ?_⟩
  refine ⟨vok_of (s := 3) (by assumption) rfl, ?_⟩
  refine sc_n (D := 0) (fun d' hd' => k_X1_toMultiple (by assumption) (by assumption) (by omega) hd') (by omega) ?_
  intro h31_
  try simp only [s_ic, s_ist_1, tkl_n, tkl_i, tkl_l, tkl_r, s_nil, LR, IR, true_and, and_true, Nat.reduceAdd, Nat.reduceSub, eq_self]
  exact n16 4294967400 _ (by omega) (by omega)
theorem k_X4_copy {e : tE} {b : Bool} {d n : Nat} {r : Nat} {x1 : Nat} (h0 : cl r 6) (h1 : cl x1 6) (hd : 0 ≤ d) : sC e b d 1538 [.inr (.inr (.inl r)), .inr (.inr (.inl x1))] n (SQn n (True)) := by
  refine sK (fun M h => tst_X4_copy h) (fun M0 => ?_)
  have n2 : ∀ (fu : Nat) (i2_2 : Int), 8 - i2_2 + 1 ≤ (fu : Int) → (0 ≤ i2_2 ∧ i2_2 ≤ 8) → sT e b M0 d 1538 2 [some (.inr (.inr (.inl r))), some (.inr (.inr (.inl x1))), some (.inl i2_2)] [] n (SQn n (True)) := by
    intro fu
    induction fu with
    | zero =>
      intro i2_2 hm y2_0
      exfalso; omega
    | succ fu ih =>
      intro i2_2 hm y2_0
      have ih2 := ih
      clear ih
      refine sB (fun M => tb_X4_copy_2) ?_
      simp only [kb_X4_copy_2, s_ild_2, s_bi, s_ic_ge, s_ald_0, s_gf_6_0, s_ald_1, s_la, s_lax, forall_const, s_las, s_inc2, tkl_n, tkl_i, tkl_l, tkl_r, s_goto, LR, IR, true_and, and_true, Nat.reduceAdd, Nat.reduceSub, eq_self]
      refine ⟨by omega, fun h3_ => ?_, fun h3_ => ?_⟩
      · refine sB (fun M => tb_X4_copy_26) ?_
        simp only [kb_X4_copy_26, s_re, LR, IR, true_and, and_true, Nat.reduceAdd, Nat.reduceSub, eq_self]
        exact ⟨rfl, rfl, by first | trivial | omega⟩
      refine ⟨by assumption, fun x6_ h6_ => ?_⟩
      refine ⟨by assumption, fun x9_ h9_ => ?_⟩
      refine ⟨aok_23 (by assumption) (by omega), fun x11_ g11_ h11_ => ?_⟩
      refine ⟨aok_23 (by assumption) (by omega), ?_⟩
      exact ih2 _ (by omega) (by omega)
  refine sB (fun M => tb_X4_copy_0) ?_
  simp only [kb_X4_copy_0, s_ic, s_ist_2, tkl_n, tkl_i, tkl_l, tkl_r, s_nil, LR, IR, true_and, and_true, Nat.reduceAdd, Nat.reduceSub, eq_self]
  exact n2 4294967400 _ (by omega) (by omega)
theorem k_X4_isBelow {e : tE} {b : Bool} {d n : Nat} {r : Nat} {x1 : Nat} (h0 : cl r 6) (h1 : cl x1 6) (hd : 0 ≤ d) : sC e b d 1539 [.inr (.inr (.inl r)), .inr (.inr (.inl x1))] n (SQi n (fun z => (0 ≤ z ∧ z ≤ 1))) := by
  refine sK (fun M h => tst_X4_isBelow h) (fun M0 => ?_)
  have n3 : ∀ (fu : Nat) (i2_3 : Int), i2_3 - 0 + 1 ≤ (fu : Int) → (0 ≤ i2_3 ∧ i2_3 ≤ 7) → sT e b M0 d 1539 3 [some (.inr (.inr (.inl r))), some (.inr (.inr (.inl x1))), some (.inl i2_3)] [] n (SQi n (fun z => (0 ≤ z ∧ z ≤ 1))) := by
    intro fu
    induction fu with
    | zero =>
      intro i2_3 hm y3_0
      exfalso; omega
    | succ fu ih =>
      intro i2_3 hm y3_0
      have ih3 := ih
      clear ih
      have n29 : ∀ (i2_29 : Int), (0 ≤ i2_29 ∧ i2_29 ≤ 7) → sT e b M0 d 1539 29 [some (.inr (.inr (.inl r))), some (.inr (.inr (.inl x1))), some (.inl i2_29)] [] n (SQi n (fun z => (0 ≤ z ∧ z ≤ 1))) := by
        intro i2_29 y29_0
        have n50 : ∀ (is0_50 : Int), (0 ≤ is0_50 ∧ is0_50 ≤ 1) → sT e b M0 d 1539 50 [some (.inr (.inr (.inl r))), some (.inr (.inr (.inl x1))), some (.inl i2_29)] [.inl is0_50] n (SQi n (fun z => (0 ≤ z ∧ z ≤ 1))) := by
          intro is0_50 y50_0
          refine sB (fun M => tb_X4_isBelow_50) ?_
          simp only [kb_X4_isBelow_50, s_ire, trg, LR, IR, true_and, and_true, Nat.reduceAdd, Nat.reduceSub, eq_self]
          exact ⟨by omega, ⟨_, rfl, rfl, by omega⟩⟩
        refine sB (fun M => tb_X4_isBelow_29) ?_
        simp only [kb_X4_isBelow_29, s_ald_0, s_gf_6_0, s_ild_2, s_la, s_lax, forall_const, s_ald_1, s_lcmp, ne_eq, tlc_r, tlc_eq, tlc_lt, tlc_ge, tlc_gt, tlc_le, s_if_ge, s_ic, s_goto, LR, IR, true_and, and_true, Nat.reduceAdd, Nat.reduceSub, eq_self]
        refine ⟨by assumption, fun x3_ h3_ => ?_⟩
        refine ⟨aok_23 (by assumption) (by omega), fun x5_ g5_ h5_ => ?_⟩
        refine ⟨by assumption, fun x7_ h7_ => ?_⟩
        refine ⟨aok_23 (by assumption) (by omega), fun x9_ g9_ h9_ => ?_⟩
        refine ⟨by omega, ?_⟩
        refine ⟨fun h11_ => ?_, fun h11_ => ?_⟩
        · refine sB (fun M => tb_X4_isBelow_49) ?_
          simp only [kb_X4_isBelow_49, s_ic, s_nil, LR, IR, true_and, and_true, Nat.reduceAdd, Nat.reduceSub, eq_self]
          exact n50 _ (by omega)
        exact n50 _ (by omega)
      refine sB (fun M => tb_X4_isBelow_3) ?_
      simp only [kb_X4_isBelow_3, s_ild_2, s_if_le, s_ald_0, s_gf_6_0, s_la, s_lax, forall_const, s_ald_1, s_lcmp, ne_eq, tlc_r, tlc_eq, tlc_lt, tlc_ge, tlc_gt, tlc_le, s_if_ne, s_inc2, tkl_n, tkl_i, tkl_l, tkl_r, s_goto, LR, IR, true_and, and_true, Nat.reduceAdd, Nat.reduceSub, eq_self]
      refine ⟨by omega, fun h16_ => ?_, fun h16_ => ?_⟩
      · exact n29 _ (by omega)
      refine ⟨by assumption, fun x18_ h18_ => ?_⟩
      refine ⟨aok_23 (by assumption) (by omega), fun x20_ g20_ h20_ => ?_⟩
      refine ⟨by assumption, fun x22_ h22_ => ?_⟩
      refine ⟨aok_23 (by assumption) (by omega), fun x24_ g24_ h24_ => ?_⟩
      refine ⟨by omega, ?_⟩
      refine ⟨fun h26_ => ?_, fun h26_ => ?_⟩
      · exact n29 _ (by omega)
      exact ih3 _ (by omega) (by omega)
  refine sB (fun M => tb_X4_isBelow_0) ?_
  simp only [kb_X4_isBelow_0, s_bi, s_ist_2, tkl_n, tkl_i, tkl_l, tkl_r, s_nil, LR, IR, true_and, and_true, Nat.reduceAdd, Nat.reduceSub, eq_self]
  exact n3 4294967400 _ (by omega) (by omega)
theorem k_X4_minus {e : tE} {b : Bool} {d n : Nat} {r : Nat} {x1 : Nat} (h0 : cl r 6) (h1 : cl x1 6) (hd : 0 ≤ d) : sC e b d 1543 [.inr (.inr (.inl r)), .inr (.inr (.inl x1))] n (SQn n (True)) := by
  refine sK (fun M h => tst_X4_minus h) (fun M0 => ?_)
  have n5 : ∀ (fu : Nat) (l2_5 : Int) (i4_5 : Int) (w5_5 : Option tV) (w6_5 : Option tV), 8 - i4_5 + 1 ≤ (fu : Int) → (-9223372036854775808 ≤ l2_5 ∧ l2_5 < 9223372036854775808) → (0 ≤ i4_5 ∧ i4_5 ≤ 8) → sT e b M0 d 1543 5 [some (.inr (.inr (.inl r))), some (.inr (.inr (.inl x1))), some (.inr (.inl l2_5)), none, some (.inl i4_5), w5_5, w6_5] [] n (SQn n (True)) := by
    intro fu
    induction fu with
    | zero =>
      intro l2_5 i4_5 w5_5 w6_5 hm y5_0 y5_1
      exfalso; omega
    | succ fu ih =>
      intro l2_5 i4_5 w5_5 w6_5 hm y5_0 y5_1
      have ih5 := ih
      clear ih
      have n43 : ∀ (l5_43 : Int) (ls0_43 : Int), (0 ≤ i4_5 ∧ i4_5 ≤ 7) → (-9223372036854775808 ≤ l5_43 ∧ l5_43 < 9223372036854775808) → (-9223372036854775808 ≤ ls0_43 ∧ ls0_43 < 9223372036854775808) → sT e b M0 d 1543 43 [some (.inr (.inr (.inl r))), some (.inr (.inr (.inl x1))), some (.inr (.inl l2_5)), none, some (.inl i4_5), some (.inr (.inl l5_43)), none] [.inr (.inl ls0_43)] n (SQn n (True)) := by
        intro l5_43 ls0_43 y43_0 y43_1 y43_2
        refine sB (fun M => tb_X4_minus_43) ?_
        simp only [kb_X4_minus_43, s_lst_2, tkl_n, tkl_i, tkl_l, tkl_r, s_ald_0, s_gf_6_0, s_ild4, s_lld5, s_lld_2, s_ld2, s_lmul, s_ladd, s_las, s_inc4, s_goto, LR, IR, true_and, and_true, Nat.reduceAdd, Nat.reduceSub, eq_self]
        refine ⟨by assumption, fun x3_ h3_ => ?_⟩
        intro x8_ h8_
        intro x9_ h9_
        refine ⟨aok_23 (by assumption) (by omega), ?_⟩
        exact ih5 _ _ _ _ (by omega) (by omega) (by omega)
      refine sB (fun M => tb_X4_minus_5) ?_
      simp only [kb_X4_minus_5, s_ild4, s_bi, s_ic_ge, s_ald_0, s_gf_6_0, s_la, s_lax, forall_const, s_ald_1, s_lsub, s_lld_2, s_lst5, tkl_n, tkl_i, tkl_l, tkl_r, s_lld5, s_lc0, s_lcmp, ne_eq, tlc_r, tlc_eq, tlc_lt, tlc_ge, tlc_gt, tlc_le, s_if_ge, s_lc1, s_goto, LR, IR, true_and, and_true, Nat.reduceAdd, Nat.reduceSub, eq_self]
      refine ⟨by omega, fun h15_ => ?_, fun h15_ => ?_⟩
      · refine sB (fun M => tb_X4_minus_65) ?_
        simp only [kb_X4_minus_65, s_re, LR, IR, true_and, and_true, Nat.reduceAdd, Nat.reduceSub, eq_self]
        exact ⟨rfl, rfl, by first | trivial | omega⟩
      refine ⟨by assumption, fun x18_ h18_ => ?_⟩
      refine ⟨aok_23 (by assumption) (by omega), fun x20_ g20_ h20_ => ?_⟩
      refine ⟨by assumption, fun x22_ h22_ => ?_⟩
      refine ⟨aok_23 (by assumption) (by omega), fun x24_ g24_ h24_ => ?_⟩
      intro x25_ h25_
      intro x27_ h27_
      refine ⟨by omega, ?_⟩
      refine ⟨fun h32_ => ?_, fun h32_ => ?_⟩
      · refine sB (fun M => tb_X4_minus_42) ?_
        simp only [kb_X4_minus_42, s_lc0, s_nil, LR, IR, true_and, and_true, Nat.reduceAdd, Nat.reduceSub, eq_self]
        exact n43 _ _ (by omega) (by omega) (by omega)
      exact n43 _ _ (by omega) (by omega) (by omega)
  refine sB (fun M => tb_X4_minus_0) ?_
  simp only [kb_X4_minus_0, s_lc0, s_lst_2, tkl_n, tkl_i, tkl_l, tkl_r, s_ic, s_ist4, s_nil, LR, IR, true_and, and_true, Nat.reduceAdd, Nat.reduceSub, eq_self]
  exact n5 4294967400 _ _ _ _ (by omega) (by omega) (by omega)
theorem k_X3_settle {e : tE} {b : Bool} {d n : Nat} {r : Nat} (h0 : cl r 5) (hd : 1 ≤ d) : sC e b d 1286 [.inr (.inr (.inl r))] n (SQn n (True)) := by
  refine sK (fun M h => tst_X3_settle h) (fun M0 => ?_)
  have n37 : ∀ (qs0_37 : Nat) (qs1_37 : Nat), cl qs0_37 6 → cl qs1_37 6 → sT e b M0 d 1286 37 [some (.inr (.inr (.inl r)))] [.inr (.inr (.inl qs0_37)), .inr (.inr (.inl qs1_37))] n (SQn n (True)) := by
    intro qs0_37 qs1_37 y37_0 y37_1
    have n62 : ∀ (qs0_62 : Nat) (qs1_62 : Nat), cl qs0_62 6 → cl qs1_62 6 → sT e b M0 d 1286 62 [some (.inr (.inr (.inl r)))] [.inr (.inr (.inl qs0_62)), .inr (.inr (.inl qs1_62))] n (SQn n (True)) := by
      intro qs0_62 qs1_62 y62_0 y62_1
      refine sB (fun M => tb_X3_settle_62) ?_
      simp only [kb_X3_settle_62, s_iv1, tfr_0, tfr_1, tfr_2, tfr_3, tfr_4, s_re, LR, IR, true_and, and_true, Nat.reduceAdd, Nat.reduceSub, eq_self]
      refine ⟨vok_of (s := 6) (by assumption) rfl, ?_⟩
      refine sc_n (D := 0) (fun d' hd' => k_X4_minus (by assumption) (by assumption) hd') (by omega) ?_
      intro h1_
      try simp only [s_re, LR, IR, true_and, and_true, Nat.reduceAdd, Nat.reduceSub, eq_self]
      exact ⟨rfl, rfl, by first | trivial | omega⟩
    refine sB (fun M => tb_X3_settle_37) ?_
    simp only [kb_X3_settle_37, s_iv1, tfr_0, tfr_1, tfr_2, tfr_3, tfr_4, s_ald_0, s_gf_5_6, s_gf_5_1, s_if_eq, s_gf_5_7, s_goto, LR, IR, true_and, and_true, Nat.reduceAdd, Nat.reduceSub, eq_self]
    refine ⟨vok_of (s := 6) (by assumption) rfl, ?_⟩
    refine sc_n (D := 0) (fun d' hd' => k_X4_copy (by assumption) (by assumption) hd') (by omega) ?_
    intro h3_
    try simp only [s_ald_0, s_gf_5_6, s_gf_5_1, s_if_eq, s_gf_5_7, s_goto, LR, IR, true_and, and_true, Nat.reduceAdd, Nat.reduceSub, eq_self]
    refine ⟨by assumption, fun x5_ h5_ => ?_⟩
    refine ⟨by assumption, fun x7_ h7_ g7_ => ?_⟩
    refine ⟨by omega, fun h8_ => ?_, fun h8_ => ?_⟩
    · refine sB (fun M => tb_X3_settle_58) ?_
      simp only [kb_X3_settle_58, s_ald_0, s_gf_5_8, s_nil, LR, IR, true_and, and_true, Nat.reduceAdd, Nat.reduceSub, eq_self]
      refine ⟨by assumption, fun x10_ h10_ => ?_⟩
      exact n62 _ _ (by assumption) (by assumption)
    refine ⟨by assumption, fun x12_ h12_ => ?_⟩
    exact n62 _ _ (by assumption) (by assumption)
  refine sB (fun M => tb_X3_settle_0) ?_
  simp only [kb_X3_settle_0, s_ald_0, s_gf_5_7, s_gf_5_8, s_iv1, tfr_0, tfr_1, tfr_2, tfr_3, tfr_4, s_pf_5_1, s_gf_5_6, s_gf_5_1, s_if_eq, s_goto, LR, IR, true_and, and_true, Nat.reduceAdd, Nat.reduceSub, eq_self]
  refine ⟨by assumption, fun x16_ h16_ => ?_⟩
  refine ⟨by assumption, fun x18_ h18_ => ?_⟩
  refine ⟨vok_of (s := 6) (by assumption) rfl, ?_⟩
  refine sc_i (D := 0) (fun d' hd' => k_X4_isBelow (by assumption) (by assumption) hd') (by omega) ?_
  intro x19_ h19_
  try simp only [s_pf_5_1, s_ald_0, s_gf_5_6, s_gf_5_1, s_if_eq, s_gf_5_8, s_goto, LR, IR, true_and, and_true, Nat.reduceAdd, Nat.reduceSub, eq_self]
  refine ⟨by assumption, by omega, ?_⟩
  refine ⟨by assumption, fun x22_ h22_ => ?_⟩
  refine ⟨by assumption, fun x24_ h24_ g24_ => ?_⟩
  refine ⟨by omega, fun h25_ => ?_, fun h25_ => ?_⟩
  · refine sB (fun M => tb_X3_settle_33) ?_
    simp only [kb_X3_settle_33, s_ald_0, s_gf_5_7, s_nil, LR, IR, true_and, and_true, Nat.reduceAdd, Nat.reduceSub, eq_self]
    refine ⟨by assumption, fun x27_ h27_ => ?_⟩
    exact n37 _ _ (by assumption) (by assumption)
  refine ⟨by assumption, fun x29_ h29_ => ?_⟩
  exact n37 _ _ (by assumption) (by assumption)
theorem k_X1_toSum {e : tE} {b : Bool} {d n : Nat} {r : Nat} {x1 : Nat} {x2 : Nat} (h0 : cl r 3) (h1 : cl x1 3) (h2 : cl x2 3) (hd : 0 ≤ d) : sC e b d 783 [.inr (.inr (.inl r)), .inr (.inr (.inl x1)), .inr (.inr (.inl x2))] n (SQn n (True)) := by
  refine sK (fun M h => tst_X1_toSum h) (fun M0 => ?_)
  have n61 : ∀ (l3_61 : Int), (-9223372036854775808 ≤ l3_61 ∧ l3_61 < 9223372036854775808) → sT e b M0 d 783 61 [some (.inr (.inr (.inl r))), some (.inr (.inr (.inl x1))), some (.inr (.inr (.inl x2))), some (.inr (.inl l3_61)), none] [] n (SQn n (True)) := by
    intro l3_61 y61_0
    refine sB (fun M => tb_X1_toSum_61) ?_
    simp only [kb_X1_toSum_61, s_re, LR, IR, true_and, and_true, Nat.reduceAdd, Nat.reduceSub, eq_self]
    exact ⟨rfl, rfl, by first | trivial | omega⟩
  refine sB (fun M => tb_X1_toSum_0) ?_
  simp only [kb_X1_toSum_0, s_ald_1, s_gf_3_0, s_ald_2, s_ladd, s_lst_3, tkl_n, tkl_i, tkl_l, tkl_r, s_ald_0, s_gf_3_1, s_pf_3_1, s_lld_3, s_pf_3_0, s_ld2, s_lcmp, ne_eq, tlc_r, tlc_eq, tlc_lt, tlc_ge, tlc_gt, tlc_le, s_if_lt, s_dupi, s_dupr, s_lsub, s_lc1, s_nil, LR, IR, true_and, and_true, Nat.reduceAdd, Nat.reduceSub, eq_self]
  refine ⟨by assumption, fun x3_ h3_ => ?_⟩
  refine ⟨by assumption, fun x5_ h5_ => ?_⟩
  intro x6_ h6_
  refine ⟨by assumption, fun x10_ h10_ => ?_⟩
  refine ⟨by assumption, fun x12_ h12_ => ?_⟩
  intro x13_ h13_
  refine ⟨by assumption, ?_⟩
  refine ⟨by assumption, ?_⟩
  refine ⟨by assumption, fun x19_ h19_ => ?_⟩
  refine ⟨by omega, ?_⟩
  refine ⟨fun h22_ => ?_, fun h22_ => ?_⟩
  · exact n61 _ (by omega)
  refine ⟨by assumption, fun x25_ h25_ => ?_⟩
  intro x27_ h27_
  refine ⟨by assumption, ?_⟩
  refine ⟨by assumption, fun x31_ h31_ => ?_⟩
  intro x33_ h33_
  refine ⟨by assumption, ?_⟩
  exact n61 _ (by omega)
theorem k_X3_shiftToEighth {e : tE} {b : Bool} {d n : Nat} {r : Nat} {x1 : Int} (h0 : cl r 5) (h1 : (0 ≤ x1 ∧ x1 ≤ 8)) (hd : 1 ≤ d) : sC e b d 1287 [.inr (.inr (.inl r)), .inl x1] n (SQi n (fun z => (0 ≤ z ∧ z ≤ 1))) := by
  refine sK (fun M h => tst_X3_shiftToEighth h) (fun M0 => ?_)
  have n76 : ∀ (i2_76 : Int), (0 ≤ x1 ∧ x1 ≤ 8) → (0 ≤ i2_76 ∧ i2_76 ≤ 1) → sT e b M0 d 1287 76 [some (.inr (.inr (.inl r))), some (.inl x1), some (.inl i2_76)] [] n (SQi n (fun z => (0 ≤ z ∧ z ≤ 1))) := by
    intro i2_76 y76_0 y76_1
    refine sB (fun M => tb_X3_shiftToEighth_76) ?_
    simp only [kb_X3_shiftToEighth_76, s_ald_0, s_gf_5_12, s_ld2, s_iv2, tfr_0, tfr_1, tfr_2, tfr_3, tfr_4, s_gf_5_11, s_ild_1, s_i2l, s_gf_5_10, s_ild_2, s_ire, trg, LR, IR, true_and, and_true, Nat.reduceAdd, Nat.reduceSub, eq_self]
    refine ⟨by assumption, fun x2_ h2_ => ?_⟩
    refine ⟨by assumption, fun x4_ h4_ => ?_⟩
    refine ⟨vok_of (s := 3) (by assumption) rfl, ?_⟩
    refine sc_n (D := 0) (fun d' hd' => k_X1_toMultiple (by assumption) (by assumption) (by omega) hd') (by omega) ?_
    intro h6_
    try simp only [s_ald_0, s_gf_5_11, s_ild_1, s_i2l, s_iv2, tfr_0, tfr_1, tfr_2, tfr_3, tfr_4, s_gf_5_10, s_gf_5_12, s_ild_2, s_ire, trg, LR, IR, true_and, and_true, Nat.reduceAdd, Nat.reduceSub, eq_self]
    refine ⟨by assumption, fun x8_ h8_ => ?_⟩
    refine ⟨by assumption, fun x10_ h10_ => ?_⟩
    refine ⟨by omega, ?_⟩
    refine ⟨vok_of (s := 3) (by assumption) rfl, ?_⟩
    refine sc_n (D := 0) (fun d' hd' => k_X1_toMultiple (by assumption) (by assumption) (by omega) hd') (by omega) ?_
    intro h13_
    try simp only [s_ald_0, s_gf_5_10, s_gf_5_11, s_gf_5_12, s_iv2, tfr_0, tfr_1, tfr_2, tfr_3, tfr_4, s_ild_2, s_ire, trg, LR, IR, true_and, and_true, Nat.reduceAdd, Nat.reduceSub, eq_self]
    refine ⟨by assumption, fun x15_ h15_ => ?_⟩
    refine ⟨by assumption, fun x17_ h17_ => ?_⟩
    refine ⟨by assumption, fun x19_ h19_ => ?_⟩
    refine ⟨vok_of (s := 3) (by assumption) rfl, ?_⟩
    refine sc_n (D := 0) (fun d' hd' => k_X1_toSum (by assumption) (by assumption) (by assumption) hd') (by omega) ?_
    intro h20_
    try simp only [s_ild_2, s_ire, trg, LR, IR, true_and, and_true, Nat.reduceAdd, Nat.reduceSub, eq_self]
    exact ⟨by omega, ⟨_, rfl, rfl, by omega⟩⟩
  refine sB (fun M => tb_X3_shiftToEighth_0) ?_
  simp only [kb_X3_shiftToEighth_0, s_ald_0, s_gf_5_9, s_gf_5_11, s_ld2, s_iv2, tfr_0, tfr_1, tfr_2, tfr_3, tfr_4, s_gf_5_10, s_gf_5_12, s_ild_1, s_i2l, s_iv1, s_ist_2, tkl_n, tkl_i, tkl_l, tkl_r, s_ild_2, s_if_eq, s_goto, LR, IR, true_and, and_true, Nat.reduceAdd, Nat.reduceSub, eq_self]
  refine ⟨by assumption, fun x24_ h24_ => ?_⟩
  refine ⟨by assumption, fun x26_ h26_ => ?_⟩
  refine ⟨vok_of (s := 3) (by assumption) rfl, ?_⟩
  refine sc_n (D := 0) (fun d' hd' => k_X1_toMultiple (by assumption) (by assumption) (by omega) hd') (by omega) ?_
  intro h28_
  try simp only [s_ald_0, s_gf_5_10, s_gf_5_12, s_ild_1, s_i2l, s_iv2, tfr_0, tfr_1, tfr_2, tfr_3, tfr_4, s_gf_5_9, s_iv1, s_ist_2, tkl_n, tkl_i, tkl_l, tkl_r, s_ild_2, s_if_eq, s_goto, LR, IR, true_and, and_true, Nat.reduceAdd, Nat.reduceSub, eq_self]
  refine ⟨by assumption, fun x30_ h30_ => ?_⟩
  refine ⟨by assumption, fun x32_ h32_ => ?_⟩
  refine ⟨by omega, ?_⟩
  refine ⟨vok_of (s := 3) (by assumption) rfl, ?_⟩
  refine sc_n (D := 0) (fun d' hd' => k_X1_toMultiple (by assumption) (by assumption) (by omega) hd') (by omega) ?_
  intro h35_
  try simp only [s_ald_0, s_gf_5_9, s_gf_5_10, s_iv1, tfr_0, tfr_1, tfr_2, tfr_3, tfr_4, s_ist_2, tkl_n, tkl_i, tkl_l, tkl_r, s_ild_2, s_if_eq, s_iv2, s_goto, LR, IR, true_and, and_true, Nat.reduceAdd, Nat.reduceSub, eq_self]
  refine ⟨by assumption, fun x37_ h37_ => ?_⟩
  refine ⟨by assumption, fun x39_ h39_ => ?_⟩
  refine ⟨vok_of (s := 3) (by assumption) rfl, ?_⟩
  refine sc_i (D := 0) (fun d' hd' => k_X1_isBelow (by assumption) (by assumption) hd') (by omega) ?_
  intro x40_ h40_
  try simp only [s_ist_2, tkl_n, tkl_i, tkl_l, tkl_r, s_ild_2, s_if_eq, s_ald_0, s_gf_5_9, s_gf_5_10, s_iv2, tfr_0, tfr_1, tfr_2, tfr_3, tfr_4, s_goto, LR, IR, true_and, and_true, Nat.reduceAdd, Nat.reduceSub, eq_self]
  refine ⟨by omega, fun h43_ => ?_, fun h43_ => ?_⟩
  · refine sB (fun M => tb_X3_shiftToEighth_61) ?_
    simp only [kb_X3_shiftToEighth_61, s_ald_0, s_gf_5_9, s_gf_5_10, s_iv2, tfr_0, tfr_1, tfr_2, tfr_3, tfr_4, s_nil, LR, IR, true_and, and_true, Nat.reduceAdd, Nat.reduceSub, eq_self]
    refine ⟨by assumption, fun x45_ h45_ => ?_⟩
    refine ⟨by assumption, fun x47_ h47_ => ?_⟩
    refine ⟨by assumption, fun x49_ h49_ => ?_⟩
    refine ⟨vok_of (s := 3) (by assumption) rfl, ?_⟩
    refine sc_n (D := 0) (fun d' hd' => k_X1_toDifference (by assumption) (by assumption) (by assumption) hd') (by omega) ?_
    intro h50_
    try simp only [s_nil, LR, IR, true_and, and_true, Nat.reduceAdd, Nat.reduceSub, eq_self]
    exact n76 _ (by omega) (by omega)
  refine ⟨by assumption, fun x52_ h52_ => ?_⟩
  refine ⟨by assumption, fun x54_ h54_ => ?_⟩
  refine ⟨by assumption, fun x56_ h56_ => ?_⟩
  refine ⟨vok_of (s := 3) (by assumption) rfl, ?_⟩
  refine sc_n (D := 0) (fun d' hd' => k_X1_toDifference (by assumption) (by assumption) (by assumption) hd') (by omega) ?_
  intro h57_
  try simp only [s_goto, LR, IR, true_and, and_true, Nat.reduceAdd, Nat.reduceSub, eq_self]
  exact n76 _ (by omega) (by omega)
theorem k_X4_isZero {e : tE} {b : Bool} {d n : Nat} {r : Nat} (h0 : cl r 6) (hd : 0 ≤ d) : sC e b d 1540 [.inr (.inr (.inl r))] n (SQi n (fun z => (0 ≤ z ∧ z ≤ 1))) := by
  refine sK (fun M h => tst_X4_isZero h) (fun M0 => ?_)
  have n4 : ∀ (fu : Nat) (i1_4 : Int) (i2_4 : Int), 8 - i2_4 + 1 ≤ (fu : Int) → (0 ≤ i1_4 ∧ i1_4 ≤ 1) → (0 ≤ i2_4 ∧ i2_4 ≤ 8) → sT e b M0 d 1540 4 [some (.inr (.inr (.inl r))), some (.inl i1_4), some (.inl i2_4)] [] n (SQi n (fun z => (0 ≤ z ∧ z ≤ 1))) := by
    intro fu
    induction fu with
    | zero =>
      intro i1_4 i2_4 hm y4_0 y4_1
      exfalso; omega
    | succ fu ih =>
      intro i1_4 i2_4 hm y4_0 y4_1
      have ih4 := ih
      clear ih
      have n37 : sT e b M0 d 1540 37 [some (.inr (.inr (.inl r))), some (.inl i1_4), some (.inl i2_4)] [] n (SQi n (fun z => (0 ≤ z ∧ z ≤ 1))) := by
        refine sB (fun M => tb_X4_isZero_37) ?_
        simp only [kb_X4_isZero_37, s_ild_1, s_ire, trg, LR, IR, true_and, and_true, Nat.reduceAdd, Nat.reduceSub, eq_self]
        exact ⟨by omega, ⟨_, rfl, rfl, by omega⟩⟩
      have n30 : ∀ (is0_30 : Int), (1 ≤ i1_4 ∧ i1_4 ≤ 1) → (0 ≤ i2_4 ∧ i2_4 ≤ 7) → (0 ≤ is0_30 ∧ is0_30 ≤ 1) → sT e b M0 d 1540 30 [some (.inr (.inr (.inl r))), some (.inl i1_4), some (.inl i2_4)] [.inl is0_30] n (SQi n (fun z => (0 ≤ z ∧ z ≤ 1))) := by
        intro is0_30 y30_0 y30_1 y30_2
        refine sB (fun M => tb_X4_isZero_30) ?_
        simp only [kb_X4_isZero_30, s_ist_1, tkl_n, tkl_i, tkl_l, tkl_r, s_inc2, s_goto, LR, IR, true_and, and_true, Nat.reduceAdd, Nat.reduceSub, eq_self]
        exact ih4 _ _ (by omega) (by omega) (by omega)
      refine sB (fun M => tb_X4_isZero_4) ?_
      simp only [kb_X4_isZero_4, s_ild_2, s_bi, s_ic_ge, s_ild_1, s_if_eq, s_ald_0, s_gf_6_0, s_la, s_lax, forall_const, s_lc0, s_lcmp, ne_eq, tlc_r, tlc_eq, tlc_lt, tlc_ge, tlc_gt, tlc_le, s_if_ne, s_ic, s_goto, LR, IR, true_and, and_true, Nat.reduceAdd, Nat.reduceSub, eq_self]
      refine ⟨by omega, fun h8_ => ?_, fun h8_ => ?_⟩
      · exact n37
      refine ⟨by omega, fun h10_ => ?_, fun h10_ => ?_⟩
      · exact n37
      refine ⟨by assumption, fun x12_ h12_ => ?_⟩
      refine ⟨aok_23 (by assumption) (by omega), fun x14_ g14_ h14_ => ?_⟩
      refine ⟨by omega, ?_⟩
      refine ⟨fun h17_ => ?_, fun h17_ => ?_⟩
      · refine sB (fun M => tb_X4_isZero_29) ?_
        simp only [kb_X4_isZero_29, s_ic, s_nil, LR, IR, true_and, and_true, Nat.reduceAdd, Nat.reduceSub, eq_self]
        exact n30 _ (by omega) (by omega) (by omega)
      exact n30 _ (by omega) (by omega) (by omega)
  refine sB (fun M => tb_X4_isZero_0) ?_
  simp only [kb_X4_isZero_0, s_ic, s_ist_1, tkl_n, tkl_i, tkl_l, tkl_r, s_ist_2, s_nil, LR, IR, true_and, and_true, Nat.reduceAdd, Nat.reduceSub, eq_self]
  exact n4 4294967400 _ _ (by omega) (by omega) (by omega)
theorem k_X4_over {e : tE} {b : Bool} {d n : Nat} {r : Nat} {x1 : Int} (h0 : cl r 6) (h1 : (1 ≤ x1 ∧ x1 ≤ 699)) (hd : 0 ≤ d) : sC e b d 1544 [.inr (.inr (.inl r)), .inl x1] n (SQn n (True)) := by
  refine sK (fun M h => tst_X4_over h) (fun M0 => ?_)
  refine sB (fun M => tb_X4_over_0) ?_
  simp only [kb_X4_over_0, s_ild_1, s_ic, s_ic_ge, s_re, LR, IR, true_and, and_true, Nat.reduceAdd, Nat.reduceSub, eq_self]
  refine ⟨by omega, fun h3_ => ?_, fun h3_ => ?_⟩
  · have n12 : ∀ (fu : Nat) (l2_12 : Int) (i4_12 : Int) (w5_12 : Option tV) (w6_12 : Option tV), i4_12 + 1 + 1 ≤ (fu : Int) → (1 ≤ x1 ∧ x1 ≤ 699) → (-9223372036854775808 ≤ l2_12 ∧ l2_12 < 9223372036854775808) → (-1 ≤ i4_12 ∧ i4_12 ≤ 7) → sT e b M0 d 1544 12 [some (.inr (.inr (.inl r))), some (.inl x1), some (.inr (.inl l2_12)), none, some (.inl i4_12), w5_12, w6_12] [] n (SQn n (True)) := by
      intro fu
      induction fu with
      | zero =>
        intro l2_12 i4_12 w5_12 w6_12 hm y12_0 y12_1 y12_2
        exfalso; omega
      | succ fu ih =>
        intro l2_12 i4_12 w5_12 w6_12 hm y12_0 y12_1 y12_2
        have ih12 := ih
        clear ih
        refine sB (fun M => tb_X4_over_12) ?_
        simp only [kb_X4_over_12, s_ild4, s_if_lt, s_lld_2, s_ld2, s_lmul, s_ald_0, s_gf_6_0, s_la, s_lax, forall_const, s_ladd, s_lst5, tkl_n, tkl_i, tkl_l, tkl_r, s_lld5, s_ild_1, s_i2l, s_ldiv, s_las, s_lrem, s_lst_2, s_inc4, s_goto, LR, IR, true_and, and_true, Nat.reduceAdd, Nat.reduceSub, eq_self]
        refine ⟨by omega, fun h5_ => ?_, fun h5_ => ?_⟩
        · refine sB (fun M => tb_X4_over_56) ?_
          simp only [kb_X4_over_56, s_re, LR, IR, true_and, and_true, Nat.reduceAdd, Nat.reduceSub, eq_self]
          exact ⟨rfl, rfl, by first | trivial | omega⟩
        intro x9_ h9_
        refine ⟨by assumption, fun x11_ h11_ => ?_⟩
        refine ⟨aok_23 (by assumption) (by omega), fun x13_ g13_ h13_ => ?_⟩
        intro x14_ h14_
        refine ⟨by assumption, fun x17_ h17_ => ?_⟩
        refine ⟨by omega, ?_⟩
        refine ⟨by omega, fun x22_ h22_ => ?_⟩
        refine ⟨aok_23 (by assumption) (by omega), ?_⟩
        refine ⟨by omega, ?_⟩
        refine ⟨by omega, fun x27_ h27_ => ?_⟩
        exact ih12 _ _ _ _ (by omega) (by omega) (by omega) (by omega)
    refine sB (fun M => tb_X4_over_6) ?_
    simp only [kb_X4_over_6, s_lc0, s_lst_2, tkl_n, tkl_i, tkl_l, tkl_r, s_bi, s_ist4, s_nil, LR, IR, true_and, and_true, Nat.reduceAdd, Nat.reduceSub, eq_self]
    exact n12 4294967400 _ _ _ _ (by omega) (by omega) (by omega) (by omega)
  exact ⟨rfl, rfl, by first | trivial | omega⟩
theorem k_X4_plus {e : tE} {b : Bool} {d n : Nat} {r : Nat} {x1 : Nat} (h0 : cl r 6) (h1 : cl x1 6) (hd : 0 ≤ d) : sC e b d 1545 [.inr (.inr (.inl r)), .inr (.inr (.inl x1))] n (SQn n (True)) := by
  refine sK (fun M h => tst_X4_plus h) (fun M0 => ?_)
  have n5 : ∀ (fu : Nat) (l2_5 : Int) (i4_5 : Int) (w5_5 : Option tV) (w6_5 : Option tV), 8 - i4_5 + 1 ≤ (fu : Int) → (-9223372036854775808 ≤ l2_5 ∧ l2_5 < 9223372036854775808) → (0 ≤ i4_5 ∧ i4_5 ≤ 8) → sT e b M0 d 1545 5 [some (.inr (.inr (.inl r))), some (.inr (.inr (.inl x1))), some (.inr (.inl l2_5)), none, some (.inl i4_5), w5_5, w6_5] [] n (SQn n (True)) := by
    intro fu
    induction fu with
    | zero =>
      intro l2_5 i4_5 w5_5 w6_5 hm y5_0 y5_1
      exfalso; omega
    | succ fu ih =>
      intro l2_5 i4_5 w5_5 w6_5 hm y5_0 y5_1
      have ih5 := ih
      clear ih
      have n45 : ∀ (l5_45 : Int) (ls0_45 : Int), (0 ≤ i4_5 ∧ i4_5 ≤ 7) → (-9223372036854775808 ≤ l5_45 ∧ l5_45 < 9223372036854775808) → (-9223372036854775808 ≤ ls0_45 ∧ ls0_45 < 9223372036854775808) → sT e b M0 d 1545 45 [some (.inr (.inr (.inl r))), some (.inr (.inr (.inl x1))), some (.inr (.inl l2_5)), none, some (.inl i4_5), some (.inr (.inl l5_45)), none] [.inr (.inl ls0_45)] n (SQn n (True)) := by
        intro l5_45 ls0_45 y45_0 y45_1 y45_2
        refine sB (fun M => tb_X4_plus_45) ?_
        simp only [kb_X4_plus_45, s_lst_2, tkl_n, tkl_i, tkl_l, tkl_r, s_ald_0, s_gf_6_0, s_ild4, s_lld5, s_lld_2, s_ld2, s_lmul, s_lsub, s_las, s_inc4, s_goto, LR, IR, true_and, and_true, Nat.reduceAdd, Nat.reduceSub, eq_self]
        refine ⟨by assumption, fun x3_ h3_ => ?_⟩
        intro x8_ h8_
        intro x9_ h9_
        refine ⟨aok_23 (by assumption) (by omega), ?_⟩
        exact ih5 _ _ _ _ (by omega) (by omega) (by omega)
      refine sB (fun M => tb_X4_plus_5) ?_
      simp only [kb_X4_plus_5, s_ild4, s_bi, s_ic_ge, s_ald_0, s_gf_6_0, s_la, s_lax, forall_const, s_ald_1, s_ladd, s_lld_2, s_lst5, tkl_n, tkl_i, tkl_l, tkl_r, s_lld5, s_ld2, s_lcmp, ne_eq, tlc_r, tlc_eq, tlc_lt, tlc_ge, tlc_gt, tlc_le, s_if_lt, s_lc1, s_goto, LR, IR, true_and, and_true, Nat.reduceAdd, Nat.reduceSub, eq_self]
      refine ⟨by omega, fun h15_ => ?_, fun h15_ => ?_⟩
      · refine sB (fun M => tb_X4_plus_67) ?_
        simp only [kb_X4_plus_67, s_re, LR, IR, true_and, and_true, Nat.reduceAdd, Nat.reduceSub, eq_self]
        exact ⟨rfl, rfl, by first | trivial | omega⟩
      refine ⟨by assumption, fun x18_ h18_ => ?_⟩
      refine ⟨aok_23 (by assumption) (by omega), fun x20_ g20_ h20_ => ?_⟩
      refine ⟨by assumption, fun x22_ h22_ => ?_⟩
      refine ⟨aok_23 (by assumption) (by omega), fun x24_ g24_ h24_ => ?_⟩
      intro x25_ h25_
      intro x27_ h27_
      refine ⟨by omega, ?_⟩
      refine ⟨fun h32_ => ?_, fun h32_ => ?_⟩
      · refine sB (fun M => tb_X4_plus_44) ?_
        simp only [kb_X4_plus_44, s_lc0, s_nil, LR, IR, true_and, and_true, Nat.reduceAdd, Nat.reduceSub, eq_self]
        exact n45 _ _ (by omega) (by omega) (by omega)
      exact n45 _ _ (by omega) (by omega) (by omega)
  refine sB (fun M => tb_X4_plus_0) ?_
  simp only [kb_X4_plus_0, s_lc0, s_lst_2, tkl_n, tkl_i, tkl_l, tkl_r, s_ic, s_ist4, s_nil, LR, IR, true_and, and_true, Nat.reduceAdd, Nat.reduceSub, eq_self]
  exact n5 4294967400 _ _ _ _ (by omega) (by omega) (by omega)
theorem k_X4_setLimb {e : tE} {b : Bool} {d n : Nat} {r : Nat} {x1 : Int} {x2 : Int} (h0 : cl r 6) (h1 : (0 ≤ x1 ∧ x1 ≤ 7)) (h2 : (-9223372036854775808 ≤ x2 ∧ x2 < 9223372036854775808)) (hd : 0 ≤ d) : sC e b d 1546 [.inr (.inr (.inl r)), .inl x1, .inr (.inl x2)] n (SQn n (True)) := by
  refine sK (fun M h => tst_X4_setLimb h) (fun M0 => ?_)
  have n17 : (0 ≤ x1 ∧ x1 ≤ 7) → sT e b M0 d 1546 17 [some (.inr (.inr (.inl r))), some (.inl x1), some (.inr (.inl x2)), none] [] n (SQn n (True)) := by
    intro  y17_0
    refine sB (fun M => tb_X4_setLimb_17) ?_
    simp only [kb_X4_setLimb_17, s_re, LR, IR, true_and, and_true, Nat.reduceAdd, Nat.reduceSub, eq_self]
    exact ⟨rfl, rfl, by first | trivial | omega⟩
  refine sB (fun M => tb_X4_setLimb_0) ?_
  simp only [kb_X4_setLimb_0, s_ild_1, s_if_lt, s_bi, s_ic_ge, s_ald_0, s_gf_6_0, s_lld_2, s_las, s_nil, LR, IR, true_and, and_true, Nat.reduceAdd, Nat.reduceSub, eq_self]
  refine ⟨by omega, fun h3_ => ?_, fun h3_ => ?_⟩
  · exact n17 (by omega)
  refine ⟨by omega, fun h6_ => ?_, fun h6_ => ?_⟩
  · exact n17 (by omega)
  refine ⟨by assumption, fun x8_ h8_ => ?_⟩
  refine ⟨aok_23 (by assumption) (by omega), ?_⟩
  exact n17 (by omega)
theorem k_X4_toProduct {e : tE} {b : Bool} {d n : Nat} {r : Nat} {x1 : Nat} {x2 : Nat} (h0 : cl r 6) (h1 : cl x1 6) (h2 : cl x2 6) (hd : 0 ≤ d) : sC e b d 1547 [.inr (.inr (.inl r)), .inr (.inr (.inl x1)), .inr (.inr (.inl x2))] n (SQn n (True)) := by
  refine sK (fun M h => tst_X4_toProduct h) (fun M0 => ?_)
  have n2 : ∀ (fu : Nat) (i3_2 : Int) (w4_2 : Option tV) (w5_2 : Option tV) (w6_2 : Option tV) (w7_2 : Option tV), 10 - i3_2 + 1 ≤ (fu : Int) → (0 ≤ i3_2 ∧ i3_2 ≤ 10) → sT e b M0 d 1547 2 [some (.inr (.inr (.inl r))), some (.inr (.inr (.inl x1))), some (.inr (.inr (.inl x2))), some (.inl i3_2), w4_2, w5_2, w6_2, w7_2] [] n (SQn n (True)) := by
    intro fu
    induction fu with
    | zero =>
      intro i3_2 w4_2 w5_2 w6_2 w7_2 hm y2_0
      exfalso; omega
    | succ fu ih =>
      intro i3_2 w4_2 w5_2 w6_2 w7_2 hm y2_0
      have ih2 := ih
      clear ih
      refine sB (fun M => tb_X4_toProduct_2) ?_
      simp only [kb_X4_toProduct_2, s_ild_3, s_bi, s_ic_ge, s_ald_0, s_gf_6_1, s_lc0, s_las, s_inc3, tkl_n, tkl_i, tkl_l, tkl_r, s_goto, LR, IR, true_and, and_true, Nat.reduceAdd, Nat.reduceSub, eq_self]
      refine ⟨by omega, fun h3_ => ?_, fun h3_ => ?_⟩
      · have n23 : ∀ (fu : Nat) (i3_23 : Int) (w4_23 : Option tV) (w5_23 : Option tV) (w6_23 : Option tV) (w7_23 : Option tV), 8 - i3_23 + 1 ≤ (fu : Int) → (0 ≤ i3_23 ∧ i3_23 ≤ 8) → sT e b M0 d 1547 23 [some (.inr (.inr (.inl r))), some (.inr (.inr (.inl x1))), some (.inr (.inr (.inl x2))), some (.inl i3_23), w4_23, w5_23, w6_23, w7_23] [] n (SQn n (True)) := by
          intro fu
          induction fu with
          | zero =>
            intro i3_23 w4_23 w5_23 w6_23 w7_23 hm y23_0
            exfalso; omega
          | succ fu ih =>
            intro i3_23 w4_23 w5_23 w6_23 w7_23 hm y23_0
            have ih23 := ih
            clear ih
            have n98 : ∀ (l4_98 : Int) (w6_98 : Option tV) (w7_98 : Option tV), (0 ≤ i3_23 ∧ i3_23 ≤ 7) → (-9223372036854775808 ≤ l4_98 ∧ l4_98 < 9223372036854775808) → sT e b M0 d 1547 98 [some (.inr (.inr (.inl r))), some (.inr (.inr (.inl x1))), some (.inr (.inr (.inl x2))), some (.inl i3_23), some (.inr (.inl l4_98)), none, w6_98, w7_98] [] n (SQn n (True)) := by
              intro l4_98 w6_98 w7_98 y98_0 y98_1
              refine sB (fun M => tb_X4_toProduct_98) ?_
              simp only [kb_X4_toProduct_98, s_inc3, tkl_n, tkl_i, tkl_l, tkl_r, s_goto, LR, IR, true_and, and_true, Nat.reduceAdd, Nat.reduceSub, eq_self]
              exact ih23 _ _ _ _ _ (by omega) (by omega)
            have n56 : ∀ (l4_56 : Int) (w6_56 : Option tV) (w7_56 : Option tV) (is0_56 : Int), (0 ≤ i3_23 ∧ i3_23 ≤ 7) → (-9223372036854775808 ≤ l4_56 ∧ l4_56 < 9223372036854775808) → (0 ≤ is0_56 ∧ is0_56 ≤ 5) → 5 ≤ is0_56 + i3_23 → sT e b M0 d 1547 56 [some (.inr (.inr (.inl r))), some (.inr (.inr (.inl x1))), some (.inr (.inr (.inl x2))), some (.inl i3_23), some (.inr (.inl l4_56)), none, w6_56, w7_56] [.inl is0_56] n (SQn n (True)) := by
              intro l4_56 w6_56 w7_56 is0_56 y56_0 y56_1 y56_2 y56_3
              have n58 : ∀ (fu : Nat) (i6_58 : Int) (w7_58 : Option tV), 8 - i6_58 + 1 ≤ (fu : Int) → (0 ≤ i6_58 ∧ i6_58 ≤ 8) → 5 ≤ i6_58 + i3_23 → sT e b M0 d 1547 58 [some (.inr (.inr (.inl r))), some (.inr (.inr (.inl x1))), some (.inr (.inr (.inl x2))), some (.inl i3_23), some (.inr (.inl l4_56)), none, some (.inl i6_58), w7_58] [] n (SQn n (True)) := by
                intro fu
                induction fu with
                | zero =>
                  intro i6_58 w7_58 hm y58_0 y58_1
                  exfalso; omega
                | succ fu ih =>
                  intro i6_58 w7_58 hm y58_0 y58_1
                  have ih58 := ih
                  clear ih
                  refine sB (fun M => tb_X4_toProduct_58) ?_
                  simp only [kb_X4_toProduct_58, s_ild6, s_bi, s_ic_ge, s_ald_0, s_gf_6_1, s_ild_3, s_iadd, s_isub, s_ic, s_dup2l, s_dup2a, s_la, s_lax, forall_const, s_lld4, s_ald_2, s_gf_6_0, s_lmul, s_ladd, s_las, s_inc6, tkl_n, tkl_i, tkl_l, tkl_r, s_goto, LR, IR, true_and, and_true, Nat.reduceAdd, Nat.reduceSub, eq_self]
                  refine ⟨by omega, fun h8_ => ?_, fun h8_ => ?_⟩
                  · exact n98 _ _ _ (by omega) (by omega)
                  refine ⟨by assumption, fun x10_ h10_ => ?_⟩
                  refine ⟨aok_24 (by assumption) (by omega), fun x19_ g19_ h19_ => ?_⟩
                  refine ⟨by assumption, fun x22_ h22_ => ?_⟩
                  refine ⟨aok_23 (by assumption) (by omega), fun x24_ g24_ h24_ => ?_⟩
                  intro x25_ h25_
                  intro x26_ h26_
                  refine ⟨aok_24 (by assumption) (by omega), ?_⟩
                  exact ih58 _ _ (by omega) (by omega) (by omega)
              refine sB (fun M => tb_X4_toProduct_56) ?_
              simp only [kb_X4_toProduct_56, s_ist6, tkl_n, tkl_i, tkl_l, tkl_r, s_nil, LR, IR, true_and, and_true, Nat.reduceAdd, Nat.reduceSub, eq_self]
              exact n58 4294967400 _ _ (by omega) (by omega) (by omega)
            refine sB (fun M => tb_X4_toProduct_23) ?_
            simp only [kb_X4_toProduct_23, s_ild_3, s_bi, s_ic_ge, s_ald_1, s_gf_6_0, s_la, s_lax, forall_const, s_lst4, tkl_n, tkl_i, tkl_l, tkl_r, s_lld4, s_lc0, s_lcmp, ne_eq, tlc_r, tlc_eq, tlc_lt, tlc_ge, tlc_gt, tlc_le, s_if_eq, s_ic, s_isub, s_goto, LR, IR, true_and, and_true, Nat.reduceAdd, Nat.reduceSub, eq_self]
            refine ⟨by omega, fun h33_ => ?_, fun h33_ => ?_⟩
            · have n118 : ∀ (fu : Nat) (l3_118 : Int) (i5_118 : Int) (w6_118 : Option tV) (w7_118 : Option tV), 8 - i5_118 + 1 ≤ (fu : Int) → (-9223372036854775808 ≤ l3_118 ∧ l3_118 < 9223372036854775808) → (0 ≤ i5_118 ∧ i5_118 ≤ 8) → sT e b M0 d 1547 118 [some (.inr (.inr (.inl r))), some (.inr (.inr (.inl x1))), some (.inr (.inr (.inl x2))), some (.inr (.inl l3_118)), none, some (.inl i5_118), w6_118, w7_118] [] n (SQn n (True)) := by
                intro fu
                induction fu with
                | zero =>
                  intro l3_118 i5_118 w6_118 w7_118 hm y118_0 y118_1
                  exfalso; omega
                | succ fu ih =>
                  intro l3_118 i5_118 w6_118 w7_118 hm y118_0 y118_1
                  have ih118 := ih
                  clear ih
                  refine sB (fun M => tb_X4_toProduct_118) ?_
                  simp only [kb_X4_toProduct_118, s_ild5, s_bi, s_ic_ge, s_ald_0, s_gf_6_1, s_ic, s_iadd, s_la, s_lax, forall_const, s_lld_3, s_ladd, s_lst6, tkl_n, tkl_i, tkl_l, tkl_r, s_gf_6_0, s_lld6, s_ld2, s_lrem, s_las, s_ldiv, s_lst_3, s_inc5, s_goto, LR, IR, true_and, and_true, Nat.reduceAdd, Nat.reduceSub, eq_self]
                  refine ⟨by omega, fun h36_ => ?_, fun h36_ => ?_⟩
                  · refine sB (fun M => tb_X4_toProduct_164) ?_
                    simp only [kb_X4_toProduct_164, s_re, LR, IR, true_and, and_true, Nat.reduceAdd, Nat.reduceSub, eq_self]
                    exact ⟨rfl, rfl, by first | trivial | omega⟩
                  refine ⟨by assumption, fun x39_ h39_ => ?_⟩
                  refine ⟨aok_24 (by assumption) (by omega), fun x43_ g43_ h43_ => ?_⟩
                  intro x45_ h45_
                  refine ⟨by assumption, fun x48_ h48_ => ?_⟩
                  refine ⟨by omega, fun x52_ h52_ => ?_⟩
                  refine ⟨aok_23 (by assumption) (by omega), ?_⟩
                  refine ⟨by omega, fun x56_ h56_ => ?_⟩
                  exact ih118 _ _ _ _ (by omega) (by omega) (by omega)
              refine sB (fun M => tb_X4_toProduct_104) ?_
              simp only [kb_X4_toProduct_104, s_ald_0, s_gf_6_1, s_ic, s_la, s_lax, forall_const, s_ld2, s_ldiv, s_lst_3, tkl_n, tkl_i, tkl_l, tkl_r, s_ist5, s_nil, LR, IR, true_and, and_true, Nat.reduceAdd, Nat.reduceSub, eq_self]
              refine ⟨by assumption, fun x61_ h61_ => ?_⟩
              refine ⟨aok_24 (by assumption) (by omega), fun x63_ g63_ h63_ => ?_⟩
              refine ⟨by omega, fun x65_ h65_ => ?_⟩
              exact n118 4294967400 _ _ _ _ (by omega) (by omega) (by omega)
            refine ⟨by assumption, fun x70_ h70_ => ?_⟩
            refine ⟨aok_23 (by assumption) (by omega), fun x72_ g72_ h72_ => ?_⟩
            refine ⟨by omega, ?_⟩
            refine ⟨fun h77_ => ?_, fun h77_ => ?_⟩
            · exact n98 _ _ _ (by omega) (by omega)
            refine ⟨by omega, fun h80_ => ?_, fun h80_ => ?_⟩
            · refine sB (fun M => tb_X4_toProduct_55) ?_
              simp only [kb_X4_toProduct_55, s_ic, s_nil, LR, IR, true_and, and_true, Nat.reduceAdd, Nat.reduceSub, eq_self]
              exact n56 _ _ _ _ (by omega) (by omega) (by omega) (by omega)
            exact n56 _ _ _ _ (by omega) (by omega) (by omega) (by omega)
        refine sB (fun M => tb_X4_toProduct_21) ?_
        simp only [kb_X4_toProduct_21, s_ic, s_ist_3, tkl_n, tkl_i, tkl_l, tkl_r, s_nil, LR, IR, true_and, and_true, Nat.reduceAdd, Nat.reduceSub, eq_self]
        exact n23 4294967400 _ _ _ _ _ (by omega) (by omega)
      refine ⟨by assumption, fun x89_ h89_ => ?_⟩
      refine ⟨aok_24 (by assumption) (by omega), ?_⟩
      exact ih2 _ _ _ _ _ (by omega) (by omega)
  refine sB (fun M => tb_X4_toProduct_0) ?_
  simp only [kb_X4_toProduct_0, s_ic, s_ist_3, tkl_n, tkl_i, tkl_l, tkl_r, s_nil, LR, IR, true_and, and_true, Nat.reduceAdd, Nat.reduceSub, eq_self]
  exact n2 4294967400 _ _ _ _ _ (by omega) (by omega)
theorem k_X8_align {e : tE} {b : Bool} {d n : Nat} {r : Nat} {x1 : Nat} {x2 : Nat} (h0 : cl r 10) (h1 : cl x1 3) (h2 : cl x2 3) (hd : 0 ≤ d) : sC e b d 2561 [.inr (.inr (.inl r)), .inr (.inr (.inl x1)), .inr (.inr (.inl x2))] n (SQi n (fun z => (1 ≤ z ∧ z ≤ 27))) := by
  refine sK (fun M h => tst_X8_align h) (fun M0 => ?_)
  have n37 : ∀ (fu : Nat) (i3_37 : Int) (i4_37 : Int) (w5_37 : Option tV) (w6_37 : Option tV) (w7_37 : Option tV) (w8_37 : Option tV), 31 - i4_37 + 1 ≤ (fu : Int) → (-2147483648 ≤ i3_37 ∧ i3_37 ≤ 2147483647) → (0 ≤ i4_37 ∧ i4_37 ≤ 31) → i3_37 ≤ i4_37 + 1 → sT e b M0 d 2561 37 [some (.inr (.inr (.inl r))), some (.inr (.inr (.inl x1))), some (.inr (.inr (.inl x2))), some (.inl i3_37), some (.inl i4_37), w5_37, w6_37, w7_37, w8_37] [] n (SQi n (fun z => (1 ≤ z ∧ z ≤ 27))) := by
    intro fu
    induction fu with
    | zero =>
      intro i3_37 i4_37 w5_37 w6_37 w7_37 w8_37 hm y37_0 y37_1 y37_2
      exfalso; omega
    | succ fu ih =>
      intro i3_37 i4_37 w5_37 w6_37 w7_37 w8_37 hm y37_0 y37_1 y37_2
      have ih37 := ih
      clear ih
      have n135 : ∀ (w5_135 : Option tV) (w6_135 : Option tV) (w7_135 : Option tV) (w8_135 : Option tV), i3_37 ≤ 27 → sT e b M0 d 2561 135 [some (.inr (.inr (.inl r))), some (.inr (.inr (.inl x1))), some (.inr (.inr (.inl x2))), some (.inl i3_37), some (.inl i4_37), w5_135, w6_135, w7_135, w8_135] [] n (SQi n (fun z => (1 ≤ z ∧ z ≤ 27))) := by
        intro w5_135 w6_135 w7_135 w8_135 y135_0
        refine sB (fun M => tb_X8_align_135) ?_
        simp only [kb_X8_align_135, s_ild_3, s_ire, trg, LR, IR, true_and, and_true, Nat.reduceAdd, Nat.reduceSub, eq_self]
        exact ⟨_, rfl, rfl, by omega⟩
      have n114 : ∀ (l5_114 : Int) (l7_114 : Int), (0 ≤ i4_37 ∧ i4_37 ≤ 25) → (-9223372036854775808 ≤ l5_114 ∧ l5_114 < 9223372036854775808) → (-9223372036854775808 ≤ l7_114 ∧ l7_114 < 9223372036854775808) → sT e b M0 d 2561 114 [some (.inr (.inr (.inl r))), some (.inr (.inr (.inl x1))), some (.inr (.inr (.inl x2))), some (.inl i3_37), some (.inl i4_37), some (.inr (.inl l5_114)), none, some (.inr (.inl l7_114)), none] [] n (SQi n (fun z => (1 ≤ z ∧ z ≤ 27))) := by
        intro l5_114 l7_114 y114_0 y114_1 y114_2
        refine sB (fun M => tb_X8_align_114) ?_
        simp only [kb_X8_align_114, s_ald_0, s_lld5, s_pf_10_11, s_lld7, s_pf_10_12, s_inc3, tkl_n, tkl_i, tkl_l, tkl_r, s_inc4, s_goto, LR, IR, true_and, and_true, Nat.reduceAdd, Nat.reduceSub, eq_self]
        refine ⟨by assumption, ?_⟩
        refine ⟨by assumption, ?_⟩
        exact ih37 _ _ _ _ _ _ (by omega) (by omega) (by omega) (by omega)
      refine sB (fun M => tb_X8_align_37) ?_
      simp only [kb_X8_align_37, s_ild4, s_bi, s_ic_ge, s_ald_0, s_gf_10_11, s_ld2, s_lmul, s_gf_10_12, s_ldiv, s_ladd, s_lst5, tkl_n, tkl_i, tkl_l, tkl_r, s_lrem, s_lst7, s_gf_10_9, s_lld5, s_lcmp, ne_eq, tlc_r, tlc_eq, tlc_lt, tlc_ge, tlc_gt, tlc_le, s_if_lt, s_if_ne, s_gf_10_10, s_lld7, s_if_ge, s_goto, LR, IR, true_and, and_true, Nat.reduceAdd, Nat.reduceSub, eq_self]
      refine ⟨by omega, fun h14_ => ?_, fun h14_ => ?_⟩
      · exact n135 _ _ _ _ (by omega)
      refine ⟨by assumption, fun x16_ h16_ => ?_⟩
      intro x18_ h18_
      refine ⟨by assumption, fun x20_ h20_ => ?_⟩
      intro x22_ h22_
      refine ⟨by omega, fun x24_ h24_ => ?_⟩
      intro x25_ h25_
      refine ⟨by assumption, fun x28_ h28_ => ?_⟩
      intro x30_ h30_
      refine ⟨by omega, fun x32_ h32_ => ?_⟩
      refine ⟨by assumption, fun x35_ h35_ => ?_⟩
      refine ⟨by omega, ?_⟩
      refine ⟨fun h38_ => ?_, fun h38_ => ?_⟩
      · exact n135 _ _ _ _ (by omega)
      refine ⟨by assumption, fun x40_ h40_ => ?_⟩
      refine ⟨by omega, ?_⟩
      refine ⟨fun h43_ => ?_, fun h43_ => ?_⟩
      · exact n114 _ _ (by omega) (by omega) (by omega)
      refine ⟨by assumption, fun x45_ h45_ => ?_⟩
      refine ⟨by omega, ?_⟩
      refine ⟨fun h48_ => ?_, fun h48_ => ?_⟩
      · exact n114 _ _ (by omega) (by omega) (by omega)
      exact n135 _ _ _ _ (by omega)
  refine sB (fun M => tb_X8_align_0) ?_
  simp only [kb_X8_align_0, s_ald_0, s_ald_1, s_gf_3_0, s_pf_10_9, s_gf_3_1, s_pf_10_10, s_ald_2, s_pf_10_11, s_pf_10_12, s_ic, s_ist_3, tkl_n, tkl_i, tkl_l, tkl_r, s_ist4, s_nil, LR, IR, true_and, and_true, Nat.reduceAdd, Nat.reduceSub, eq_self]
  refine ⟨by assumption, fun x52_ h52_ => ?_⟩
  refine ⟨by assumption, ?_⟩
  refine ⟨by assumption, fun x56_ h56_ => ?_⟩
  refine ⟨by assumption, ?_⟩
  refine ⟨by assumption, fun x60_ h60_ => ?_⟩
  refine ⟨by assumption, ?_⟩
  refine ⟨by assumption, fun x64_ h64_ => ?_⟩
  refine ⟨by assumption, ?_⟩
  exact n37 4294967400 _ _ _ _ _ _ (by omega) (by omega) (by omega) (by omega)
theorem k_X8_nextDigits {e : tE} {b : Bool} {d n : Nat} {r : Nat} {x1 : Int} (h0 : cl r 10) (h1 : (-2147483648 ≤ x1 ∧ x1 ≤ 13)) (hd : 0 ≤ d) : sC e b d 2565 [.inr (.inr (.inl r)), .inl x1] n (SQl n (fun z => (-9223372036854775808 ≤ z ∧ z < 9223372036854775808))) := by
  refine sK (fun M h => tst_X8_nextDigits h) (fun M0 => ?_)
  have n5 : ∀ (fu : Nat) (l2_5 : Int) (i4_5 : Int) (w5_5 : Option tV), 14 - i4_5 + 1 ≤ (fu : Int) → (-2147483648 ≤ x1 ∧ x1 ≤ 13) → (-9223372036854775808 ≤ l2_5 ∧ l2_5 < 9223372036854775808) → (0 ≤ i4_5 ∧ i4_5 ≤ 14) → sT e b M0 d 2565 5 [some (.inr (.inr (.inl r))), some (.inl x1), some (.inr (.inl l2_5)), none, some (.inl i4_5), w5_5] [] n (SQl n (fun z => (-9223372036854775808 ≤ z ∧ z < 9223372036854775808))) := by
    intro fu
    induction fu with
    | zero =>
      intro l2_5 i4_5 w5_5 hm y5_0 y5_1 y5_2
      exfalso; omega
    | succ fu ih =>
      intro l2_5 i4_5 w5_5 hm y5_0 y5_1 y5_2
      have ih5 := ih
      clear ih
      have n14 : ∀ (fu : Nat) (i5_14 : Int), 9 - i5_14 + 1 ≤ (fu : Int) → (1 ≤ x1 ∧ x1 ≤ 13) → (0 ≤ i4_5 ∧ i4_5 ≤ 12) → (0 ≤ i5_14 ∧ i5_14 ≤ 9) → sT e b M0 d 2565 14 [some (.inr (.inr (.inl r))), some (.inl x1), some (.inr (.inl l2_5)), none, some (.inl i4_5), some (.inl i5_14)] [] n (SQl n (fun z => (-9223372036854775808 ≤ z ∧ z < 9223372036854775808))) := by
        intro fu
        induction fu with
        | zero =>
          intro i5_14 hm y14_0 y14_1 y14_2
          exfalso; omega
        | succ fu ih =>
          intro i5_14 hm y14_0 y14_1 y14_2
          have ih14 := ih
          clear ih
          have n120 : sT e b M0 d 2565 120 [some (.inr (.inr (.inl r))), some (.inl x1), some (.inr (.inl l2_5)), none, some (.inl i4_5), some (.inl i5_14)] [] n (SQl n (fun z => (-9223372036854775808 ≤ z ∧ z < 9223372036854775808))) := by
            refine sB (fun M => tb_X8_nextDigits_120) ?_
            simp only [kb_X8_nextDigits_120, s_lld_2, s_ld2, s_lmul, s_ild5, s_i2l, s_ladd, s_lst_2, tkl_n, tkl_i, tkl_l, tkl_r, s_ald_0, s_gf_10_9, s_gf_10_10, s_ldiv, s_pf_10_9, s_lrem, s_pf_10_10, s_inc4, s_goto, LR, IR, true_and, and_true, Nat.reduceAdd, Nat.reduceSub, eq_self]
            intro x3_ h3_
            refine ⟨by omega, ?_⟩
            intro x6_ h6_
            refine ⟨by assumption, fun x10_ h10_ => ?_⟩
            intro x12_ h12_
            refine ⟨by assumption, fun x14_ h14_ => ?_⟩
            intro x16_ h16_
            refine ⟨by omega, fun x18_ h18_ => ?_⟩
            intro x19_ h19_
            refine ⟨by assumption, ?_⟩
            refine ⟨by assumption, fun x23_ h23_ => ?_⟩
            intro x25_ h25_
            refine ⟨by omega, fun x27_ h27_ => ?_⟩
            refine ⟨by assumption, ?_⟩
            exact ih5 _ _ _ (by omega) (by omega) (by omega) (by omega)
          have n57 : (0 ≤ i5_14 ∧ i5_14 ≤ 8) → sT e b M0 d 2565 57 [some (.inr (.inr (.inl r))), some (.inl x1), some (.inr (.inl l2_5)), none, some (.inl i4_5), some (.inl i5_14)] [] n (SQl n (fun z => (-9223372036854775808 ≤ z ∧ z < 9223372036854775808))) := by
            intro  y57_0
            have n114 : sT e b M0 d 2565 114 [some (.inr (.inr (.inl r))), some (.inl x1), some (.inr (.inl l2_5)), none, some (.inl i4_5), some (.inl i5_14)] [] n (SQl n (fun z => (-9223372036854775808 ≤ z ∧ z < 9223372036854775808))) := by
              refine sB (fun M => tb_X8_nextDigits_114) ?_
              simp only [kb_X8_nextDigits_114, s_inc5, tkl_n, tkl_i, tkl_l, tkl_r, s_goto, LR, IR, true_and, and_true, Nat.reduceAdd, Nat.reduceSub, eq_self]
              exact ih14 _ (by omega) (by omega) (by omega) (by omega)
            refine sB (fun M => tb_X8_nextDigits_57) ?_
            simp only [kb_X8_nextDigits_57, s_ald_0, s_dupi, s_dupr, s_gf_10_9, s_gf_10_11, s_lsub, s_pf_10_9, s_gf_10_10, s_gf_10_12, s_pf_10_10, s_lc0, s_lcmp, ne_eq, tlc_r, tlc_eq, tlc_lt, tlc_ge, tlc_gt, tlc_le, s_if_ge, s_ld2, s_ladd, s_lc1, s_nil, LR, IR, true_and, and_true, Nat.reduceAdd, Nat.reduceSub, eq_self]
            refine ⟨by assumption, fun x35_ h35_ => ?_⟩
            refine ⟨by assumption, fun x37_ h37_ => ?_⟩
            intro x38_ h38_
            refine ⟨by assumption, ?_⟩
            refine ⟨by assumption, fun x42_ h42_ => ?_⟩
            refine ⟨by assumption, fun x44_ h44_ => ?_⟩
            intro x45_ h45_
            refine ⟨by assumption, ?_⟩
            refine ⟨by assumption, fun x48_ h48_ => ?_⟩
            refine ⟨by omega, ?_⟩
            refine ⟨fun h51_ => ?_, fun h51_ => ?_⟩
            · exact n114
            refine ⟨by assumption, fun x54_ h54_ => ?_⟩
            intro x56_ h56_
            refine ⟨by assumption, ?_⟩
            refine ⟨by assumption, fun x60_ h60_ => ?_⟩
            intro x62_ h62_
            refine ⟨by assumption, ?_⟩
            exact n114
          refine sB (fun M => tb_X8_nextDigits_14) ?_
          simp only [kb_X8_nextDigits_14, s_ild5, s_bi, s_ic_ge, s_ald_0, s_gf_10_9, s_gf_10_11, s_lcmp, ne_eq, tlc_r, tlc_eq, tlc_lt, tlc_ge, tlc_gt, tlc_le, s_if_gt, s_if_ne, s_gf_10_10, s_gf_10_12, s_if_lt, s_nil, LR, IR, true_and, and_true, Nat.reduceAdd, Nat.reduceSub, eq_self]
          refine ⟨by omega, fun h66_ => ?_, fun h66_ => ?_⟩
          · exact n120
          refine ⟨by assumption, fun x68_ h68_ => ?_⟩
          refine ⟨by assumption, fun x70_ h70_ => ?_⟩
          refine ⟨by omega, ?_⟩
          refine ⟨fun h72_ => ?_, fun h72_ => ?_⟩
          · exact n57 (by omega)
          refine ⟨by assumption, fun x74_ h74_ => ?_⟩
          refine ⟨by assumption, fun x76_ h76_ => ?_⟩
          refine ⟨by omega, ?_⟩
          refine ⟨fun h78_ => ?_, fun h78_ => ?_⟩
          · exact n120
          refine ⟨by assumption, fun x80_ h80_ => ?_⟩
          refine ⟨by assumption, fun x82_ h82_ => ?_⟩
          refine ⟨by omega, ?_⟩
          refine ⟨fun h84_ => ?_, fun h84_ => ?_⟩
          · exact n120
          exact n57 (by omega)
      refine sB (fun M => tb_X8_nextDigits_5) ?_
      simp only [kb_X8_nextDigits_5, s_ild4, s_ild_1, s_ic_ge, s_ic, s_ist5, tkl_n, tkl_i, tkl_l, tkl_r, s_nil, LR, IR, true_and, and_true, Nat.reduceAdd, Nat.reduceSub, eq_self]
      refine ⟨by omega, fun h87_ => ?_, fun h87_ => ?_⟩
      · refine sB (fun M => tb_X8_nextDigits_177) ?_
        simp only [kb_X8_nextDigits_177, s_lld_2, s_lre, LR, IR, true_and, and_true, Nat.reduceAdd, Nat.reduceSub, eq_self]
        exact ⟨_, rfl, rfl, by omega⟩
      exact n14 4294967400 _ (by omega) (by omega) (by omega) (by omega)
  refine sB (fun M => tb_X8_nextDigits_0) ?_
  simp only [kb_X8_nextDigits_0, s_lc0, s_lst_2, tkl_n, tkl_i, tkl_l, tkl_r, s_ic, s_ist4, s_nil, LR, IR, true_and, and_true, Nat.reduceAdd, Nat.reduceSub, eq_self]
  exact n5 4294967400 _ _ _ (by omega) (by omega) (by omega) (by omega)
theorem k_X3_sumOddPowers {e : tE} {b : Bool} {d n : Nat} {r : Nat} {x1 : Int} (h0 : cl r 5) (h1 : (0 ≤ x1 ∧ x1 ≤ 1)) (hd : 1 ≤ d) : sC e b d 1288 [.inr (.inr (.inl r)), .inl x1] n (SQn n (True)) := by
  refine sK (fun M h => tst_X3_sumOddPowers h) (fun M0 => ?_)
  have n34 : ∀ (fu : Nat) (i2_34 : Int), i2_34 + 1 + 1 ≤ (fu : Int) → (0 ≤ x1 ∧ x1 ≤ 1) → (-1 ≤ i2_34 ∧ i2_34 ≤ 5) → sT e b M0 d 1288 34 [some (.inr (.inr (.inl r))), some (.inl x1), some (.inl i2_34)] [] n (SQn n (True)) := by
    intro fu
    induction fu with
    | zero =>
      intro i2_34 hm y34_0 y34_1
      exfalso; omega
    | succ fu ih =>
      intro i2_34 hm y34_0 y34_1
      have ih34 := ih
      clear ih
      refine sB (fun M => tb_X3_sumOddPowers_34) ?_
      simp only [kb_X3_sumOddPowers_34, s_ild_2, s_if_lt, s_ald_0, s_gf_5_3, s_gf_5_0, s_bi, s_iv1, tfr_0, tfr_1, tfr_2, tfr_3, tfr_4, s_iv2, s_inc2, tkl_n, tkl_i, tkl_l, tkl_r, s_goto, LR, IR, true_and, and_true, Nat.reduceAdd, Nat.reduceSub, eq_self]
      refine ⟨by omega, fun h2_ => ?_, fun h2_ => ?_⟩
      · have n89 : ∀ (fu : Nat) (i2_89 : Int), 699 - i2_89 + 1 ≤ (fu : Int) → (3 ≤ i2_89 ∧ i2_89 ≤ 699) → sT e b M0 d 1288 89 [some (.inr (.inr (.inl r))), some (.inl x1), some (.inl i2_89)] [] n (SQn n (True)) := by
          intro fu
          induction fu with
          | zero =>
            intro i2_89 hm y89_0
            exfalso; omega
          | succ fu ih =>
            intro i2_89 hm y89_0
            have ih89 := ih
            clear ih
            have n185 : sT e b M0 d 1288 185 [some (.inr (.inr (.inl r))), some (.inl x1), some (.inl i2_89)] [] n (SQn n (True)) := by
              refine sB (fun M => tb_X3_sumOddPowers_185) ?_
              simp only [kb_X3_sumOddPowers_185, s_re, LR, IR, true_and, and_true, Nat.reduceAdd, Nat.reduceSub, eq_self]
              exact ⟨rfl, rfl, by first | trivial | omega⟩
            refine sB (fun M => tb_X3_sumOddPowers_89) ?_
            simp only [kb_X3_sumOddPowers_89, s_ild_2, s_si, s_ic_ge, s_ald_0, s_gf_5_3, s_gf_5_4, s_iv2, tfr_0, tfr_1, tfr_2, tfr_3, tfr_4, s_iv0, s_if_eq, s_goto, LR, IR, true_and, and_true, Nat.reduceAdd, Nat.reduceSub, eq_self]
            refine ⟨by omega, fun h6_ => ?_, fun h6_ => ?_⟩
            · exact n185
            refine ⟨by assumption, fun x8_ h8_ => ?_⟩
            refine ⟨by assumption, fun x10_ h10_ => ?_⟩
            refine ⟨by assumption, fun x12_ h12_ => ?_⟩
            refine ⟨vok_of (s := 6) (by assumption) rfl, ?_⟩
            refine sc_n (D := 0) (fun d' hd' => k_X4_toProduct (by assumption) (by assumption) (by assumption) hd') (by omega) ?_
            intro h13_
            try simp only [s_ald_0, s_gf_5_3, s_iv0, tfr_0, tfr_1, tfr_2, tfr_3, tfr_4, s_if_eq, s_goto, LR, IR, true_and, and_true, Nat.reduceAdd, Nat.reduceSub, eq_self]
            refine ⟨by assumption, fun x15_ h15_ => ?_⟩
            refine ⟨vok_of (s := 6) (by assumption) rfl, ?_⟩
            refine sc_i (D := 0) (fun d' hd' => k_X4_isZero (by assumption) hd') (by omega) ?_
            intro x16_ h16_
            try simp only [s_if_eq, s_goto, LR, IR, true_and, and_true, Nat.reduceAdd, Nat.reduceSub, eq_self]
            refine ⟨by omega, fun h17_ => ?_, fun h17_ => ?_⟩
            · have n179 : (3 ≤ i2_89 ∧ i2_89 ≤ 499) → sT e b M0 d 1288 179 [some (.inr (.inr (.inl r))), some (.inl x1), some (.inl i2_89)] [] n (SQn n (True)) := by
                intro  y179_0
                refine sB (fun M => tb_X3_sumOddPowers_179) ?_
                simp only [kb_X3_sumOddPowers_179, s_inc2, tkl_n, tkl_i, tkl_l, tkl_r, s_goto, LR, IR, true_and, and_true, Nat.reduceAdd, Nat.reduceSub, eq_self]
                exact ih89 _ (by omega) (by omega)
              have n168 : (3 ≤ i2_89 ∧ i2_89 ≤ 499) → sT e b M0 d 1288 168 [some (.inr (.inr (.inl r))), some (.inl x1), some (.inl i2_89)] [] n (SQn n (True)) := by
                intro  y168_0
                refine sB (fun M => tb_X3_sumOddPowers_168) ?_
                simp only [kb_X3_sumOddPowers_168, s_ald_0, s_gf_5_6, s_gf_5_5, s_iv1, tfr_0, tfr_1, tfr_2, tfr_3, tfr_4, s_nil, LR, IR, true_and, and_true, Nat.reduceAdd, Nat.reduceSub, eq_self]
                refine ⟨by assumption, fun x21_ h21_ => ?_⟩
                refine ⟨by assumption, fun x23_ h23_ => ?_⟩
                refine ⟨vok_of (s := 6) (by assumption) rfl, ?_⟩
                refine sc_n (D := 0) (fun d' hd' => k_X4_plus (by assumption) (by assumption) hd') (by omega) ?_
                intro h24_
                try simp only [s_nil, LR, IR, true_and, and_true, Nat.reduceAdd, Nat.reduceSub, eq_self]
                exact n179 (by omega)
              refine sB (fun M => tb_X3_sumOddPowers_124) ?_
              simp only [kb_X3_sumOddPowers_124, s_ald_0, s_gf_5_5, s_gf_5_3, s_iv1, tfr_0, tfr_1, tfr_2, tfr_3, tfr_4, s_ild_2, s_ild_1, s_if_eq, s_ic, s_irem, s_ic_ne, s_gf_5_6, s_goto, LR, IR, true_and, and_true, Nat.reduceAdd, Nat.reduceSub, eq_self]
              refine ⟨by assumption, fun x26_ h26_ => ?_⟩
              refine ⟨by assumption, fun x28_ h28_ => ?_⟩
              refine ⟨vok_of (s := 6) (by assumption) rfl, ?_⟩
              refine sc_n (D := 0) (fun d' hd' => k_X4_copy (by assumption) (by assumption) hd') (by omega) ?_
              intro h29_
              try simp only [s_ald_0, s_gf_5_5, s_ild_2, s_iv1, tfr_0, tfr_1, tfr_2, tfr_3, tfr_4, s_ild_1, s_if_eq, s_ic, s_irem, s_ic_ne, s_gf_5_6, s_goto, LR, IR, true_and, and_true, Nat.reduceAdd, Nat.reduceSub, eq_self]
              refine ⟨by assumption, fun x31_ h31_ => ?_⟩
              refine ⟨vok_of (s := 6) (by assumption) rfl, ?_⟩
              refine sc_n (D := 0) (fun d' hd' => k_X4_over (by assumption) (by omega) hd') (by omega) ?_
              intro h33_
              try simp only [s_ild_1, s_if_eq, s_ild_2, s_ic, s_irem, s_ic_ne, s_ald_0, s_gf_5_6, s_gf_5_5, s_iv1, tfr_0, tfr_1, tfr_2, tfr_3, tfr_4, s_goto, LR, IR, true_and, and_true, Nat.reduceAdd, Nat.reduceSub, eq_self]
              refine ⟨by omega, fun h35_ => ?_, fun h35_ => ?_⟩
              · exact n168 (by omega)
              refine ⟨by omega, fun x38_ h38_ g38_ => ?_⟩
              refine ⟨by omega, fun h40_ => ?_, fun h40_ => ?_⟩
              · exact n168 (by omega)
              refine ⟨by assumption, fun x42_ h42_ => ?_⟩
              refine ⟨by assumption, fun x44_ h44_ => ?_⟩
              refine ⟨vok_of (s := 6) (by assumption) rfl, ?_⟩
              refine sc_n (D := 0) (fun d' hd' => k_X4_minus (by assumption) (by assumption) hd') (by omega) ?_
              intro h45_
              try simp only [s_goto, LR, IR, true_and, and_true, Nat.reduceAdd, Nat.reduceSub, eq_self]
              exact n179 (by omega)
            exact n185
        refine sB (fun M => tb_X3_sumOddPowers_61) ?_
        simp only [kb_X3_sumOddPowers_61, s_ald_0, s_gf_5_4, s_gf_5_3, s_iv2, tfr_0, tfr_1, tfr_2, tfr_3, tfr_4, s_gf_5_6, s_iv1, s_ic, s_ist_2, tkl_n, tkl_i, tkl_l, tkl_r, s_nil, LR, IR, true_and, and_true, Nat.reduceAdd, Nat.reduceSub, eq_self]
        refine ⟨by assumption, fun x49_ h49_ => ?_⟩
        refine ⟨by assumption, fun x51_ h51_ => ?_⟩
        refine ⟨by assumption, fun x53_ h53_ => ?_⟩
        refine ⟨vok_of (s := 6) (by assumption) rfl, ?_⟩
        refine sc_n (D := 0) (fun d' hd' => k_X4_toProduct (by assumption) (by assumption) (by assumption) hd') (by omega) ?_
        intro h54_
        try simp only [s_ald_0, s_gf_5_6, s_gf_5_3, s_iv1, tfr_0, tfr_1, tfr_2, tfr_3, tfr_4, s_ic, s_ist_2, tkl_n, tkl_i, tkl_l, tkl_r, s_nil, LR, IR, true_and, and_true, Nat.reduceAdd, Nat.reduceSub, eq_self]
        refine ⟨by assumption, fun x56_ h56_ => ?_⟩
        refine ⟨by assumption, fun x58_ h58_ => ?_⟩
        refine ⟨vok_of (s := 6) (by assumption) rfl, ?_⟩
        refine sc_n (D := 0) (fun d' hd' => k_X4_copy (by assumption) (by assumption) hd') (by omega) ?_
        intro h59_
        try simp only [s_ic, s_ist_2, tkl_n, tkl_i, tkl_l, tkl_r, s_nil, LR, IR, true_and, and_true, Nat.reduceAdd, Nat.reduceSub, eq_self]
        exact n89 4294967400 _ (by omega) (by omega)
      refine ⟨by assumption, fun x63_ h63_ => ?_⟩
      refine ⟨by assumption, fun x66_ h66_ => ?_⟩
      refine ⟨vok_of (s := 10) (by assumption) rfl, ?_⟩
      refine sc_l (D := 0) (fun d' hd' => k_X8_nextDigits (by assumption) (by omega) hd') (by omega) ?_
      intro x68_ h68_
      try simp only [s_iv2, tfr_0, tfr_1, tfr_2, tfr_3, tfr_4, s_inc2, tkl_n, tkl_i, tkl_l, tkl_r, s_goto, LR, IR, true_and, and_true, Nat.reduceAdd, Nat.reduceSub, eq_self]
      refine ⟨vok_of (s := 6) (by assumption) rfl, ?_⟩
      refine sc_n (D := 0) (fun d' hd' => k_X4_setLimb (by assumption) (by omega) (by omega) hd') (by omega) ?_
      intro h69_
      try simp only [s_inc2, tkl_n, tkl_i, tkl_l, tkl_r, s_goto, LR, IR, true_and, and_true, Nat.reduceAdd, Nat.reduceSub, eq_self]
      exact ih34 _ (by omega) (by omega) (by omega)
  refine sB (fun M => tb_X3_sumOddPowers_0) ?_
  simp only [kb_X3_sumOddPowers_0, s_ald_0, s_gf_5_0, s_gf_5_9, s_gf_5_10, s_iv2, tfr_0, tfr_1, tfr_2, tfr_3, tfr_4, s_popi, s_popr, s_ic, s_iv1, s_pop2, s_gf_5_3, s_iv0, s_ist_2, tkl_n, tkl_i, tkl_l, tkl_r, s_nil, LR, IR, true_and, and_true, Nat.reduceAdd, Nat.reduceSub, eq_self]
  refine ⟨by assumption, fun x73_ h73_ => ?_⟩
  refine ⟨by assumption, fun x75_ h75_ => ?_⟩
  refine ⟨by assumption, fun x77_ h77_ => ?_⟩
  refine ⟨vok_of (s := 10) (by assumption) rfl, ?_⟩
  refine sc_i (D := 0) (fun d' hd' => k_X8_align (by assumption) (by assumption) (by assumption) hd') (by omega) ?_
  intro x78_ h78_
  try simp only [s_popi, s_popr, s_ald_0, s_gf_5_0, s_ic, s_iv1, tfr_0, tfr_1, tfr_2, tfr_3, tfr_4, s_pop2, s_gf_5_3, s_iv0, s_ist_2, tkl_n, tkl_i, tkl_l, tkl_r, s_nil, LR, IR, true_and, and_true, Nat.reduceAdd, Nat.reduceSub, eq_self]
  refine ⟨by assumption, fun x81_ h81_ => ?_⟩
  refine ⟨vok_of (s := 10) (by assumption) rfl, ?_⟩
  refine sc_l (D := 0) (fun d' hd' => k_X8_nextDigits (by assumption) (by omega) hd') (by omega) ?_
  intro x83_ h83_
  try simp only [s_pop2, s_ald_0, s_gf_5_3, s_iv0, tfr_0, tfr_1, tfr_2, tfr_3, tfr_4, s_ic, s_ist_2, tkl_n, tkl_i, tkl_l, tkl_r, s_nil, LR, IR, true_and, and_true, Nat.reduceAdd, Nat.reduceSub, eq_self]
  refine ⟨by assumption, fun x86_ h86_ => ?_⟩
  refine ⟨vok_of (s := 6) (by assumption) rfl, ?_⟩
  refine sc_n (D := 0) (fun d' hd' => k_X4_clear (by assumption) hd') (by omega) ?_
  intro h87_
  try simp only [s_ic, s_ist_2, tkl_n, tkl_i, tkl_l, tkl_r, s_nil, LR, IR, true_and, and_true, Nat.reduceAdd, Nat.reduceSub, eq_self]
  exact n34 4294967400 _ (by omega) (by omega) (by omega)
theorem k_X4_load {e : tE} {b : Bool} {d n : Nat} {r : Nat} {x1 : Nat} {x2 : Int} {x3 : Int} (h0 : cl r 6) (h1 : x1 = 2 ∨ x1 = 3) (h2 : (-70000000 ≤ x2 ∧ x2 ≤ 70000000)) (h3 : (0 ≤ x3 ∧ x3 ≤ 127)) (hd : 1 ≤ d) : sC e b d 1542 [.inr (.inr (.inl r)), .inr (.inr (.inr x1)), .inl x2, .inl x3] n (SQn n (True)) := by
  refine sK (fun M h => tst_X4_load h) (fun M0 => ?_)
  have n25 : ∀ (i4_25 : Int) (w5_25 : Option tV) (w6_25 : Option tV) (w7_25 : Option tV) (w8_25 : Option tV) (w9_25 : Option tV), (-70000000 ≤ x2 ∧ x2 ≤ 70000000) → (0 ≤ x3 ∧ x3 ≤ 127) → (-420000000 ≤ i4_25 ∧ i4_25 ≤ 420000000) → sT e b M0 d 1542 25 [some (.inr (.inr (.inl r))), some (.inr (.inr (.inr x1))), some (.inl x2), some (.inl x3), some (.inl i4_25), w5_25, w6_25, w7_25, w8_25, w9_25] [] n (SQn n (True)) := by
    intro i4_25 w5_25 w6_25 w7_25 w8_25 w9_25 y25_0 y25_1 y25_2
    refine sB (fun M => tb_X4_load_25) ?_
    simp only [kb_X4_load_25, s_re, LR, IR, true_and, and_true, Nat.reduceAdd, Nat.reduceSub, eq_self]
    exact ⟨rfl, rfl, by first | trivial | omega⟩
  refine sB (fun M => tb_X4_load_0) ?_
  simp only [kb_X4_load_0, s_ald_0, s_iv0, tfr_0, tfr_1, tfr_2, tfr_3, tfr_4, s_ild_2, s_bi, s_imul, s_ist4, tkl_n, tkl_i, tkl_l, tkl_r, s_ild4, s_if_lt, s_iadd, s_ald_1, s_lenx, s_ic_le, s_nil, LR, IR, true_and, and_true, Nat.reduceAdd, Nat.reduceSub, eq_self]
  refine ⟨vok_of (s := 6) (by assumption) rfl, ?_⟩
  refine sc_n (D := 0) (fun d' hd' => k_X4_clear (by assumption) hd') (by omega) ?_
  intro h3_
  try simp only [s_ild_2, s_bi, s_imul, s_ist4, tkl_n, tkl_i, tkl_l, tkl_r, s_ild4, s_if_lt, s_iadd, s_ald_1, s_lenx, s_ic_le, s_nil, LR, IR, true_and, and_true, Nat.reduceAdd, Nat.reduceSub, eq_self]
  refine ⟨by omega, fun h9_ => ?_, fun h9_ => ?_⟩
  · exact n25 _ _ _ _ _ _ (by omega) (by omega) (by omega)
  refine ⟨by assumption, ?_⟩
  refine ⟨by omega, fun h15_ => ?_, fun h15_ => ?_⟩
  · have n32 : ∀ (fu : Nat) (i4_32 : Int) (l5_32 : Int) (i7_32 : Int) (w8_32 : Option tV) (w9_32 : Option tV), 7 - i7_32 + 1 ≤ (fu : Int) → (-70000000 ≤ x2 ∧ x2 ≤ 70000000) → (0 ≤ x3 ∧ x3 ≤ 127) → (0 ≤ i4_32 ∧ i4_32 ≤ 420000000) → (-9223372036854775808 ≤ l5_32 ∧ l5_32 < 9223372036854775808) → (0 ≤ i7_32 ∧ i7_32 ≤ 7) → 0 ≤ i4_32 ∧ i4_32 ≤ 48 → sT e b M0 d 1542 32 [some (.inr (.inr (.inl r))), some (.inr (.inr (.inr x1))), some (.inl x2), some (.inl x3), some (.inl i4_32), some (.inr (.inl l5_32)), none, some (.inl i7_32), w8_32, w9_32] [] n (SQn n (True)) := by
      intro fu
      induction fu with
      | zero =>
        intro i4_32 l5_32 i7_32 w8_32 w9_32 hm y32_0 y32_1 y32_2 y32_3 y32_4 y32_5
        exfalso; omega
      | succ fu ih =>
        intro i4_32 l5_32 i7_32 w8_32 w9_32 hm y32_0 y32_1 y32_2 y32_3 y32_4 y32_5
        have ih32 := ih
        clear ih
        refine sB (fun M => tb_X4_load_32) ?_
        simp only [kb_X4_load_32, s_ild7, s_bi, s_ic_ge, s_ald_1, s_ild4, s_iadd, s_ia, s_iax, s_i2l, s_ild_3, s_lmul, s_lld5, s_ladd, s_lst8, tkl_n, tkl_i, tkl_l, tkl_r, s_ald_0, s_gf_6_0, s_lld8, s_ld2, s_lrem, s_las, s_ldiv, s_lst5, s_inc7, s_goto, LR, IR, true_and, and_true, Nat.reduceAdd, Nat.reduceSub, eq_self]
        refine ⟨by omega, fun h18_ => ?_, fun h18_ => ?_⟩
        · refine sB (fun M => tb_X4_load_82) ?_
          simp only [kb_X4_load_82, s_ald_0, s_gf_6_0, s_bi, s_lld5, s_las, s_re, LR, IR, true_and, and_true, Nat.reduceAdd, Nat.reduceSub, eq_self]
          refine ⟨by assumption, fun x20_ h20_ => ?_⟩
          refine ⟨aok_23 (by assumption) (by omega), ?_⟩
          exact ⟨rfl, rfl, by first | trivial | omega⟩
        refine ⟨by assumption, by omega, fun x29_ h29_ => ?_⟩
        refine ⟨by omega, ?_⟩
        refine ⟨by omega, ?_⟩
        intro x33_ h33_
        intro x35_ h35_
        refine ⟨by assumption, fun x38_ h38_ => ?_⟩
        refine ⟨by omega, fun x42_ h42_ => ?_⟩
        refine ⟨aok_23 (by assumption) (by omega), ?_⟩
        refine ⟨by omega, fun x46_ h46_ => ?_⟩
        exact ih32 _ _ _ _ _ (by omega) (by omega) (by omega) (by omega) (by omega) (by omega) (by omega)
    refine sB (fun M => tb_X4_load_26) ?_
    simp only [kb_X4_load_26, s_lc0, s_lst5, tkl_n, tkl_i, tkl_l, tkl_r, s_ic, s_ist7, s_nil, LR, IR, true_and, and_true, Nat.reduceAdd, Nat.reduceSub, eq_self]
    exact n32 4294967400 _ _ _ _ _ (by omega) (by omega) (by omega) (by omega) (by omega) (by omega) (by omega)
  exact n25 _ _ _ _ _ _ (by omega) (by omega) (by omega)
theorem k_X3_arc {e : tE} {b : Bool} {d n : Nat} {r : Nat} {x1 : Nat} (h0 : cl r 5) (h1 : cl x1 3) (hd : 2 ≤ d) : sC e b d 1281 [.inr (.inr (.inl r)), .inr (.inr (.inl x1))] n (SQn n (True)) := by
  refine sK (fun M h => tst_X3_arc h) (fun M0 => ?_)
  have n13 : ∀ (w2_13 : Option tV) (w3_13 : Option tV) (w4_13 : Option tV) (is0_13 : Int) (qs1_13 : Nat), (0 ≤ is0_13 ∧ is0_13 ≤ 1) → cl qs1_13 5 → sT e b M0 d 1281 13 [some (.inr (.inr (.inl r))), some (.inr (.inr (.inl x1))), w2_13, w3_13, w4_13] [.inl is0_13, .inr (.inr (.inl qs1_13))] n (SQn n (True)) := by
    intro w2_13 w3_13 w4_13 is0_13 qs1_13 y13_0 y13_1
    refine sB (fun M => tb_X3_arc_13) ?_
    simp only [kb_X3_arc_13, s_iv1, tfr_0, tfr_1, tfr_2, tfr_3, tfr_4, s_ald_1, s_iv0, s_if_eq, s_re, LR, IR, true_and, and_true, Nat.reduceAdd, Nat.reduceSub, eq_self]
    refine ⟨vok_of (s := 5) (by assumption) rfl, ?_⟩
    refine sc_n (D := 1) (fun d' hd' => k_X3_begin (by assumption) (by omega) hd') (by omega) ?_
    intro h1_
    try simp only [s_ald_1, s_iv0, tfr_0, tfr_1, tfr_2, tfr_3, tfr_4, s_if_eq, s_re, LR, IR, true_and, and_true, Nat.reduceAdd, Nat.reduceSub, eq_self]
    refine ⟨vok_of (s := 3) (by assumption) rfl, ?_⟩
    refine sc_i (D := 0) (fun d' hd' => k_X1_isZero (by assumption) hd') (by omega) ?_
    intro x3_ h3_
    try simp only [s_if_eq, s_re, LR, IR, true_and, and_true, Nat.reduceAdd, Nat.reduceSub, eq_self]
    refine ⟨by omega, fun h4_ => ?_, fun h4_ => ?_⟩
    · have n46 : ∀ (w2_46 : Option tV) (w3_46 : Option tV) (w4_46 : Option tV), sT e b M0 d 1281 46 [some (.inr (.inr (.inl r))), some (.inr (.inr (.inl x1))), w2_46, w3_46, w4_46] [] n (SQn n (True)) := by
        intro w2_46 w3_46 w4_46 
        have n91 : ∀ (i2_91 : Int) (w3_91 : Option tV) (w4_91 : Option tV), (0 ≤ i2_91 ∧ i2_91 ≤ 1) → sT e b M0 d 1281 91 [some (.inr (.inr (.inl r))), some (.inr (.inr (.inl x1))), some (.inl i2_91), w3_91, w4_91] [] n (SQn n (True)) := by
          intro i2_91 w3_91 w4_91 y91_0
          have n139 : ∀ (i3_139 : Int) (i4_139 : Int), (0 ≤ i3_139 ∧ i3_139 ≤ 8) → (0 ≤ i4_139 ∧ i4_139 ≤ 1) → sT e b M0 d 1281 139 [some (.inr (.inr (.inl r))), some (.inr (.inr (.inl x1))), some (.inl i2_91), some (.inl i3_139), some (.inl i4_139)] [] n (SQn n (True)) := by
            intro i3_139 i4_139 y139_0 y139_1
            have n166 : ∀ (qs0_166 : Nat), cl qs0_166 6 → sT e b M0 d 1281 166 [some (.inr (.inr (.inl r))), some (.inr (.inr (.inl x1))), some (.inl i2_91), some (.inl i3_139), some (.inl i4_139)] [.inr (.inr (.inl qs0_166))] n (SQn n (True)) := by
              intro qs0_166 y166_0
              have n190 : ∀ (qs0_190 : Nat), cl qs0_190 6 → sT e b M0 d 1281 190 [some (.inr (.inr (.inl r))), some (.inr (.inr (.inl x1))), some (.inl i2_91), some (.inl i3_139), some (.inl i4_139)] [.inr (.inr (.inl qs0_190))] n (SQn n (True)) := by
                intro qs0_190 y190_0
                refine sB (fun M => tb_X3_arc_190) ?_
                simp only [kb_X3_arc_190, s_ald_0, s_gf_5_6, s_iv1, tfr_0, tfr_1, tfr_2, tfr_3, tfr_4, s_iv0, s_ald_1, s_pf_5_1, s_re, LR, IR, true_and, and_true, Nat.reduceAdd, Nat.reduceSub, eq_self]
                refine ⟨by assumption, fun x6_ h6_ => ?_⟩
                refine ⟨vok_of (s := 6) (by assumption) rfl, ?_⟩
                refine sc_n (D := 0) (fun d' hd' => k_X4_plus (by assumption) (by assumption) hd') (by omega) ?_
                intro h7_
                try simp only [s_ald_0, s_iv0, tfr_0, tfr_1, tfr_2, tfr_3, tfr_4, s_ald_1, s_pf_5_1, s_re, LR, IR, true_and, and_true, Nat.reduceAdd, Nat.reduceSub, eq_self]
                refine ⟨vok_of (s := 5) (by assumption) rfl, ?_⟩
                refine sc_n (D := 1) (fun d' hd' => k_X3_settle (by assumption) hd') (by omega) ?_
                intro h9_
                try simp only [s_ald_0, s_ald_1, s_iv0, tfr_0, tfr_1, tfr_2, tfr_3, tfr_4, s_pf_5_1, s_re, LR, IR, true_and, and_true, Nat.reduceAdd, Nat.reduceSub, eq_self]
                refine ⟨vok_of (s := 3) (by assumption) rfl, ?_⟩
                refine sc_i (D := 0) (fun d' hd' => k_X1_isNegative (by assumption) hd') (by omega) ?_
                intro x12_ h12_
                try simp only [s_pf_5_1, s_re, LR, IR, true_and, and_true, Nat.reduceAdd, Nat.reduceSub, eq_self]
                refine ⟨by assumption, by omega, ?_⟩
                exact ⟨rfl, rfl, by first | trivial | omega⟩
              refine sB (fun M => tb_X3_arc_166) ?_
              simp only [kb_X3_arc_166, s_ald_0, s_gf_5_5, s_iv1, tfr_0, tfr_1, tfr_2, tfr_3, tfr_4, s_ild_2, s_ild4, s_ic_eq, s_gf_5_8, s_goto, LR, IR, true_and, and_true, Nat.reduceAdd, Nat.reduceSub, eq_self]
              refine ⟨by assumption, fun x16_ h16_ => ?_⟩
              refine ⟨vok_of (s := 6) (by assumption) rfl, ?_⟩
              refine sc_n (D := 0) (fun d' hd' => k_X4_plus (by assumption) (by assumption) hd') (by omega) ?_
              intro h17_
              try simp only [s_ild_2, s_ild4, s_ic_eq, s_ald_0, s_gf_5_8, s_goto, LR, IR, true_and, and_true, Nat.reduceAdd, Nat.reduceSub, eq_self]
              refine ⟨by omega, fun h20_ => ?_, fun h20_ => ?_⟩
              · refine sB (fun M => tb_X3_arc_186) ?_
                simp only [kb_X3_arc_186, s_ald_0, s_gf_5_7, s_nil, LR, IR, true_and, and_true, Nat.reduceAdd, Nat.reduceSub, eq_self]
                refine ⟨by assumption, fun x22_ h22_ => ?_⟩
                exact n190 _ (by assumption)
              refine ⟨by assumption, fun x24_ h24_ => ?_⟩
              exact n190 _ (by assumption)
            refine sB (fun M => tb_X3_arc_139) ?_
            simp only [kb_X3_arc_139, s_ald_0, s_gf_5_5, s_gs, s_ild_3, s_ic, s_iv3, tfr_0, tfr_1, tfr_2, tfr_3, tfr_4, s_ild_2, s_if_eq, s_gf_5_8, s_goto, LR, IR, true_and, and_true, Nat.reduceAdd, Nat.reduceSub, eq_self]
            refine ⟨by assumption, fun x27_ h27_ => ?_⟩
            refine ⟨vok_of (s := 6) (by assumption) rfl, ?_⟩
            refine sc_n (D := 1) (fun d' hd' => k_X4_load (by assumption) (by first | assumption | exact Or.inl rfl | exact Or.inr rfl) (by omega) (by omega) hd') (by omega) ?_
            intro h31_
            try simp only [s_ild_2, s_if_eq, s_ald_0, s_gf_5_8, s_goto, LR, IR, true_and, and_true, Nat.reduceAdd, Nat.reduceSub, eq_self]
            refine ⟨by omega, fun h33_ => ?_, fun h33_ => ?_⟩
            · refine sB (fun M => tb_X3_arc_162) ?_
              simp only [kb_X3_arc_162, s_ald_0, s_gf_5_7, s_nil, LR, IR, true_and, and_true, Nat.reduceAdd, Nat.reduceSub, eq_self]
              refine ⟨by assumption, fun x35_ h35_ => ?_⟩
              exact n166 _ (by assumption)
            refine ⟨by assumption, fun x37_ h37_ => ?_⟩
            exact n166 _ (by assumption)
          refine sB (fun M => tb_X3_arc_91) ?_
          simp only [kb_X3_arc_91, s_ald_0, s_iv0, tfr_0, tfr_1, tfr_2, tfr_3, tfr_4, s_ist_3, tkl_n, tkl_i, tkl_l, tkl_r, s_ild_3, s_iv1, s_ist4, s_ic, s_gf_5_7, s_gf_5_8, s_ild_2, s_if_eq, s_gs, s_bi, s_iv3, s_nil, LR, IR, true_and, and_true, Nat.reduceAdd, Nat.reduceSub, eq_self]
          refine ⟨vok_of (s := 5) (by assumption) rfl, ?_⟩
          refine sc_i (D := 1) (fun d' hd' => k_X3_nearestEighth (by assumption) hd') (by omega) ?_
          intro x40_ h40_
          try simp only [s_ist_3, tkl_n, tkl_i, tkl_l, tkl_r, s_ald_0, s_ild_3, s_iv1, tfr_0, tfr_1, tfr_2, tfr_3, tfr_4, s_ist4, s_ic, s_gf_5_7, s_iv0, s_gf_5_8, s_ild_2, s_if_eq, s_gs, s_bi, s_iv3, s_nil, LR, IR, true_and, and_true, Nat.reduceAdd, Nat.reduceSub, eq_self]
          refine ⟨vok_of (s := 5) (by assumption) rfl, ?_⟩
          refine sc_i (D := 1) (fun d' hd' => k_X3_shiftToEighth (by assumption) (by omega) hd') (by omega) ?_
          intro x44_ h44_
          try simp only [s_ist4, tkl_n, tkl_i, tkl_l, tkl_r, s_ald_0, s_ic, s_iv1, tfr_0, tfr_1, tfr_2, tfr_3, tfr_4, s_gf_5_7, s_iv0, s_gf_5_8, s_ild_2, s_if_eq, s_gs, s_bi, s_iv3, s_nil, LR, IR, true_and, and_true, Nat.reduceAdd, Nat.reduceSub, eq_self]
          refine ⟨vok_of (s := 5) (by assumption) rfl, ?_⟩
          refine sc_n (D := 1) (fun d' hd' => k_X3_sumOddPowers (by assumption) (by omega) hd') (by omega) ?_
          intro h48_
          try simp only [s_ald_0, s_gf_5_7, s_iv0, tfr_0, tfr_1, tfr_2, tfr_3, tfr_4, s_gf_5_8, s_ild_2, s_if_eq, s_gs, s_bi, s_ic, s_iv3, s_nil, LR, IR, true_and, and_true, Nat.reduceAdd, Nat.reduceSub, eq_self]
          refine ⟨by assumption, fun x50_ h50_ => ?_⟩
          refine ⟨vok_of (s := 6) (by assumption) rfl, ?_⟩
          refine sc_n (D := 0) (fun d' hd' => k_X4_clear (by assumption) hd') (by omega) ?_
          intro h51_
          try simp only [s_ald_0, s_gf_5_8, s_iv0, tfr_0, tfr_1, tfr_2, tfr_3, tfr_4, s_ild_2, s_if_eq, s_gf_5_7, s_gs, s_bi, s_ic, s_iv3, s_nil, LR, IR, true_and, and_true, Nat.reduceAdd, Nat.reduceSub, eq_self]
          refine ⟨by assumption, fun x53_ h53_ => ?_⟩
          refine ⟨vok_of (s := 6) (by assumption) rfl, ?_⟩
          refine sc_n (D := 0) (fun d' hd' => k_X4_clear (by assumption) hd') (by omega) ?_
          intro h54_
          try simp only [s_ild_2, s_if_eq, s_ald_0, s_gf_5_7, s_gs, s_bi, s_ic, s_iv3, tfr_0, tfr_1, tfr_2, tfr_3, tfr_4, s_nil, LR, IR, true_and, and_true, Nat.reduceAdd, Nat.reduceSub, eq_self]
          refine ⟨by omega, fun h56_ => ?_, fun h56_ => ?_⟩
          · exact n139 _ _ (by omega) (by omega)
          refine ⟨by assumption, fun x58_ h58_ => ?_⟩
          refine ⟨vok_of (s := 6) (by assumption) rfl, ?_⟩
          refine sc_n (D := 1) (fun d' hd' => k_X4_load (by assumption) (by first | assumption | exact Or.inl rfl | exact Or.inr rfl) (by omega) (by omega) hd') (by omega) ?_
          intro h62_
          try simp only [s_nil, LR, IR, true_and, and_true, Nat.reduceAdd, Nat.reduceSub, eq_self]
          exact n139 _ _ (by omega) (by omega)
        refine sB (fun M => tb_X3_arc_46) ?_
        simp only [kb_X3_arc_46, s_ald_0, s_gf_5_12, s_lc1, s_lc0, s_iv2, tfr_0, tfr_1, tfr_2, tfr_3, tfr_4, s_gf_5_11, s_iv1, s_ist_2, tkl_n, tkl_i, tkl_l, tkl_r, s_ild_2, s_if_eq, s_nil, LR, IR, true_and, and_true, Nat.reduceAdd, Nat.reduceSub, eq_self]
        refine ⟨by assumption, fun x64_ h64_ => ?_⟩
        refine ⟨vok_of (s := 3) (by assumption) rfl, ?_⟩
        refine sc_n (D := 0) (fun d' hd' => k_X1_assign (by assumption) (by omega) (by omega) hd') (by omega) ?_
        intro h67_
        try simp only [s_ald_0, s_gf_5_12, s_gf_5_11, s_iv1, tfr_0, tfr_1, tfr_2, tfr_3, tfr_4, s_ist_2, tkl_n, tkl_i, tkl_l, tkl_r, s_ild_2, s_if_eq, s_lc1, s_lc0, s_iv2, s_nil, LR, IR, true_and, and_true, Nat.reduceAdd, Nat.reduceSub, eq_self]
        refine ⟨by assumption, fun x69_ h69_ => ?_⟩
        refine ⟨by assumption, fun x71_ h71_ => ?_⟩
        refine ⟨vok_of (s := 3) (by assumption) rfl, ?_⟩
        refine sc_i (D := 0) (fun d' hd' => k_X1_isBelow (by assumption) (by assumption) hd') (by omega) ?_
        intro x72_ h72_
        try simp only [s_ist_2, tkl_n, tkl_i, tkl_l, tkl_r, s_ild_2, s_if_eq, s_ald_0, s_gf_5_12, s_gf_5_11, s_iv1, tfr_0, tfr_1, tfr_2, tfr_3, tfr_4, s_lc1, s_lc0, s_iv2, s_nil, LR, IR, true_and, and_true, Nat.reduceAdd, Nat.reduceSub, eq_self]
        refine ⟨by omega, fun h75_ => ?_, fun h75_ => ?_⟩
        · exact n91 _ _ _ (by omega)
        refine ⟨by assumption, fun x77_ h77_ => ?_⟩
        refine ⟨by assumption, fun x79_ h79_ => ?_⟩
        refine ⟨vok_of (s := 3) (by assumption) rfl, ?_⟩
        refine sc_n (D := 0) (fun d' hd' => k_X1_copy (by assumption) (by assumption) hd') (by omega) ?_
        intro h80_
        try simp only [s_ald_0, s_gf_5_11, s_lc1, s_lc0, s_iv2, tfr_0, tfr_1, tfr_2, tfr_3, tfr_4, s_nil, LR, IR, true_and, and_true, Nat.reduceAdd, Nat.reduceSub, eq_self]
        refine ⟨by assumption, fun x82_ h82_ => ?_⟩
        refine ⟨vok_of (s := 3) (by assumption) rfl, ?_⟩
        refine sc_n (D := 0) (fun d' hd' => k_X1_assign (by assumption) (by omega) (by omega) hd') (by omega) ?_
        intro h85_
        try simp only [s_nil, LR, IR, true_and, and_true, Nat.reduceAdd, Nat.reduceSub, eq_self]
        exact n91 _ _ _ (by omega)
      refine sB (fun M => tb_X3_arc_24) ?_
      simp only [kb_X3_arc_24, s_ald_0, s_gf_5_11, s_ald_1, s_iv1, tfr_0, tfr_1, tfr_2, tfr_3, tfr_4, s_iv0, s_if_eq, s_nil, LR, IR, true_and, and_true, Nat.reduceAdd, Nat.reduceSub, eq_self]
      refine ⟨by assumption, fun x87_ h87_ => ?_⟩
      refine ⟨vok_of (s := 3) (by assumption) rfl, ?_⟩
      refine sc_n (D := 0) (fun d' hd' => k_X1_copy (by assumption) (by assumption) hd') (by omega) ?_
      intro h89_
      try simp only [s_ald_1, s_iv0, tfr_0, tfr_1, tfr_2, tfr_3, tfr_4, s_if_eq, s_ald_0, s_gf_5_11, s_nil, LR, IR, true_and, and_true, Nat.reduceAdd, Nat.reduceSub, eq_self]
      refine ⟨vok_of (s := 3) (by assumption) rfl, ?_⟩
      refine sc_i (D := 0) (fun d' hd' => k_X1_isNegative (by assumption) hd') (by omega) ?_
      intro x91_ h91_
      try simp only [s_if_eq, s_ald_0, s_gf_5_11, s_iv0, tfr_0, tfr_1, tfr_2, tfr_3, tfr_4, s_nil, LR, IR, true_and, and_true, Nat.reduceAdd, Nat.reduceSub, eq_self]
      refine ⟨by omega, fun h92_ => ?_, fun h92_ => ?_⟩
      · exact n46 _ _ _
      refine ⟨by assumption, fun x94_ h94_ => ?_⟩
      refine ⟨vok_of (s := 3) (by assumption) rfl, ?_⟩
      refine sc_n (D := 0) (fun d' hd' => k_X1_turn (by assumption) hd') (by omega) ?_
      intro h95_
      try simp only [s_nil, LR, IR, true_and, and_true, Nat.reduceAdd, Nat.reduceSub, eq_self]
      exact n46 _ _ _
    exact ⟨rfl, rfl, by first | trivial | omega⟩
  refine sB (fun M => tb_X3_arc_0) ?_
  simp only [kb_X3_arc_0, s_ald_0, s_ald_1, s_iv0, tfr_0, tfr_1, tfr_2, tfr_3, tfr_4, s_if_ne, s_ic, s_goto, LR, IR, true_and, and_true, Nat.reduceAdd, Nat.reduceSub, eq_self]
  refine ⟨vok_of (s := 3) (by assumption) rfl, ?_⟩
  refine sc_i (D := 0) (fun d' hd' => k_X1_isZero (by assumption) hd') (by omega) ?_
  intro x99_ h99_
  try simp only [s_if_ne, s_ic, s_goto, LR, IR, true_and, and_true, Nat.reduceAdd, Nat.reduceSub, eq_self]
  refine ⟨by omega, fun h100_ => ?_, fun h100_ => ?_⟩
  · refine sB (fun M => tb_X3_arc_12) ?_
    simp only [kb_X3_arc_12, s_ic, s_nil, LR, IR, true_and, and_true, Nat.reduceAdd, Nat.reduceSub, eq_self]
    exact n13 _ _ _ _ _ (by omega) (by assumption)
  exact n13 _ _ _ _ _ (by omega) (by assumption)
theorem k_X3_sumPowers {e : tE} {b : Bool} {d n : Nat} {r : Nat} {x1 : Nat} (h0 : cl r 5) (h1 : cl x1 3) (hd : 1 ≤ d) : sC e b d 1289 [.inr (.inr (.inl r)), .inr (.inr (.inl x1))] n (SQn n (True)) := by
  refine sK (fun M h => tst_X3_sumPowers h) (fun M0 => ?_)
  have n25 : ∀ (l2_25 : Int) (w4_25 : Option tV) (w5_25 : Option tV) (w6_25 : Option tV) (w7_25 : Option tV) (is0_25 : Int), (-9223372036854775808 ≤ l2_25 ∧ l2_25 < 9223372036854775808) → (0 ≤ is0_25 ∧ is0_25 ≤ 1) → sT e b M0 d 1289 25 [some (.inr (.inr (.inl r))), some (.inr (.inr (.inl x1))), some (.inr (.inl l2_25)), none, w4_25, w5_25, w6_25, w7_25] [.inl is0_25] n (SQn n (True)) := by
    intro l2_25 w4_25 w5_25 w6_25 w7_25 is0_25 y25_0 y25_1
    have n38 : ∀ (i4_38 : Int) (w5_38 : Option tV) (w6_38 : Option tV) (w7_38 : Option tV) (ls0_38 : Int), (0 ≤ i4_38 ∧ i4_38 ≤ 1) → (-9223372036854775808 ≤ ls0_38 ∧ ls0_38 < 9223372036854775808) → sT e b M0 d 1289 38 [some (.inr (.inr (.inl r))), some (.inr (.inr (.inl x1))), some (.inr (.inl l2_25)), none, some (.inl i4_38), w5_38, w6_38, w7_38] [.inr (.inl ls0_38)] n (SQn n (True)) := by
      intro i4_38 w5_38 w6_38 w7_38 ls0_38 y38_0 y38_1
      have n110 : ∀ (fu : Nat) (l5_110 : Int) (i7_110 : Int), 699 - i7_110 + 1 ≤ (fu : Int) → (-9223372036854775808 ≤ l5_110 ∧ l5_110 < 9223372036854775808) → (1 ≤ i7_110 ∧ i7_110 ≤ 699) → sT e b M0 d 1289 110 [some (.inr (.inr (.inl r))), some (.inr (.inr (.inl x1))), some (.inr (.inl l2_25)), none, some (.inl i4_38), some (.inr (.inl l5_110)), none, some (.inl i7_110)] [] n (SQn n (True)) := by
        intro fu
        induction fu with
        | zero =>
          intro l5_110 i7_110 hm y110_0 y110_1
          exfalso; omega
        | succ fu ih =>
          intro l5_110 i7_110 hm y110_0 y110_1
          have ih110 := ih
          clear ih
          have n199 : sT e b M0 d 1289 199 [some (.inr (.inr (.inl r))), some (.inr (.inr (.inl x1))), some (.inr (.inl l2_25)), none, some (.inl i4_38), some (.inr (.inl l5_110)), none, some (.inl i7_110)] [] n (SQn n (True)) := by
            refine sB (fun M => tb_X3_sumPowers_199) ?_
            simp only [kb_X3_sumPowers_199, s_re, LR, IR, true_and, and_true, Nat.reduceAdd, Nat.reduceSub, eq_self]
            exact ⟨rfl, rfl, by first | trivial | omega⟩
          refine sB (fun M => tb_X3_sumPowers_110) ?_
          simp only [kb_X3_sumPowers_110, s_ild7, s_si, s_ic_ge, s_ald_0, s_gf_5_5, s_gf_5_4, s_iv2, tfr_0, tfr_1, tfr_2, tfr_3, tfr_4, s_iv1, s_iv0, s_if_eq, s_goto, LR, IR, true_and, and_true, Nat.reduceAdd, Nat.reduceSub, eq_self]
          refine ⟨by omega, fun h4_ => ?_, fun h4_ => ?_⟩
          · exact n199
          refine ⟨by assumption, fun x6_ h6_ => ?_⟩
          refine ⟨by assumption, fun x8_ h8_ => ?_⟩
          refine ⟨by assumption, fun x10_ h10_ => ?_⟩
          refine ⟨vok_of (s := 6) (by assumption) rfl, ?_⟩
          refine sc_n (D := 0) (fun d' hd' => k_X4_toProduct (by assumption) (by assumption) (by assumption) hd') (by omega) ?_
          intro h11_
          try simp only [s_ald_0, s_gf_5_5, s_ild7, s_iv1, tfr_0, tfr_1, tfr_2, tfr_3, tfr_4, s_iv0, s_if_eq, s_goto, LR, IR, true_and, and_true, Nat.reduceAdd, Nat.reduceSub, eq_self]
          refine ⟨by assumption, fun x13_ h13_ => ?_⟩
          refine ⟨vok_of (s := 6) (by assumption) rfl, ?_⟩
          refine sc_n (D := 0) (fun d' hd' => k_X4_over (by assumption) (by omega) hd') (by omega) ?_
          intro h15_
          try simp only [s_ald_0, s_gf_5_5, s_iv0, tfr_0, tfr_1, tfr_2, tfr_3, tfr_4, s_if_eq, s_goto, LR, IR, true_and, and_true, Nat.reduceAdd, Nat.reduceSub, eq_self]
          refine ⟨by assumption, fun x17_ h17_ => ?_⟩
          refine ⟨vok_of (s := 6) (by assumption) rfl, ?_⟩
          refine sc_i (D := 0) (fun d' hd' => k_X4_isZero (by assumption) hd') (by omega) ?_
          intro x18_ h18_
          try simp only [s_if_eq, s_goto, LR, IR, true_and, and_true, Nat.reduceAdd, Nat.reduceSub, eq_self]
          refine ⟨by omega, fun h19_ => ?_, fun h19_ => ?_⟩
          · have n193 : (1 ≤ i7_110 ∧ i7_110 ≤ 499) → sT e b M0 d 1289 193 [some (.inr (.inr (.inl r))), some (.inr (.inr (.inl x1))), some (.inr (.inl l2_25)), none, some (.inl i4_38), some (.inr (.inl l5_110)), none, some (.inl i7_110)] [] n (SQn n (True)) := by
              intro  y193_0
              refine sB (fun M => tb_X3_sumPowers_193) ?_
              simp only [kb_X3_sumPowers_193, s_inc7, tkl_n, tkl_i, tkl_l, tkl_r, s_goto, LR, IR, true_and, and_true, Nat.reduceAdd, Nat.reduceSub, eq_self]
              exact ih110 _ _ (by omega) (by omega) (by omega)
            have n182 : (1 ≤ i7_110 ∧ i7_110 ≤ 499) → sT e b M0 d 1289 182 [some (.inr (.inr (.inl r))), some (.inr (.inr (.inl x1))), some (.inr (.inl l2_25)), none, some (.inl i4_38), some (.inr (.inl l5_110)), none, some (.inl i7_110)] [] n (SQn n (True)) := by
              intro  y182_0
              refine sB (fun M => tb_X3_sumPowers_182) ?_
              simp only [kb_X3_sumPowers_182, s_ald_0, s_gf_5_6, s_gf_5_5, s_iv1, tfr_0, tfr_1, tfr_2, tfr_3, tfr_4, s_nil, LR, IR, true_and, and_true, Nat.reduceAdd, Nat.reduceSub, eq_self]
              refine ⟨by assumption, fun x23_ h23_ => ?_⟩
              refine ⟨by assumption, fun x25_ h25_ => ?_⟩
              refine ⟨vok_of (s := 6) (by assumption) rfl, ?_⟩
              refine sc_n (D := 0) (fun d' hd' => k_X4_plus (by assumption) (by assumption) hd') (by omega) ?_
              intro h26_
              try simp only [s_nil, LR, IR, true_and, and_true, Nat.reduceAdd, Nat.reduceSub, eq_self]
              exact n193 (by omega)
            refine sB (fun M => tb_X3_sumPowers_155) ?_
            simp only [kb_X3_sumPowers_155, s_ild4, s_if_eq, s_ild7, s_ic, s_irem, s_ic_ne, s_ald_0, s_gf_5_6, s_gf_5_5, s_iv1, tfr_0, tfr_1, tfr_2, tfr_3, tfr_4, s_goto, LR, IR, true_and, and_true, Nat.reduceAdd, Nat.reduceSub, eq_self]
            refine ⟨by omega, fun h28_ => ?_, fun h28_ => ?_⟩
            · exact n182 (by omega)
            refine ⟨by omega, fun x31_ h31_ g31_ => ?_⟩
            refine ⟨by omega, fun h33_ => ?_, fun h33_ => ?_⟩
            · exact n182 (by omega)
            refine ⟨by assumption, fun x35_ h35_ => ?_⟩
            refine ⟨by assumption, fun x37_ h37_ => ?_⟩
            refine ⟨vok_of (s := 6) (by assumption) rfl, ?_⟩
            refine sc_n (D := 0) (fun d' hd' => k_X4_minus (by assumption) (by assumption) hd') (by omega) ?_
            intro h38_
            try simp only [s_goto, LR, IR, true_and, and_true, Nat.reduceAdd, Nat.reduceSub, eq_self]
            exact n193 (by omega)
          exact n199
      refine sB (fun M => tb_X3_sumPowers_38) ?_
      simp only [kb_X3_sumPowers_38, s_ld2, s_lmul, s_lst5, tkl_n, tkl_i, tkl_l, tkl_r, s_ald_0, s_gf_5_4, s_iv0, tfr_0, tfr_1, tfr_2, tfr_3, tfr_4, s_ic, s_lld5, s_ldiv, s_iv2, s_lrem, s_gf_5_5, s_bi, s_lc1, s_gf_5_6, s_iv1, s_ist7, s_nil, LR, IR, true_and, and_true, Nat.reduceAdd, Nat.reduceSub, eq_self]
      intro x42_ h42_
      refine ⟨by assumption, fun x45_ h45_ => ?_⟩
      refine ⟨vok_of (s := 6) (by assumption) rfl, ?_⟩
      refine sc_n (D := 0) (fun d' hd' => k_X4_clear (by assumption) hd') (by omega) ?_
      intro h46_
      try simp only [s_ald_0, s_gf_5_4, s_ic, s_lld5, s_ld2, s_ldiv, s_iv2, tfr_0, tfr_1, tfr_2, tfr_3, tfr_4, s_lrem, s_gf_5_5, s_iv0, s_bi, s_lc1, s_gf_5_6, s_iv1, s_ist7, tkl_n, tkl_i, tkl_l, tkl_r, s_nil, LR, IR, true_and, and_true, Nat.reduceAdd, Nat.reduceSub, eq_self]
      refine ⟨by assumption, fun x48_ h48_ => ?_⟩
      refine ⟨by omega, fun x52_ h52_ => ?_⟩
      refine ⟨vok_of (s := 6) (by assumption) rfl, ?_⟩
      refine sc_n (D := 0) (fun d' hd' => k_X4_setLimb (by assumption) (by omega) (by omega) hd') (by omega) ?_
      intro h53_
      try simp only [s_ald_0, s_gf_5_4, s_ic, s_lld5, s_ld2, s_lrem, s_iv2, tfr_0, tfr_1, tfr_2, tfr_3, tfr_4, s_gf_5_5, s_iv0, s_bi, s_lc1, s_gf_5_6, s_iv1, s_ist7, tkl_n, tkl_i, tkl_l, tkl_r, s_nil, LR, IR, true_and, and_true, Nat.reduceAdd, Nat.reduceSub, eq_self]
      refine ⟨by assumption, fun x55_ h55_ => ?_⟩
      refine ⟨by omega, fun x59_ h59_ => ?_⟩
      refine ⟨vok_of (s := 6) (by assumption) rfl, ?_⟩
      refine sc_n (D := 0) (fun d' hd' => k_X4_setLimb (by assumption) (by omega) (by omega) hd') (by omega) ?_
      intro h60_
      try simp only [s_ald_0, s_gf_5_5, s_iv0, tfr_0, tfr_1, tfr_2, tfr_3, tfr_4, s_bi, s_lc1, s_iv2, s_gf_5_6, s_iv1, s_ic, s_ist7, tkl_n, tkl_i, tkl_l, tkl_r, s_nil, LR, IR, true_and, and_true, Nat.reduceAdd, Nat.reduceSub, eq_self]
      refine ⟨by assumption, fun x62_ h62_ => ?_⟩
      refine ⟨vok_of (s := 6) (by assumption) rfl, ?_⟩
      refine sc_n (D := 0) (fun d' hd' => k_X4_clear (by assumption) hd') (by omega) ?_
      intro h63_
      try simp only [s_ald_0, s_gf_5_5, s_bi, s_lc1, s_iv2, tfr_0, tfr_1, tfr_2, tfr_3, tfr_4, s_gf_5_6, s_iv1, s_ic, s_ist7, tkl_n, tkl_i, tkl_l, tkl_r, s_nil, LR, IR, true_and, and_true, Nat.reduceAdd, Nat.reduceSub, eq_self]
      refine ⟨by assumption, fun x65_ h65_ => ?_⟩
      refine ⟨vok_of (s := 6) (by assumption) rfl, ?_⟩
      refine sc_n (D := 0) (fun d' hd' => k_X4_setLimb (by assumption) (by omega) (by omega) hd') (by omega) ?_
      intro h68_
      try simp only [s_ald_0, s_gf_5_6, s_gf_5_5, s_iv1, tfr_0, tfr_1, tfr_2, tfr_3, tfr_4, s_ic, s_ist7, tkl_n, tkl_i, tkl_l, tkl_r, s_nil, LR, IR, true_and, and_true, Nat.reduceAdd, Nat.reduceSub, eq_self]
      refine ⟨by assumption, fun x70_ h70_ => ?_⟩
      refine ⟨by assumption, fun x72_ h72_ => ?_⟩
      refine ⟨vok_of (s := 6) (by assumption) rfl, ?_⟩
      refine sc_n (D := 0) (fun d' hd' => k_X4_copy (by assumption) (by assumption) hd') (by omega) ?_
      intro h73_
      try simp only [s_ic, s_ist7, tkl_n, tkl_i, tkl_l, tkl_r, s_nil, LR, IR, true_and, and_true, Nat.reduceAdd, Nat.reduceSub, eq_self]
      exact n110 4294967400 _ _ (by omega) (by omega) (by omega)
    refine sB (fun M => tb_X3_sumPowers_25) ?_
    simp only [kb_X3_sumPowers_25, s_ist4, tkl_n, tkl_i, tkl_l, tkl_r, s_ild4, s_if_eq, s_lld_2, s_lneg, s_goto, LR, IR, true_and, and_true, Nat.reduceAdd, Nat.reduceSub, eq_self]
    refine ⟨by omega, fun h78_ => ?_, fun h78_ => ?_⟩
    · refine sB (fun M => tb_X3_sumPowers_37) ?_
      simp only [kb_X3_sumPowers_37, s_lld_2, s_nil, LR, IR, true_and, and_true, Nat.reduceAdd, Nat.reduceSub, eq_self]
      exact n38 _ _ _ _ _ (by omega) (by omega)
    intro x81_ h81_
    exact n38 _ _ _ _ _ (by omega) (by omega)
  refine sB (fun M => tb_X3_sumPowers_0) ?_
  simp only [kb_X3_sumPowers_0, s_ald_1, s_gf_3_0, s_ld2, s_lmul, s_gf_3_1, s_ladd, s_lst_2, tkl_n, tkl_i, tkl_l, tkl_r, s_lld_2, s_lc0, s_lcmp, ne_eq, tlc_r, tlc_eq, tlc_lt, tlc_ge, tlc_gt, tlc_le, s_if_ge, s_ic, s_goto, LR, IR, true_and, and_true, Nat.reduceAdd, Nat.reduceSub, eq_self]
  refine ⟨by assumption, fun x84_ h84_ => ?_⟩
  intro x86_ h86_
  refine ⟨by assumption, fun x88_ h88_ => ?_⟩
  intro x89_ h89_
  refine ⟨by omega, ?_⟩
  refine ⟨fun h94_ => ?_, fun h94_ => ?_⟩
  · refine sB (fun M => tb_X3_sumPowers_24) ?_
    simp only [kb_X3_sumPowers_24, s_ic, s_nil, LR, IR, true_and, and_true, Nat.reduceAdd, Nat.reduceSub, eq_self]
    exact n25 _ _ _ _ _ _ (by omega) (by omega)
  exact n25 _ _ _ _ _ _ (by omega) (by omega)
theorem k_X3_exponential {e : tE} {b : Bool} {d n : Nat} {r : Nat} {x1 : Nat} (h0 : cl r 5) (h1 : cl x1 3) (hd : 2 ≤ d) : sC e b d 1283 [.inr (.inr (.inl r)), .inr (.inr (.inl x1))] n (SQn n (True)) := by
  refine sK (fun M h => tst_X3_exponential h) (fun M0 => ?_)
  have n13 : ∀ (w2_13 : Option tV) (is0_13 : Int) (qs1_13 : Nat), (0 ≤ is0_13 ∧ is0_13 ≤ 1) → cl qs1_13 5 → sT e b M0 d 1283 13 [some (.inr (.inr (.inl r))), some (.inr (.inr (.inl x1))), w2_13] [.inl is0_13, .inr (.inr (.inl qs1_13))] n (SQn n (True)) := by
    intro w2_13 is0_13 qs1_13 y13_0 y13_1
    have n107 : ∀ (w2_107 : Option tV), sT e b M0 d 1283 107 [some (.inr (.inr (.inl r))), some (.inr (.inr (.inl x1))), w2_107] [] n (SQn n (True)) := by
      intro w2_107 
      refine sB (fun M => tb_X3_exponential_107) ?_
      simp only [kb_X3_exponential_107, s_re, LR, IR, true_and, and_true, Nat.reduceAdd, Nat.reduceSub, eq_self]
      exact ⟨rfl, rfl, by first | trivial | omega⟩
    refine sB (fun M => tb_X3_exponential_13) ?_
    simp only [kb_X3_exponential_13, s_iv1, tfr_0, tfr_1, tfr_2, tfr_3, tfr_4, s_ald_1, s_iv0, s_if_eq, s_ald_0, s_gf_5_6, s_bi, s_lc1, s_iv2, s_goto, LR, IR, true_and, and_true, Nat.reduceAdd, Nat.reduceSub, eq_self]
    refine ⟨vok_of (s := 5) (by assumption) rfl, ?_⟩
    refine sc_n (D := 1) (fun d' hd' => k_X3_begin (by assumption) (by omega) hd') (by omega) ?_
    intro h2_
    try simp only [s_ald_1, s_iv0, tfr_0, tfr_1, tfr_2, tfr_3, tfr_4, s_if_eq, s_ald_0, s_gf_5_6, s_bi, s_lc1, s_iv2, s_goto, LR, IR, true_and, and_true, Nat.reduceAdd, Nat.reduceSub, eq_self]
    refine ⟨vok_of (s := 3) (by assumption) rfl, ?_⟩
    refine sc_i (D := 0) (fun d' hd' => k_X1_isZero (by assumption) hd') (by omega) ?_
    intro x4_ h4_
    try simp only [s_if_eq, s_ald_0, s_gf_5_6, s_bi, s_lc1, s_iv2, tfr_0, tfr_1, tfr_2, tfr_3, tfr_4, s_goto, LR, IR, true_and, and_true, Nat.reduceAdd, Nat.reduceSub, eq_self]
    refine ⟨by omega, fun h5_ => ?_, fun h5_ => ?_⟩
    · refine sB (fun M => tb_X3_exponential_36) ?_
      simp only [kb_X3_exponential_36, s_ald_1, s_gf_3_0, s_ld2, s_lcmp, ne_eq, tlc_r, tlc_eq, tlc_lt, tlc_ge, tlc_gt, tlc_le, s_if_lt, s_ald_0, s_gf_5_6, s_bi, s_iv2, tfr_0, tfr_1, tfr_2, tfr_3, tfr_4, s_goto, LR, IR, true_and, and_true, Nat.reduceAdd, Nat.reduceSub, eq_self]
      refine ⟨by assumption, fun x7_ h7_ => ?_⟩
      refine ⟨by omega, ?_⟩
      refine ⟨fun h10_ => ?_, fun h10_ => ?_⟩
      · have n80 : ∀ (fu : Nat) (i2_80 : Int), 8 - i2_80 + 1 ≤ (fu : Int) → (0 ≤ i2_80 ∧ i2_80 ≤ 8) → sT e b M0 d 1283 80 [some (.inr (.inr (.inl r))), some (.inr (.inr (.inl x1))), some (.inl i2_80)] [] n (SQn n (True)) := by
          intro fu
          induction fu with
          | zero =>
            intro i2_80 hm y80_0
            exfalso; omega
          | succ fu ih =>
            intro i2_80 hm y80_0
            have ih80 := ih
            clear ih
            refine sB (fun M => tb_X3_exponential_80) ?_
            simp only [kb_X3_exponential_80, s_ild_2, s_bi, s_ic_ge, s_ald_0, s_gf_5_6, s_iv2, tfr_0, tfr_1, tfr_2, tfr_3, tfr_4, s_inc2, tkl_n, tkl_i, tkl_l, tkl_r, s_goto, LR, IR, true_and, and_true, Nat.reduceAdd, Nat.reduceSub, eq_self]
            refine ⟨by omega, fun h13_ => ?_, fun h13_ => ?_⟩
            · exact n107 _
            refine ⟨by assumption, fun x15_ h15_ => ?_⟩
            refine ⟨by assumption, fun x17_ h17_ => ?_⟩
            refine ⟨by assumption, fun x19_ h19_ => ?_⟩
            refine ⟨vok_of (s := 6) (by assumption) rfl, ?_⟩
            refine sc_n (D := 0) (fun d' hd' => k_X4_toProduct (by assumption) (by assumption) (by assumption) hd') (by omega) ?_
            intro h20_
            try simp only [s_inc2, tkl_n, tkl_i, tkl_l, tkl_r, s_goto, LR, IR, true_and, and_true, Nat.reduceAdd, Nat.reduceSub, eq_self]
            exact ih80 _ (by omega) (by omega)
        refine sB (fun M => tb_X3_exponential_62) ?_
        simp only [kb_X3_exponential_62, s_ald_1, s_gf_3_0, s_ld2, s_lcmp, ne_eq, tlc_r, tlc_eq, tlc_lt, tlc_ge, tlc_gt, tlc_le, s_if_lt, s_ald_0, s_iv1, tfr_0, tfr_1, tfr_2, tfr_3, tfr_4, s_ic, s_ist_2, tkl_n, tkl_i, tkl_l, tkl_r, s_nil, LR, IR, true_and, and_true, Nat.reduceAdd, Nat.reduceSub, eq_self]
        refine ⟨by assumption, fun x24_ h24_ => ?_⟩
        refine ⟨by omega, ?_⟩
        refine ⟨fun h27_ => ?_, fun h27_ => ?_⟩
        · exact n107 _
        refine ⟨vok_of (s := 5) (by assumption) rfl, ?_⟩
        refine sc_n (D := 1) (fun d' hd' => k_X3_sumPowers (by assumption) (by assumption) hd') (by omega) ?_
        intro h30_
        try simp only [s_ic, s_ist_2, tkl_n, tkl_i, tkl_l, tkl_r, s_nil, LR, IR, true_and, and_true, Nat.reduceAdd, Nat.reduceSub, eq_self]
        exact n80 4294967400 _ (by omega) (by omega)
      refine ⟨by assumption, fun x34_ h34_ => ?_⟩
      refine ⟨vok_of (s := 6) (by assumption) rfl, ?_⟩
      refine sc_n (D := 0) (fun d' hd' => k_X4_setLimb (by assumption) (by omega) (by omega) hd') (by omega) ?_
      intro h37_
      try simp only [s_goto, LR, IR, true_and, and_true, Nat.reduceAdd, Nat.reduceSub, eq_self]
      exact n107 _
    refine ⟨by assumption, fun x40_ h40_ => ?_⟩
    refine ⟨vok_of (s := 6) (by assumption) rfl, ?_⟩
    refine sc_n (D := 0) (fun d' hd' => k_X4_setLimb (by assumption) (by omega) (by omega) hd') (by omega) ?_
    intro h43_
    try simp only [s_goto, LR, IR, true_and, and_true, Nat.reduceAdd, Nat.reduceSub, eq_self]
    exact n107 _
  refine sB (fun M => tb_X3_exponential_0) ?_
  simp only [kb_X3_exponential_0, s_ald_0, s_ald_1, s_iv0, tfr_0, tfr_1, tfr_2, tfr_3, tfr_4, s_if_ne, s_ic, s_goto, LR, IR, true_and, and_true, Nat.reduceAdd, Nat.reduceSub, eq_self]
  refine ⟨vok_of (s := 3) (by assumption) rfl, ?_⟩
  refine sc_i (D := 0) (fun d' hd' => k_X1_isZero (by assumption) hd') (by omega) ?_
  intro x47_ h47_
  try simp only [s_if_ne, s_ic, s_goto, LR, IR, true_and, and_true, Nat.reduceAdd, Nat.reduceSub, eq_self]
  refine ⟨by omega, fun h48_ => ?_, fun h48_ => ?_⟩
  · refine sB (fun M => tb_X3_exponential_12) ?_
    simp only [kb_X3_exponential_12, s_ic, s_nil, LR, IR, true_and, and_true, Nat.reduceAdd, Nat.reduceSub, eq_self]
    exact n13 _ _ _ (by omega) (by assumption)
  exact n13 _ _ _ (by omega) (by assumption)
theorem k_J9_abs_0f7a4 {e : tE} {b : Bool} {d n : Nat} {x1 : Int} (h0 : (-87 ≤ x1 ∧ x1 ≤ 40)) (hd : 0 ≤ d) : sC e b d 4352 [.inl x1] n (SQi n (fun z => (0 ≤ z ∧ z ≤ 87))) := by
  refine sK (fun M h => tst_J9_abs_0f7a4 h) (fun M0 => ?_)
  have n10 : ∀ (is0_10 : Int), (-87 ≤ x1 ∧ x1 ≤ 40) → (0 ≤ is0_10 ∧ is0_10 ≤ 87) → sT e b M0 d 4352 10 [some (.inl x1)] [.inl is0_10] n (SQi n (fun z => (0 ≤ z ∧ z ≤ 87))) := by
    intro is0_10 y10_0 y10_1
    refine sB (fun M => tb_J9_abs_0f7a4_10) ?_
    simp only [kb_J9_abs_0f7a4_10, s_ire, trg, LR, IR, true_and, and_true, Nat.reduceAdd, Nat.reduceSub, eq_self]
    exact ⟨_, rfl, rfl, by omega⟩
  refine sB (fun M => tb_J9_abs_0f7a4_0) ?_
  simp only [kb_J9_abs_0f7a4_0, s_ild_0, s_if_ge, s_ineg, s_goto, LR, IR, true_and, and_true, Nat.reduceAdd, Nat.reduceSub, eq_self]
  refine ⟨by omega, fun h3_ => ?_, fun h3_ => ?_⟩
  · refine sB (fun M => tb_J9_abs_0f7a4_9) ?_
    simp only [kb_J9_abs_0f7a4_9, s_ild_0, s_nil, LR, IR, true_and, and_true, Nat.reduceAdd, Nat.reduceSub, eq_self]
    exact n10 _ (by omega) (by omega)
  exact n10 _ (by omega) (by omega)
theorem k_X3_logarithm {e : tE} {b : Bool} {d n : Nat} {r : Nat} {x1 : Nat} (h0 : cl r 5) (h1 : cl x1 3) (hd : 2 ≤ d) : sC e b d 1284 [.inr (.inr (.inl r)), .inr (.inr (.inl x1))] n (SQn n (True)) := by
  refine sK (fun M h => tst_X3_logarithm h) (fun M0 => ?_)
  have n23 : ∀ (w2_23 : Option tV) (w3_23 : Option tV) (w4_23 : Option tV) (w5_23 : Option tV) (is0_23 : Int), (0 ≤ is0_23 ∧ is0_23 ≤ 1) → sT e b M0 d 1284 23 [some (.inr (.inr (.inl r))), some (.inr (.inr (.inl x1))), w2_23, w3_23, w4_23, w5_23] [.inl is0_23] n (SQn n (True)) := by
    intro w2_23 w3_23 w4_23 w5_23 is0_23 y23_0
    have n34 : ∀ (i2_34 : Int) (w3_34 : Option tV) (w4_34 : Option tV) (w5_34 : Option tV) (is0_34 : Int) (qs1_34 : Nat), (0 ≤ i2_34 ∧ i2_34 ≤ 1) → (0 ≤ is0_34 ∧ is0_34 ≤ 1) → cl qs1_34 5 → sT e b M0 d 1284 34 [some (.inr (.inr (.inl r))), some (.inr (.inr (.inl x1))), some (.inl i2_34), w3_34, w4_34, w5_34] [.inl is0_34, .inr (.inr (.inl qs1_34))] n (SQn n (True)) := by
      intro i2_34 w3_34 w4_34 w5_34 is0_34 qs1_34 y34_0 y34_1 y34_2
      refine sB (fun M => tb_X3_logarithm_34) ?_
      simp only [kb_X3_logarithm_34, s_iv1, tfr_0, tfr_1, tfr_2, tfr_3, tfr_4, s_ild_2, s_if_eq, s_re, LR, IR, true_and, and_true, Nat.reduceAdd, Nat.reduceSub, eq_self]
      refine ⟨vok_of (s := 5) (by assumption) rfl, ?_⟩
      refine sc_n (D := 1) (fun d' hd' => k_X3_begin (by assumption) (by omega) hd') (by omega) ?_
      intro h1_
      try simp only [s_ild_2, s_if_eq, s_re, LR, IR, true_and, and_true, Nat.reduceAdd, Nat.reduceSub, eq_self]
      refine ⟨by omega, fun h3_ => ?_, fun h3_ => ?_⟩
      · have n52 : ∀ (fu : Nat) (i3_52 : Int) (w4_52 : Option tV) (w5_52 : Option tV), 127 - i3_52 + 1 ≤ (fu : Int) → (0 ≤ i2_34 ∧ i2_34 ≤ 0) → (0 ≤ i3_52 ∧ i3_52 ≤ 127) → sT e b M0 d 1284 52 [some (.inr (.inr (.inl r))), some (.inr (.inr (.inl x1))), some (.inl i2_34), some (.inl i3_52), w4_52, w5_52] [] n (SQn n (True)) := by
          intro fu
          induction fu with
          | zero =>
            intro i3_52 w4_52 w5_52 hm y52_0 y52_1
            exfalso; omega
          | succ fu ih =>
            intro i3_52 w4_52 w5_52 hm y52_0 y52_1
            have ih52 := ih
            clear ih
            have n93 : ∀ (i3_93 : Int) (w4_93 : Option tV) (w5_93 : Option tV), (0 ≤ i3_93 ∧ i3_93 ≤ 127) → sT e b M0 d 1284 93 [some (.inr (.inr (.inl r))), some (.inr (.inr (.inl x1))), some (.inl i2_34), some (.inl i3_93), w4_93, w5_93] [] n (SQn n (True)) := by
              intro i3_93 w4_93 w5_93 y93_0
              have n164 : ∀ (i4_164 : Int) (i5_164 : Int) (qs0_164 : Nat) (qs1_164 : Nat), (-67108872 ≤ i4_164 ∧ i4_164 ≤ 67108855) → (0 ≤ i5_164 ∧ i5_164 ≤ 1) → cl qs0_164 3 → cl qs1_164 3 → sT e b M0 d 1284 164 [some (.inr (.inr (.inl r))), some (.inr (.inr (.inl x1))), some (.inl i2_34), some (.inl i3_93), some (.inl i4_164), some (.inl i5_164)] [.inr (.inr (.inl qs0_164)), .inr (.inr (.inl qs1_164))] n (SQn n (True)) := by
                intro i4_164 i5_164 qs0_164 qs1_164 y164_0 y164_1 y164_2 y164_3
                have n180 : ∀ (qs0_180 : Nat) (qs1_180 : Nat) (qs2_180 : Nat), cl qs0_180 3 → cl qs1_180 3 → cl qs2_180 3 → sT e b M0 d 1284 180 [some (.inr (.inr (.inl r))), some (.inr (.inr (.inl x1))), some (.inl i2_34), some (.inl i3_93), some (.inl i4_164), some (.inl i5_164)] [.inr (.inr (.inl qs0_180)), .inr (.inr (.inl qs1_180)), .inr (.inr (.inl qs2_180))] n (SQn n (True)) := by
                  intro qs0_180 qs1_180 qs2_180 y180_0 y180_1 y180_2
                  have n270 : ∀ (qs0_270 : Nat), cl qs0_270 6 → sT e b M0 d 1284 270 [some (.inr (.inr (.inl r))), some (.inr (.inr (.inl x1))), some (.inl i2_34), some (.inl i3_93), some (.inl i4_164), some (.inl i5_164)] [.inr (.inr (.inl qs0_270))] n (SQn n (True)) := by
                    intro qs0_270 y270_0
                    have n293 : ∀ (qs0_293 : Nat), cl qs0_293 6 → sT e b M0 d 1284 293 [some (.inr (.inr (.inl r))), some (.inr (.inr (.inl x1))), some (.inl i2_34), some (.inl i3_93), some (.inl i4_164), some (.inl i5_164)] [.inr (.inr (.inl qs0_293))] n (SQn n (True)) := by
                      intro qs0_293 y293_0
                      refine sB (fun M => tb_X3_logarithm_293) ?_
                      simp only [kb_X3_logarithm_293, s_ald_0, s_gf_5_6, s_iv1, tfr_0, tfr_1, tfr_2, tfr_3, tfr_4, s_iv0, s_re, LR, IR, true_and, and_true, Nat.reduceAdd, Nat.reduceSub, eq_self]
                      refine ⟨by assumption, fun x5_ h5_ => ?_⟩
                      refine ⟨vok_of (s := 6) (by assumption) rfl, ?_⟩
                      refine sc_n (D := 0) (fun d' hd' => k_X4_plus (by assumption) (by assumption) hd') (by omega) ?_
                      intro h6_
                      try simp only [s_ald_0, s_iv0, tfr_0, tfr_1, tfr_2, tfr_3, tfr_4, s_re, LR, IR, true_and, and_true, Nat.reduceAdd, Nat.reduceSub, eq_self]
                      refine ⟨vok_of (s := 5) (by assumption) rfl, ?_⟩
                      refine sc_n (D := 1) (fun d' hd' => k_X3_settle (by assumption) hd') (by omega) ?_
                      intro h8_
                      try simp only [s_re, LR, IR, true_and, and_true, Nat.reduceAdd, Nat.reduceSub, eq_self]
                      exact ⟨rfl, rfl, by first | trivial | omega⟩
                    refine sB (fun M => tb_X3_logarithm_270) ?_
                    simp only [kb_X3_logarithm_270, s_ald_0, s_gf_5_5, s_iv1, tfr_0, tfr_1, tfr_2, tfr_3, tfr_4, s_ild5, s_if_eq, s_gf_5_8, s_goto, LR, IR, true_and, and_true, Nat.reduceAdd, Nat.reduceSub, eq_self]
                    refine ⟨by assumption, fun x11_ h11_ => ?_⟩
                    refine ⟨vok_of (s := 6) (by assumption) rfl, ?_⟩
                    refine sc_n (D := 0) (fun d' hd' => k_X4_plus (by assumption) (by assumption) hd') (by omega) ?_
                    intro h12_
                    try simp only [s_ild5, s_if_eq, s_ald_0, s_gf_5_8, s_goto, LR, IR, true_and, and_true, Nat.reduceAdd, Nat.reduceSub, eq_self]
                    refine ⟨by omega, fun h14_ => ?_, fun h14_ => ?_⟩
                    · refine sB (fun M => tb_X3_logarithm_289) ?_
                      simp only [kb_X3_logarithm_289, s_ald_0, s_gf_5_7, s_nil, LR, IR, true_and, and_true, Nat.reduceAdd, Nat.reduceSub, eq_self]
                      refine ⟨by assumption, fun x16_ h16_ => ?_⟩
                      exact n293 _ (by assumption)
                    refine ⟨by assumption, fun x18_ h18_ => ?_⟩
                    exact n293 _ (by assumption)
                  refine sB (fun M => tb_X3_logarithm_180) ?_
                  simp only [kb_X3_logarithm_180, s_iv2, tfr_0, tfr_1, tfr_2, tfr_3, tfr_4, s_ald_0, s_gf_5_10, s_gf_5_11, s_gf_5_12, s_ic, s_iv1, s_gf_5_6, s_gf_5_7, s_gs, s_ild4, s_iv3, s_gf_5_8, s_iv0, s_gf_5_5, s_bi, s_ild_3, s_isub, s_is1, s_ic_le, s_goto, LR, IR, true_and, and_true, Nat.reduceAdd, Nat.reduceSub, eq_self]
                  refine ⟨vok_of (s := 3) (by assumption) rfl, ?_⟩
                  refine sc_n (D := 0) (fun d' hd' => k_X1_toDifference (by assumption) (by assumption) (by assumption) hd') (by omega) ?_
                  intro h20_
                  try simp only [s_ald_0, s_gf_5_10, s_gf_5_11, s_gf_5_12, s_iv2, tfr_0, tfr_1, tfr_2, tfr_3, tfr_4, s_ic, s_iv1, s_gf_5_6, s_gf_5_7, s_gs, s_ild4, s_iv3, s_gf_5_8, s_iv0, s_gf_5_5, s_bi, s_ild_3, s_isub, s_is1, s_ic_le, s_goto, LR, IR, true_and, and_true, Nat.reduceAdd, Nat.reduceSub, eq_self]
                  refine ⟨by assumption, fun x22_ h22_ => ?_⟩
                  refine ⟨by assumption, fun x24_ h24_ => ?_⟩
                  refine ⟨by assumption, fun x26_ h26_ => ?_⟩
                  refine ⟨vok_of (s := 3) (by assumption) rfl, ?_⟩
                  refine sc_n (D := 0) (fun d' hd' => k_X1_toSum (by assumption) (by assumption) (by assumption) hd') (by omega) ?_
                  intro h27_
                  try simp only [s_ald_0, s_ic, s_iv1, tfr_0, tfr_1, tfr_2, tfr_3, tfr_4, s_gf_5_6, s_gf_5_7, s_gs, s_ild4, s_iv3, s_gf_5_8, s_iv0, s_gf_5_5, s_bi, s_ild_3, s_isub, s_is1, s_ic_le, s_goto, LR, IR, true_and, and_true, Nat.reduceAdd, Nat.reduceSub, eq_self]
                  refine ⟨vok_of (s := 5) (by assumption) rfl, ?_⟩
                  refine sc_n (D := 1) (fun d' hd' => k_X3_sumOddPowers (by assumption) (by omega) hd') (by omega) ?_
                  intro h30_
                  try simp only [s_ald_0, s_gf_5_6, s_iv1, tfr_0, tfr_1, tfr_2, tfr_3, tfr_4, s_gf_5_7, s_gs, s_ild4, s_ic, s_iv3, s_gf_5_8, s_iv0, s_gf_5_5, s_bi, s_ild_3, s_isub, s_is1, s_ic_le, s_goto, LR, IR, true_and, and_true, Nat.reduceAdd, Nat.reduceSub, eq_self]
                  refine ⟨by assumption, fun x32_ h32_ => ?_⟩
                  refine ⟨by assumption, fun x34_ h34_ => ?_⟩
                  refine ⟨vok_of (s := 6) (by assumption) rfl, ?_⟩
                  refine sc_n (D := 0) (fun d' hd' => k_X4_plus (by assumption) (by assumption) hd') (by omega) ?_
                  intro h35_
                  try simp only [s_ald_0, s_gf_5_7, s_gs, s_ild4, s_ic, s_iv3, tfr_0, tfr_1, tfr_2, tfr_3, tfr_4, s_gf_5_8, s_iv0, s_gf_5_5, s_bi, s_ild_3, s_isub, s_is1, s_ic_le, s_goto, LR, IR, true_and, and_true, Nat.reduceAdd, Nat.reduceSub, eq_self]
                  refine ⟨by assumption, fun x37_ h37_ => ?_⟩
                  refine ⟨vok_of (s := 6) (by assumption) rfl, ?_⟩
                  refine sc_n (D := 1) (fun d' hd' => k_X4_load (by assumption) (by first | assumption | exact Or.inl rfl | exact Or.inr rfl) (by omega) (by omega) hd') (by omega) ?_
                  intro h41_
                  try simp only [s_ald_0, s_gf_5_8, s_iv0, tfr_0, tfr_1, tfr_2, tfr_3, tfr_4, s_gf_5_5, s_gs, s_bi, s_ild_3, s_isub, s_is1, s_iv3, s_ic_le, s_goto, LR, IR, true_and, and_true, Nat.reduceAdd, Nat.reduceSub, eq_self]
                  refine ⟨by assumption, fun x43_ h43_ => ?_⟩
                  refine ⟨vok_of (s := 6) (by assumption) rfl, ?_⟩
                  refine sc_n (D := 0) (fun d' hd' => k_X4_clear (by assumption) hd') (by omega) ?_
                  intro h44_
                  try simp only [s_ald_0, s_gf_5_5, s_gs, s_bi, s_ild_3, s_isub, s_is1, tfr_0, tfr_1, tfr_2, tfr_3, tfr_4, s_iv3, s_ic_le, s_gf_5_8, s_goto, LR, IR, true_and, and_true, Nat.reduceAdd, Nat.reduceSub, eq_self]
                  refine ⟨by assumption, fun x46_ h46_ => ?_⟩
                  refine sc_i (D := 0) (fun d' hd' => k_J9_abs_0f7a4 (by omega) hd') (by omega) ?_
                  intro x52_ h52_
                  try simp only [s_iv3, tfr_0, tfr_1, tfr_2, tfr_3, tfr_4, s_ild_3, s_bi, s_ic_le, s_ald_0, s_gf_5_8, s_goto, LR, IR, true_and, and_true, Nat.reduceAdd, Nat.reduceSub, eq_self]
                  refine ⟨vok_of (s := 6) (by assumption) rfl, ?_⟩
                  refine sc_n (D := 1) (fun d' hd' => k_X4_load (by assumption) (by first | assumption | exact Or.inl rfl | exact Or.inr rfl) (by omega) (by omega) hd') (by omega) ?_
                  intro h53_
                  try simp only [s_ild_3, s_bi, s_ic_le, s_ald_0, s_gf_5_8, s_goto, LR, IR, true_and, and_true, Nat.reduceAdd, Nat.reduceSub, eq_self]
                  refine ⟨by omega, fun h56_ => ?_, fun h56_ => ?_⟩
                  · refine sB (fun M => tb_X3_logarithm_266) ?_
                    simp only [kb_X3_logarithm_266, s_ald_0, s_gf_5_7, s_nil, LR, IR, true_and, and_true, Nat.reduceAdd, Nat.reduceSub, eq_self]
                    refine ⟨by assumption, fun x58_ h58_ => ?_⟩
                    exact n270 _ (by assumption)
                  refine ⟨by assumption, fun x60_ h60_ => ?_⟩
                  exact n270 _ (by assumption)
                refine sB (fun M => tb_X3_logarithm_164) ?_
                simp only [kb_X3_logarithm_164, s_ild5, s_if_eq, s_ald_0, s_gf_5_11, s_goto, LR, IR, true_and, and_true, Nat.reduceAdd, Nat.reduceSub, eq_self]
                refine ⟨by omega, fun h63_ => ?_, fun h63_ => ?_⟩
                · refine sB (fun M => tb_X3_logarithm_176) ?_
                  simp only [kb_X3_logarithm_176, s_ald_0, s_gf_5_12, s_nil, LR, IR, true_and, and_true, Nat.reduceAdd, Nat.reduceSub, eq_self]
                  refine ⟨by assumption, fun x65_ h65_ => ?_⟩
                  exact n180 _ _ _ (by assumption) (by assumption) (by assumption)
                refine ⟨by assumption, fun x67_ h67_ => ?_⟩
                exact n180 _ _ _ (by assumption) (by assumption) (by assumption)
              refine sB (fun M => tb_X3_logarithm_93) ?_
              simp only [kb_X3_logarithm_93, s_ald_0, s_gf_5_11, s_gf_3_0, s_bi, s_lshr, s_l2i, s_isub, s_ist4, tkl_n, tkl_i, tkl_l, tkl_r, s_gf_5_12, s_ld2, s_ild4, s_i2l, s_lmul, s_ladd, s_lshl, or_true, s_lc0, s_iv2, tfr_0, tfr_1, tfr_2, tfr_3, tfr_4, s_iv1, s_ist5, s_gf_5_9, s_ild5, s_if_eq, s_goto, LR, IR, true_and, and_true, Nat.reduceAdd, Nat.reduceSub, eq_self]
              refine ⟨by assumption, fun x70_ h70_ => ?_⟩
              refine ⟨by assumption, fun x71_ h71_ => ?_⟩
              refine ⟨by omega, fun x73_ h73_ => ?_⟩
              intro x74_ h74_ g74_
              refine ⟨by assumption, fun x79_ h79_ => ?_⟩
              refine ⟨by omega, ?_⟩
              intro x83_ h83_
              intro x85_ h85_
              intro x87_ h87_
              refine ⟨vok_of (s := 3) (by assumption) rfl, ?_⟩
              refine sc_n (D := 0) (fun d' hd' => k_X1_assign (by assumption) (by omega) (by omega) hd') (by omega) ?_
              intro h89_
              try simp only [s_ald_0, s_gf_5_11, s_gf_5_12, s_iv1, tfr_0, tfr_1, tfr_2, tfr_3, tfr_4, s_ist5, tkl_n, tkl_i, tkl_l, tkl_r, s_gf_5_9, s_ild5, s_if_eq, s_goto, LR, IR, true_and, and_true, Nat.reduceAdd, Nat.reduceSub, eq_self]
              refine ⟨by assumption, fun x91_ h91_ => ?_⟩
              refine ⟨by assumption, fun x93_ h93_ => ?_⟩
              refine ⟨vok_of (s := 3) (by assumption) rfl, ?_⟩
              refine sc_i (D := 0) (fun d' hd' => k_X1_isBelow (by assumption) (by assumption) hd') (by omega) ?_
              intro x94_ h94_
              try simp only [s_ist5, tkl_n, tkl_i, tkl_l, tkl_r, s_ald_0, s_gf_5_9, s_ild5, s_if_eq, s_gf_5_12, s_goto, LR, IR, true_and, and_true, Nat.reduceAdd, Nat.reduceSub, eq_self]
              refine ⟨by assumption, fun x97_ h97_ => ?_⟩
              refine ⟨by omega, fun h99_ => ?_, fun h99_ => ?_⟩
              · refine sB (fun M => tb_X3_logarithm_160) ?_
                simp only [kb_X3_logarithm_160, s_ald_0, s_gf_5_11, s_nil, LR, IR, true_and, and_true, Nat.reduceAdd, Nat.reduceSub, eq_self]
                refine ⟨by assumption, fun x101_ h101_ => ?_⟩
                exact n164 _ _ _ _ (by omega) (by omega) (by assumption) (by assumption)
              refine ⟨by assumption, fun x103_ h103_ => ?_⟩
              exact n164 _ _ _ _ (by omega) (by omega) (by assumption) (by assumption)
            refine sB (fun M => tb_X3_logarithm_52) ?_
            simp only [kb_X3_logarithm_52, s_ild_3, s_bi, s_ic_ge, s_ald_0, s_gf_5_11, s_gf_3_0, s_ld2, s_lcmp, ne_eq, tlc_r, tlc_eq, tlc_lt, tlc_ge, tlc_gt, tlc_le, s_if_ge, s_iv2, tfr_0, tfr_1, tfr_2, tfr_3, tfr_4, s_inc3, tkl_n, tkl_i, tkl_l, tkl_r, s_goto, LR, IR, true_and, and_true, Nat.reduceAdd, Nat.reduceSub, eq_self]
            refine ⟨by omega, fun h107_ => ?_, fun h107_ => ?_⟩
            · exact n93 _ _ _ (by omega)
            refine ⟨by assumption, fun x109_ h109_ => ?_⟩
            refine ⟨by assumption, fun x110_ h110_ => ?_⟩
            refine ⟨by omega, ?_⟩
            refine ⟨fun h113_ => ?_, fun h113_ => ?_⟩
            · exact n93 _ _ _ (by omega)
            refine ⟨by assumption, fun x115_ h115_ => ?_⟩
            refine ⟨by assumption, fun x117_ h117_ => ?_⟩
            refine ⟨by assumption, fun x119_ h119_ => ?_⟩
            refine ⟨vok_of (s := 3) (by assumption) rfl, ?_⟩
            refine sc_n (D := 0) (fun d' hd' => k_X1_toSum (by assumption) (by assumption) (by assumption) hd') (by omega) ?_
            intro h120_
            try simp only [s_inc3, tkl_n, tkl_i, tkl_l, tkl_r, s_goto, LR, IR, true_and, and_true, Nat.reduceAdd, Nat.reduceSub, eq_self]
            exact ih52 _ _ _ (by omega) (by omega) (by omega)
        refine sB (fun M => tb_X3_logarithm_42) ?_
        simp only [kb_X3_logarithm_42, s_ald_0, s_gf_5_11, s_ald_1, s_iv1, tfr_0, tfr_1, tfr_2, tfr_3, tfr_4, s_ic, s_ist_3, tkl_n, tkl_i, tkl_l, tkl_r, s_nil, LR, IR, true_and, and_true, Nat.reduceAdd, Nat.reduceSub, eq_self]
        refine ⟨by assumption, fun x124_ h124_ => ?_⟩
        refine ⟨vok_of (s := 3) (by assumption) rfl, ?_⟩
        refine sc_n (D := 0) (fun d' hd' => k_X1_copy (by assumption) (by assumption) hd') (by omega) ?_
        intro h126_
        try simp only [s_ic, s_ist_3, tkl_n, tkl_i, tkl_l, tkl_r, s_nil, LR, IR, true_and, and_true, Nat.reduceAdd, Nat.reduceSub, eq_self]
        exact n52 4294967400 _ _ _ (by omega) (by omega) (by omega)
      exact ⟨rfl, rfl, by first | trivial | omega⟩
    refine sB (fun M => tb_X3_logarithm_23) ?_
    simp only [kb_X3_logarithm_23, s_ist_2, tkl_n, tkl_i, tkl_l, tkl_r, s_ald_0, s_ild_2, s_if_ne, s_ic, s_goto, LR, IR, true_and, and_true, Nat.reduceAdd, Nat.reduceSub, eq_self]
    refine ⟨by omega, fun h133_ => ?_, fun h133_ => ?_⟩
    · refine sB (fun M => tb_X3_logarithm_33) ?_
      simp only [kb_X3_logarithm_33, s_ic, s_nil, LR, IR, true_and, and_true, Nat.reduceAdd, Nat.reduceSub, eq_self]
      exact n34 _ _ _ _ _ _ (by omega) (by omega) (by assumption)
    exact n34 _ _ _ _ _ _ (by omega) (by omega) (by assumption)
  have n22 : ∀ (w2_22 : Option tV) (w3_22 : Option tV) (w4_22 : Option tV) (w5_22 : Option tV), sT e b M0 d 1284 22 [some (.inr (.inr (.inl r))), some (.inr (.inr (.inl x1))), w2_22, w3_22, w4_22, w5_22] [] n (SQn n (True)) := by
    intro w2_22 w3_22 w4_22 w5_22 
    refine sB (fun M => tb_X3_logarithm_22) ?_
    simp only [kb_X3_logarithm_22, s_ic, s_nil, LR, IR, true_and, and_true, Nat.reduceAdd, Nat.reduceSub, eq_self]
    exact n23 _ _ _ _ _ (by omega)
  refine sB (fun M => tb_X3_logarithm_0) ?_
  simp only [kb_X3_logarithm_0, s_ald_1, s_gf_3_0, s_lc1, s_lcmp, ne_eq, tlc_r, tlc_eq, tlc_lt, tlc_ge, tlc_gt, tlc_le, s_if_ne, s_gf_3_1, s_lc0, s_ic, s_goto, LR, IR, true_and, and_true, Nat.reduceAdd, Nat.reduceSub, eq_self]
  refine ⟨by assumption, fun x139_ h139_ => ?_⟩
  refine ⟨by omega, ?_⟩
  refine ⟨fun h142_ => ?_, fun h142_ => ?_⟩
  · exact n22 _ _ _ _
  refine ⟨by assumption, fun x144_ h144_ => ?_⟩
  refine ⟨by omega, ?_⟩
  refine ⟨fun h147_ => ?_, fun h147_ => ?_⟩
  · exact n22 _ _ _ _
  exact n23 _ _ _ _ _ (by omega)
theorem k_X4_limbAt {e : tE} {b : Bool} {d n : Nat} {r : Nat} {x1 : Int} (h0 : cl r 6) (h1 : (-2147483648 ≤ x1 ∧ x1 ≤ 2147483647)) (hd : 0 ≤ d) : sC e b d 1541 [.inr (.inr (.inl r)), .inl x1] n (SQl n (fun z => (-9223372036854775808 ≤ z ∧ z < 9223372036854775808))) := by
  refine sK (fun M h => tst_X4_limbAt h) (fun M0 => ?_)
  have n20 : ∀ (ls0_20 : Int), (-9223372036854775808 ≤ ls0_20 ∧ ls0_20 < 9223372036854775808) → sT e b M0 d 1541 20 [some (.inr (.inr (.inl r))), some (.inl x1)] [.inr (.inl ls0_20)] n (SQl n (fun z => (-9223372036854775808 ≤ z ∧ z < 9223372036854775808))) := by
    intro ls0_20 y20_0
    refine sB (fun M => tb_X4_limbAt_20) ?_
    simp only [kb_X4_limbAt_20, s_lre, LR, IR, true_and, and_true, Nat.reduceAdd, Nat.reduceSub, eq_self]
    exact ⟨_, rfl, rfl, by omega⟩
  have n10 : sT e b M0 d 1541 10 [some (.inr (.inr (.inl r))), some (.inl x1)] [] n (SQl n (fun z => (-9223372036854775808 ≤ z ∧ z < 9223372036854775808))) := by
    refine sB (fun M => tb_X4_limbAt_10) ?_
    simp only [kb_X4_limbAt_10, s_lc0, s_goto, LR, IR, true_and, and_true, Nat.reduceAdd, Nat.reduceSub, eq_self]
    exact n20 _ (by omega)
  refine sB (fun M => tb_X4_limbAt_0) ?_
  simp only [kb_X4_limbAt_0, s_ild_1, s_if_lt, s_bi, s_ic_lt, s_nil, LR, IR, true_and, and_true, Nat.reduceAdd, Nat.reduceSub, eq_self]
  refine ⟨by omega, fun h5_ => ?_, fun h5_ => ?_⟩
  · exact n10
  refine ⟨by omega, fun h8_ => ?_, fun h8_ => ?_⟩
  · refine sB (fun M => tb_X4_limbAt_14) ?_
    simp only [kb_X4_limbAt_14, s_ald_0, s_gf_6_0, s_ild_1, s_la, s_lax, forall_const, s_nil, LR, IR, true_and, and_true, Nat.reduceAdd, Nat.reduceSub, eq_self]
    refine ⟨by assumption, fun x10_ h10_ => ?_⟩
    refine ⟨aok_23 (by assumption) (by omega), fun x12_ g12_ h12_ => ?_⟩
    exact n20 _ (by omega)
  exact n10
theorem k_X8_assign {e : tE} {b : Bool} {d n : Nat} {r : Nat} {x1 : Int} {x2 : Int} {x3 : Int} (h0 : cl r 10) (h1 : (-9223372036854775808 ≤ x1 ∧ x1 < 9223372036854775808)) (h2 : (-9223372036854775808 ≤ x2 ∧ x2 < 9223372036854775808)) (h3 : (0 ≤ x3 ∧ x3 ≤ 1)) (hd : 0 ≤ d) : sC e b d 2562 [.inr (.inr (.inl r)), .inr (.inl x1), .inr (.inl x2), .inl x3] n (SQn n (True)) := by
  refine sK (fun M h => tst_X8_assign h) (fun M0 => ?_)
  refine sB (fun M => tb_X8_assign_0) ?_
  simp only [kb_X8_assign_0, s_ald_0, s_gf_10_0, s_lld_1, s_pf_3_0, s_lld_3, s_pf_3_1, s_ild5, s_pf_10_1, s_re, LR, IR, true_and, and_true, Nat.reduceAdd, Nat.reduceSub, eq_self]
  refine ⟨by assumption, fun x2_ h2_ => ?_⟩
  refine ⟨by assumption, ?_⟩
  refine ⟨by assumption, fun x6_ h6_ => ?_⟩
  refine ⟨by assumption, ?_⟩
  refine ⟨by assumption, by omega, ?_⟩
  exact ⟨rfl, rfl, by first | trivial | omega⟩
theorem k_X1_shift {e : tE} {b : Bool} {d n : Nat} {r : Nat} {x1 : Int} (h0 : cl r 3) (h1 : (-9223372036854775808 ≤ x1 ∧ x1 < 9223372036854775808)) (hd : 0 ≤ d) : sC e b d 780 [.inr (.inr (.inl r)), .inr (.inl x1)] n (SQn n (True)) := by
  refine sK (fun M h => tst_X1_shift h) (fun M0 => ?_)
  have n77 : sT e b M0 d 780 77 [some (.inr (.inr (.inl r))), some (.inr (.inl x1)), none] [] n (SQn n (True)) := by
    refine sB (fun M => tb_X1_shift_77) ?_
    simp only [kb_X1_shift_77, s_re, LR, IR, true_and, and_true, Nat.reduceAdd, Nat.reduceSub, eq_self]
    exact ⟨rfl, rfl, by first | trivial | omega⟩
  refine sB (fun M => tb_X1_shift_0) ?_
  simp only [kb_X1_shift_0, s_ald_0, s_dupi, s_dupr, s_gf_3_1, s_lld_1, s_ladd, s_pf_3_1, s_lc0, s_lcmp, ne_eq, tlc_r, tlc_eq, tlc_lt, tlc_ge, tlc_gt, tlc_le, s_if_ge, s_ld2, s_gf_3_0, s_lc1, s_lsub, s_pf_3_0, s_goto, LR, IR, true_and, and_true, Nat.reduceAdd, Nat.reduceSub, eq_self]
  refine ⟨by assumption, fun x4_ h4_ => ?_⟩
  intro x6_ h6_
  refine ⟨by assumption, ?_⟩
  refine ⟨by assumption, fun x9_ h9_ => ?_⟩
  refine ⟨by omega, ?_⟩
  refine ⟨fun h12_ => ?_, fun h12_ => ?_⟩
  · refine sB (fun M => tb_X1_shift_44) ?_
    simp only [kb_X1_shift_44, s_ald_0, s_gf_3_1, s_ld2, s_lcmp, ne_eq, tlc_r, tlc_eq, tlc_lt, tlc_ge, tlc_gt, tlc_le, s_if_lt, s_dupi, s_dupr, s_lsub, s_pf_3_1, s_gf_3_0, s_lc1, s_ladd, s_pf_3_0, s_nil, LR, IR, true_and, and_true, Nat.reduceAdd, Nat.reduceSub, eq_self]
    refine ⟨by assumption, fun x14_ h14_ => ?_⟩
    refine ⟨by omega, ?_⟩
    refine ⟨fun h17_ => ?_, fun h17_ => ?_⟩
    · exact n77
    refine ⟨by assumption, fun x20_ h20_ => ?_⟩
    intro x22_ h22_
    refine ⟨by assumption, ?_⟩
    refine ⟨by assumption, fun x26_ h26_ => ?_⟩
    intro x28_ h28_
    refine ⟨by assumption, ?_⟩
    exact n77
  refine ⟨by assumption, fun x32_ h32_ => ?_⟩
  intro x34_ h34_
  refine ⟨by assumption, ?_⟩
  refine ⟨by assumption, fun x38_ h38_ => ?_⟩
  intro x40_ h40_
  refine ⟨by assumption, ?_⟩
  exact n77
theorem k_X8_turn {e : tE} {b : Bool} {d n : Nat} {r : Nat} (h0 : cl r 10) (hd : 1 ≤ d) : sC e b d 2579 [.inr (.inr (.inl r))] n (SQn n (True)) := by
  refine sK (fun M h => tst_X8_turn h) (fun M0 => ?_)
  have n24 : sT e b M0 d 2579 24 [some (.inr (.inr (.inl r)))] [] n (SQn n (True)) := by
    refine sB (fun M => tb_X8_turn_24) ?_
    simp only [kb_X8_turn_24, s_re, LR, IR, true_and, and_true, Nat.reduceAdd, Nat.reduceSub, eq_self]
    exact ⟨rfl, rfl, by first | trivial | omega⟩
  refine sB (fun M => tb_X8_turn_0) ?_
  simp only [kb_X8_turn_0, s_ald_0, s_gf_10_0, s_iv0, tfr_0, tfr_1, tfr_2, tfr_3, tfr_4, s_gf_10_1, s_if_eq, s_ld2, s_iv1, s_nil, LR, IR, true_and, and_true, Nat.reduceAdd, Nat.reduceSub, eq_self]
  refine ⟨by assumption, fun x3_ h3_ => ?_⟩
  refine ⟨vok_of (s := 3) (by assumption) rfl, ?_⟩
  refine sc_n (D := 0) (fun d' hd' => k_X1_turn (by assumption) hd') (by omega) ?_
  intro h4_
  try simp only [s_ald_0, s_gf_10_1, s_if_eq, s_gf_10_0, s_ld2, s_iv1, tfr_0, tfr_1, tfr_2, tfr_3, tfr_4, s_nil, LR, IR, true_and, and_true, Nat.reduceAdd, Nat.reduceSub, eq_self]
  refine ⟨by assumption, fun x6_ h6_ g6_ => ?_⟩
  refine ⟨by omega, fun h7_ => ?_, fun h7_ => ?_⟩
  · exact n24
  refine ⟨by assumption, fun x9_ h9_ => ?_⟩
  refine ⟨vok_of (s := 3) (by assumption) rfl, ?_⟩
  refine sc_n (D := 0) (fun d' hd' => k_X1_shift (by assumption) (by omega) hd') (by omega) ?_
  intro h11_
  try simp only [s_nil, LR, IR, true_and, and_true, Nat.reduceAdd, Nat.reduceSub, eq_self]
  exact n24
theorem k_X3_tell {e : tE} {b : Bool} {d n : Nat} {r : Nat} (h0 : cl r 5) (hd : 2 ≤ d) : sC e b d 1290 [.inr (.inr (.inl r))] n (SQn n (True)) := by
  refine sK (fun M h => tst_X3_tell h) (fun M0 => ?_)
  have n77 : ∀ (l1_77 : Int) (l3_77 : Int), (-9223372036854775808 ≤ l1_77 ∧ l1_77 < 9223372036854775808) → (-9223372036854775808 ≤ l3_77 ∧ l3_77 < 9223372036854775808) → sT e b M0 d 1290 77 [some (.inr (.inr (.inl r))), some (.inr (.inl l1_77)), none, some (.inr (.inl l3_77)), none] [] n (SQn n (True)) := by
    intro l1_77 l3_77 y77_0 y77_1
    refine sB (fun M => tb_X3_tell_77) ?_
    simp only [kb_X3_tell_77, s_re, LR, IR, true_and, and_true, Nat.reduceAdd, Nat.reduceSub, eq_self]
    exact ⟨rfl, rfl, by first | trivial | omega⟩
  refine sB (fun M => tb_X3_tell_0) ?_
  simp only [kb_X3_tell_0, s_ald_0, s_gf_5_6, s_bi, s_iv1, tfr_0, tfr_1, tfr_2, tfr_3, tfr_4, s_ld2, s_lmul, s_ladd, s_lst_1, tkl_n, tkl_i, tkl_l, tkl_r, s_ic, s_ldiv, s_lst_3, s_gf_5_0, s_lld_1, s_lld_3, s_gf_5_2, s_iv3, s_gf_5_1, s_if_eq, s_iv0, s_nil, LR, IR, true_and, and_true, Nat.reduceAdd, Nat.reduceSub, eq_self]
  refine ⟨by assumption, fun x3_ h3_ => ?_⟩
  refine ⟨vok_of (s := 6) (by assumption) rfl, ?_⟩
  refine sc_l (D := 0) (fun d' hd' => k_X4_limbAt (by assumption) (by omega) hd') (by omega) ?_
  intro x5_ h5_
  try simp only [s_ld2, s_lmul, s_ald_0, s_gf_5_6, s_bi, s_iv1, tfr_0, tfr_1, tfr_2, tfr_3, tfr_4, s_ladd, s_lst_1, tkl_n, tkl_i, tkl_l, tkl_r, s_ic, s_ldiv, s_lst_3, s_gf_5_0, s_lld_1, s_lld_3, s_gf_5_2, s_iv3, s_gf_5_1, s_if_eq, s_iv0, s_nil, LR, IR, true_and, and_true, Nat.reduceAdd, Nat.reduceSub, eq_self]
  intro x7_ h7_
  refine ⟨by assumption, fun x9_ h9_ => ?_⟩
  refine ⟨vok_of (s := 6) (by assumption) rfl, ?_⟩
  refine sc_l (D := 0) (fun d' hd' => k_X4_limbAt (by assumption) (by omega) hd') (by omega) ?_
  intro x11_ h11_
  try simp only [s_ladd, s_lst_1, tkl_n, tkl_i, tkl_l, tkl_r, s_ald_0, s_gf_5_6, s_ic, s_iv1, tfr_0, tfr_1, tfr_2, tfr_3, tfr_4, s_ld2, s_lmul, s_ldiv, s_lst_3, s_gf_5_0, s_lld_1, s_lld_3, s_gf_5_2, s_iv3, s_gf_5_1, s_if_eq, s_iv0, s_nil, LR, IR, true_and, and_true, Nat.reduceAdd, Nat.reduceSub, eq_self]
  intro x12_ h12_
  refine ⟨by assumption, fun x15_ h15_ => ?_⟩
  refine ⟨vok_of (s := 6) (by assumption) rfl, ?_⟩
  refine sc_l (D := 0) (fun d' hd' => k_X4_limbAt (by assumption) (by omega) hd') (by omega) ?_
  intro x17_ h17_
  try simp only [s_ld2, s_lmul, s_ald_0, s_gf_5_6, s_ic, s_iv1, tfr_0, tfr_1, tfr_2, tfr_3, tfr_4, s_ldiv, s_ladd, s_lst_3, tkl_n, tkl_i, tkl_l, tkl_r, s_gf_5_0, s_lld_1, s_lld_3, s_gf_5_2, s_iv3, s_gf_5_1, s_if_eq, s_iv0, s_nil, LR, IR, true_and, and_true, Nat.reduceAdd, Nat.reduceSub, eq_self]
  intro x19_ h19_
  refine ⟨by assumption, fun x21_ h21_ => ?_⟩
  refine ⟨vok_of (s := 6) (by assumption) rfl, ?_⟩
  refine sc_l (D := 0) (fun d' hd' => k_X4_limbAt (by assumption) (by omega) hd') (by omega) ?_
  intro x23_ h23_
  try simp only [s_ld2, s_ldiv, s_ladd, s_lst_3, tkl_n, tkl_i, tkl_l, tkl_r, s_ald_0, s_gf_5_0, s_lld_1, s_lld_3, s_gf_5_2, s_iv3, tfr_0, tfr_1, tfr_2, tfr_3, tfr_4, s_gf_5_1, s_if_eq, s_iv0, s_nil, LR, IR, true_and, and_true, Nat.reduceAdd, Nat.reduceSub, eq_self]
  refine ⟨by omega, fun x25_ h25_ => ?_⟩
  intro x26_ h26_
  refine ⟨by assumption, fun x29_ h29_ => ?_⟩
  refine ⟨by assumption, fun x33_ h33_ g33_ => ?_⟩
  refine ⟨vok_of (s := 10) (by assumption) rfl, ?_⟩
  refine sc_n (D := 0) (fun d' hd' => k_X8_assign (by assumption) (by omega) (by omega) (by omega) hd') (by omega) ?_
  intro h34_
  try simp only [s_ald_0, s_gf_5_1, s_if_eq, s_gf_5_0, s_iv0, tfr_0, tfr_1, tfr_2, tfr_3, tfr_4, s_nil, LR, IR, true_and, and_true, Nat.reduceAdd, Nat.reduceSub, eq_self]
  refine ⟨by assumption, fun x36_ h36_ g36_ => ?_⟩
  refine ⟨by omega, fun h37_ => ?_, fun h37_ => ?_⟩
  · exact n77 _ _ (by omega) (by omega)
  refine ⟨by assumption, fun x39_ h39_ => ?_⟩
  refine ⟨vok_of (s := 10) (by assumption) rfl, ?_⟩
  refine sc_n (D := 1) (fun d' hd' => k_X8_turn (by assumption) hd') (by omega) ?_
  intro h40_
  try simp only [s_nil, LR, IR, true_and, and_true, Nat.reduceAdd, Nat.reduceSub, eq_self]
  exact n77 _ _ (by omega) (by omega)
theorem k_X8_tellDown {e : tE} {b : Bool} {d n : Nat} {r : Nat} {x1 : Nat} {x2 : Int} (h0 : cl r 10) (h1 : cl x1 3) (h2 : (-9223372036854775808 ≤ x2 ∧ x2 < 9223372036854775808)) (hd : 1 ≤ d) : sC e b d 2575 [.inr (.inr (.inl r)), .inr (.inr (.inl x1)), .inr (.inl x2)] n (SQn n (True)) := by
  refine sK (fun M h => tst_X8_tellDown h) (fun M0 => ?_)
  refine sB (fun M => tb_X8_tellDown_0) ?_
  simp only [kb_X8_tellDown_0, s_ald_1, s_ald_0, s_gf_10_0, s_iv1, tfr_0, tfr_1, tfr_2, tfr_3, tfr_4, s_lld_2, s_re, LR, IR, true_and, and_true, Nat.reduceAdd, Nat.reduceSub, eq_self]
  refine ⟨by assumption, fun x3_ h3_ => ?_⟩
  refine ⟨vok_of (s := 3) (by assumption) rfl, ?_⟩
  refine sc_n (D := 0) (fun d' hd' => k_X1_copy (by assumption) (by assumption) hd') (by omega) ?_
  intro h4_
  try simp only [s_ald_1, s_lld_2, s_iv1, tfr_0, tfr_1, tfr_2, tfr_3, tfr_4, s_re, LR, IR, true_and, and_true, Nat.reduceAdd, Nat.reduceSub, eq_self]
  refine ⟨vok_of (s := 3) (by assumption) rfl, ?_⟩
  refine sc_n (D := 0) (fun d' hd' => k_X1_roundDown (by assumption) (by omega) hd') (by omega) ?_
  intro h7_
  try simp only [s_re, LR, IR, true_and, and_true, Nat.reduceAdd, Nat.reduceSub, eq_self]
  exact ⟨rfl, rfl, by first | trivial | omega⟩
theorem k_X8_tellUp {e : tE} {b : Bool} {d n : Nat} {r : Nat} {x1 : Nat} {x2 : Int} (h0 : cl r 10) (h1 : cl x1 3) (h2 : (-9223372036854775808 ≤ x2 ∧ x2 < 9223372036854775808)) (hd : 1 ≤ d) : sC e b d 2576 [.inr (.inr (.inl r)), .inr (.inr (.inl x1)), .inr (.inl x2)] n (SQn n (True)) := by
  refine sK (fun M h => tst_X8_tellUp h) (fun M0 => ?_)
  refine sB (fun M => tb_X8_tellUp_0) ?_
  simp only [kb_X8_tellUp_0, s_ald_1, s_ald_0, s_gf_10_0, s_iv1, tfr_0, tfr_1, tfr_2, tfr_3, tfr_4, s_lld_2, s_gf_10_1, s_iv2, s_re, LR, IR, true_and, and_true, Nat.reduceAdd, Nat.reduceSub, eq_self]
  refine ⟨by assumption, fun x3_ h3_ => ?_⟩
  refine ⟨vok_of (s := 3) (by assumption) rfl, ?_⟩
  refine sc_n (D := 0) (fun d' hd' => k_X1_copy (by assumption) (by assumption) hd') (by omega) ?_
  intro h4_
  try simp only [s_ald_1, s_lld_2, s_ald_0, s_gf_10_1, s_iv2, tfr_0, tfr_1, tfr_2, tfr_3, tfr_4, s_re, LR, IR, true_and, and_true, Nat.reduceAdd, Nat.reduceSub, eq_self]
  refine ⟨by assumption, fun x8_ h8_ g8_ => ?_⟩
  refine ⟨vok_of (s := 3) (by assumption) rfl, ?_⟩
  refine sc_n (D := 0) (fun d' hd' => k_X1_roundUp (by assumption) (by omega) (by omega) hd') (by omega) ?_
  intro h9_
  try simp only [s_re, LR, IR, true_and, and_true, Nat.reduceAdd, Nat.reduceSub, eq_self]
  exact ⟨rfl, rfl, by first | trivial | omega⟩
theorem k_X8_dropSign {e : tE} {b : Bool} {d n : Nat} {x1 : Nat} (h0 : cl x1 3) (hd : 1 ≤ d) : sC e b d 2563 [.inr (.inr (.inl x1))] n (SQi n (fun z => (0 ≤ z ∧ z ≤ 1))) := by
  refine sK (fun M h => tst_X8_dropSign h) (fun M0 => ?_)
  have n13 : ∀ (i1_13 : Int), (0 ≤ i1_13 ∧ i1_13 ≤ 1) → sT e b M0 d 2563 13 [some (.inr (.inr (.inl x1))), some (.inl i1_13)] [] n (SQi n (fun z => (0 ≤ z ∧ z ≤ 1))) := by
    intro i1_13 y13_0
    refine sB (fun M => tb_X8_dropSign_13) ?_
    simp only [kb_X8_dropSign_13, s_ild_1, s_ire, trg, LR, IR, true_and, and_true, Nat.reduceAdd, Nat.reduceSub, eq_self]
    exact ⟨by omega, ⟨_, rfl, rfl, by omega⟩⟩
  refine sB (fun M => tb_X8_dropSign_0) ?_
  simp only [kb_X8_dropSign_0, s_ald_0, s_iv0, tfr_0, tfr_1, tfr_2, tfr_3, tfr_4, s_ist_1, tkl_n, tkl_i, tkl_l, tkl_r, s_ild_1, s_if_eq, s_nil, LR, IR, true_and, and_true, Nat.reduceAdd, Nat.reduceSub, eq_self]
  refine ⟨vok_of (s := 3) (by assumption) rfl, ?_⟩
  refine sc_i (D := 0) (fun d' hd' => k_X1_isNegative (by assumption) hd') (by omega) ?_
  intro x4_ h4_
  try simp only [s_ist_1, tkl_n, tkl_i, tkl_l, tkl_r, s_ild_1, s_if_eq, s_ald_0, s_iv0, tfr_0, tfr_1, tfr_2, tfr_3, tfr_4, s_nil, LR, IR, true_and, and_true, Nat.reduceAdd, Nat.reduceSub, eq_self]
  refine ⟨by omega, fun h7_ => ?_, fun h7_ => ?_⟩
  · exact n13 _ (by omega)
  refine ⟨vok_of (s := 3) (by assumption) rfl, ?_⟩
  refine sc_n (D := 0) (fun d' hd' => k_X1_turn (by assumption) hd') (by omega) ?_
  intro h9_
  try simp only [s_nil, LR, IR, true_and, and_true, Nat.reduceAdd, Nat.reduceSub, eq_self]
  exact n13 _ (by omega)
