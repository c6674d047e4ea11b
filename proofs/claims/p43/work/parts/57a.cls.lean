/-! THE CLASS: methods, printed by wip/p2/gen/sgen.py. -/
theorem k_X0_tellConstant {e : tE} {b : Nat} {d n : Nat} {r : Nat} {x1 : Nat} {x2 : Int} (h0 : cl r 2) (h1 : cl x1 4) (h2 : (0 ≤ x2 ∧ x2 ≤ 65535)) (hb : b < 2) (hd : 3 ≤ d) : sC e b d 521 [.inr (.inr (.inl r)), .inr (.inr (.inl x1)), .inl x2] n (SQi n (fun z => (z = 0 ∨ z = 2))) := by
  refine sK (fun M h => tst_X0_tellConstant h) (fun M0 => ?_)
  have n37 : (0 ≤ x2 ∧ x2 ≤ 65535) → sT e b M0 d 521 37 [] [some (.inr (.inr (.inl r))), some (.inr (.inr (.inl x1))), some (.inl x2)] [] n (fun r n' _ => (SQi n (fun z => (z = 0 ∨ z = 2))) r n') := by
    intro  y37_0
    refine sblk (hv := false) kbl_X0_tellConstant kbs_X0_tellConstant (pc := 37) (pe := 43) (rk := 0) (i := 2) rfl (by decide +kernel) ?_
    simp only [kb_X0_tellConstant_37, s_ald_0, s_ald_1, s_iv1, tfr_0, tfr_1, tfr_2, tfr_3, tfr_4, s_ire, trg, LR, IR, true_and, and_true, Nat.reduceAdd, Nat.reduceSub, eq_self]
    refine ⟨vok_of (s := 2) (by assumption) rfl, ?_⟩
    refine sc_i (D := 2) (fun d' hd' => k_X0_told (by assumption) (by assumption) (by omega) hd') (by omega) ?_
    intro x3_ h3_
    try simp only [s_ire, trg, LR, IR, true_and, and_true, Nat.reduceAdd, Nat.reduceSub, eq_self]
    exact fun _ _ _ _ => ⟨_, rfl, rfl, by omega⟩
  refine sblk (hv := false) kbl_X0_tellConstant kbs_X0_tellConstant (pc := 0) (pe := 23) (rk := 0) (i := 0) rfl (by decide +kernel) ?_
  simp only [kb_X0_tellConstant_0, s_ild_2, s_bi, s_ic_ne, s_ald_0, s_gf_2_0, s_ld2, s_ic, s_iv3, tfr_0, tfr_1, tfr_2, tfr_3, tfr_4, s_goto, LR, IR, true_and, and_true, Nat.reduceAdd, Nat.reduceSub, eq_self]
  refine ⟨by omega, fun h7_ => ?_, fun h7_ => ?_⟩
  · refine sT_w ?_
    refine sblk (hv := false) kbl_X0_tellConstant kbs_X0_tellConstant (pc := 23) (pe := 37) (rk := 0) (i := 1) rfl (by decide +kernel) ?_
    simp only [kb_X0_tellConstant_23, s_ald_0, s_gf_2_0, s_ld2, s_ic, s_iv3, tfr_0, tfr_1, tfr_2, tfr_3, tfr_4, s_nil, LR, IR, true_and, and_true, Nat.reduceAdd, Nat.reduceSub, eq_self]
    refine ⟨by assumption, fun x9_ h9_ => ?_⟩
    refine ⟨vok_of (s := 10) (by assumption) rfl, ?_⟩
    refine sc_n (D := 0) (fun d' hd' => k_X8_assign (by assumption) (by omega) (by omega) (by omega) (by omega) hd') (by omega) ?_
    intro h13_
    try simp only [s_nil, LR, IR, true_and, and_true, Nat.reduceAdd, Nat.reduceSub, eq_self]
    exact sT_w (n37 (by omega))
  refine ⟨by assumption, fun x15_ h15_ => ?_⟩
  refine ⟨vok_of (s := 10) (by assumption) rfl, ?_⟩
  refine sc_n (D := 0) (fun d' hd' => k_X8_assign (by assumption) (by omega) (by omega) (by omega) (by omega) hd') (by omega) ?_
  intro h19_
  try simp only [s_goto, LR, IR, true_and, and_true, Nat.reduceAdd, Nat.reduceSub, eq_self]
  exact sT_w (n37 (by omega))
theorem k_X5_takesAct {e : tE} {b : Nat} {d n : Nat} {r : Nat} {x1 : Nat} (h0 : cl r 7) (h1 : cl x1 12) (hb : b = 0) (hd : 4 ≤ d) : sC e b d 1809 [.inr (.inr (.inl r)), .inr (.inr (.inl x1))] n (SQi n (fun z => (0 ≤ z ∧ z ≤ 1))) := by
  refine sK (fun M h => tst_X5_takesAct h) (fun M0 => ?_)
  refine sblk (hv := true) kbl_X5_takesAct kbs_X5_takesAct (pc := 0) (pe := 21) (rk := 3) (i := 0) rfl (by decide +kernel) ?_
  simp only [kb_X5_takesAct_0, s_ald_1, s_ald_0, s_gf_7_9, s_iv1, tfr_0, tfr_1, tfr_2, tfr_3, tfr_4, s_ist_2, tkl_n, tkl_i, tkl_l, tkl_r, s_ild_2, s_bi, s_ic_ne, s_ire, trg, LR, IR, true_and, and_true, Nat.reduceAdd, Nat.reduceSub, eq_self]
  refine ⟨by assumption, fun x3_ h3_ g3_ k3_ => ?_⟩
  clear k3_
  refine ⟨vok_of (s := 12) (by assumption) rfl, ?_⟩
  refine sc_i (D := 0) (fun d' hd' => k_X10_at (by assumption) (by omega) hd') (by omega) ?_
  intro x4_ h4_
  try simp only [s_ist_2, tkl_n, tkl_i, tkl_l, tkl_r, s_ild_2, s_bi, s_ic_ne, s_ald_0, s_ald_1, s_iv1, tfr_0, tfr_1, tfr_2, tfr_3, tfr_4, s_ire, trg, LR, IR, true_and, and_true, Nat.reduceAdd, Nat.reduceSub, eq_self]
  refine ⟨by omega, fun h8_ => ?_, fun h8_ => ?_⟩
  · refine sT_w ?_
    refine sblk (hv := true) kbl_X5_takesAct kbs_X5_takesAct (pc := 21) (pe := 32) (rk := 3) (i := 1) rfl (by decide +kernel) ?_
    simp only [kb_X5_takesAct_21, s_ild_2, s_bi, s_ic_ne, s_ald_0, s_iv0, tfr_0, tfr_1, tfr_2, tfr_3, tfr_4, s_ire, trg, LR, IR, true_and, and_true, Nat.reduceAdd, Nat.reduceSub, eq_self]
    refine ⟨by omega, fun h11_ => ?_, fun h11_ => ?_⟩
    · refine sT_w ?_
      refine sblk (hv := true) kbl_X5_takesAct kbs_X5_takesAct (pc := 32) (pe := 41) (rk := 3) (i := 2) rfl (by decide +kernel) ?_
      simp only [kb_X5_takesAct_32, s_ild_2, s_is1, tfr_0, tfr_1, tfr_2, tfr_3, tfr_4, s_if_ne, s_ic, s_ire, trg, LR, IR, true_and, and_true, Nat.reduceAdd, Nat.reduceSub, eq_self]
      refine sc_i (D := 0) (fun d' hd' => k_X5_isPair (by omega) hd') (by omega) ?_
      intro x13_ h13_
      try simp only [s_if_ne, s_ic, s_ire, trg, LR, IR, true_and, and_true, Nat.reduceAdd, Nat.reduceSub, eq_self]
      refine ⟨by omega, fun h14_ => ?_, fun h14_ => ?_⟩
      · have n61 : ∀ (i2_61 : Int), (0 ≤ i2_61 ∧ i2_61 ≤ 65535) → sT e b M0 d 1809 61 [] [some (.inr (.inr (.inl r))), some (.inr (.inr (.inl x1))), some (.inl i2_61)] [] n (fun r n' _ => (SQi n (fun z => (0 ≤ z ∧ z ≤ 1))) r n') := by
          intro i2_61 y61_0
          refine sblk (hv := true) kbl_X5_takesAct kbs_X5_takesAct (pc := 61) (pe := 83) (rk := 3) (i := 5) rfl (by decide +kernel) ?_
          simp only [kb_X5_takesAct_61, s_ald_0, s_ild_2, s_iv1, tfr_0, tfr_1, tfr_2, tfr_3, tfr_4, s_ic, s_pf_7_10, s_dupi, s_dupr, s_gf_7_9, h_iadd, s_pf_7_9, s_ire, trg, LR, IR, true_and, and_true, Nat.reduceAdd, Nat.reduceSub, eq_self]
          refine ⟨vok_of (s := 7) (by assumption) rfl, ?_⟩
          refine sc_n (D := 0) (fun d' hd' => k_X5_hold (by assumption) (by omega) (by omega) hd') (by omega) ?_
          intro h17_
          try simp only [s_ald_0, s_ic, s_pf_7_10, s_dupi, s_dupr, s_gf_7_9, h_iadd, s_pf_7_9, s_ire, trg, LR, IR, true_and, and_true, Nat.reduceAdd, Nat.reduceSub, eq_self]
          refine ⟨by omega, by assumption, by omega, ?_⟩
          refine ⟨by assumption, fun x23_ h23_ g23_ k23_ => ?_⟩
          clear k23_
          intro x25_ h25_ g25_
          refine ⟨by omega, by assumption, by omega, ?_⟩
          exact ⟨by omega, fun _ _ _ _ => ⟨_, rfl, rfl, by omega⟩⟩
        have n57 : ∀ (i2_57 : Int), (43 ≤ i2_57 ∧ i2_57 ≤ 45) → sT e b M0 d 1809 57 [] [some (.inr (.inr (.inl r))), some (.inr (.inr (.inl x1))), some (.inl i2_57)] [] n (fun r n' _ => (SQi n (fun z => (0 ≤ z ∧ z ≤ 1))) r n') := by
          intro i2_57 y57_0
          refine sblk (hv := true) kbl_X5_takesAct kbs_X5_takesAct (pc := 57) (pe := 61) (rk := 3) (i := 4) rfl (by decide +kernel) ?_
          simp only [kb_X5_takesAct_57, s_ald_0, s_iv0, tfr_0, tfr_1, tfr_2, tfr_3, tfr_4, s_nil, LR, IR, true_and, and_true, Nat.reduceAdd, Nat.reduceSub, eq_self]
          refine ⟨vok_of (s := 7) (by assumption) rfl, ?_⟩
          refine sc_n (D := 2) (fun d' hd' => k_X5_releaseSums (by assumption) (by omega) hd') (by omega) ?_
          intro h30_
          try simp only [s_nil, LR, IR, true_and, and_true, Nat.reduceAdd, Nat.reduceSub, eq_self]
          exact sT_w (n61 _ (by omega))
        refine sT_w ?_
        refine sblk (hv := true) kbl_X5_takesAct kbs_X5_takesAct (pc := 41) (pe := 57) (rk := 3) (i := 3) rfl (by decide +kernel) ?_
        simp only [kb_X5_takesAct_41, s_ald_0, s_iv0, tfr_0, tfr_1, tfr_2, tfr_3, tfr_4, s_ild_2, s_bi, s_ic_eq, s_ic_ne, s_nil, LR, IR, true_and, and_true, Nat.reduceAdd, Nat.reduceSub, eq_self]
        refine ⟨vok_of (s := 7) (by assumption) rfl, ?_⟩
        refine sc_n (D := 2) (fun d' hd' => k_X5_releaseProducts (by assumption) (by omega) hd') (by omega) ?_
        intro h32_
        try simp only [s_ild_2, s_bi, s_ic_eq, s_ic_ne, s_nil, LR, IR, true_and, and_true, Nat.reduceAdd, Nat.reduceSub, eq_self]
        refine ⟨by omega, fun h35_ => ?_, fun h35_ => ?_⟩
        · exact sT_w (n57 _ (by omega))
        refine ⟨by omega, fun h38_ => ?_, fun h38_ => ?_⟩
        · exact sT_w (n61 _ (by omega))
        exact sT_w (n57 _ (by omega))
      exact ⟨by omega, fun _ _ _ _ => ⟨_, rfl, rfl, by omega⟩⟩
    refine ⟨vok_of (s := 7) (by assumption) rfl, ?_⟩
    refine sc_i (D := 3) (fun d' hd' => k_X5_takesClosing (by assumption) (by omega) hd') (by omega) ?_
    intro x42_ h42_
    try simp only [s_ire, trg, LR, IR, true_and, and_true, Nat.reduceAdd, Nat.reduceSub, eq_self]
    exact ⟨by omega, fun _ _ _ _ => ⟨_, rfl, rfl, by omega⟩⟩
  refine ⟨vok_of (s := 7) (by assumption) rfl, ?_⟩
  refine sc_i (D := 2) (fun d' hd' => k_X5_takesExponent (by assumption) (by assumption) (by omega) hd') (by omega) ?_
  intro x46_ h46_
  try simp only [s_ire, trg, LR, IR, true_and, and_true, Nat.reduceAdd, Nat.reduceSub, eq_self]
  exact ⟨by omega, fun _ _ _ _ => ⟨_, rfl, rfl, by omega⟩⟩
theorem k_X5_takesNumber {e : tE} {b : Nat} {d n : Nat} {r : Nat} {x1 : Nat} (h0 : cl r 7) (h1 : cl x1 12) (hb : b = 0) (hd : 3 ≤ d) : sC e b d 1813 [.inr (.inr (.inl r)), .inr (.inr (.inl x1))] n (SQi n (fun z => (0 ≤ z ∧ z ≤ 1))) := by
  refine sK (fun M h => tst_X5_takesNumber h) (fun M0 => ?_)
  have n14 : ∀ (fu : Nat) (l2_14 : Int) (i4_14 : Int) (i5_14 : Int) (i6_14 : Int) (i7_14 : Int), 60 - i7_14 + 1 ≤ (fu : Int) → (-9223372036854775808 ≤ l2_14 ∧ l2_14 < 9223372036854775808) → (0 ≤ i4_14 ∧ i4_14 ≤ 12) → (-2147483648 ≤ i5_14 ∧ i5_14 ≤ 2147483647) → (0 ≤ i6_14 ∧ i6_14 ≤ 1) → (0 ≤ i7_14 ∧ i7_14 ≤ 60) → (0 ≤ i4_14 ∧ i4_14 ≤ 12) → (0 ≤ i5_14 ∧ i5_14 ≤ i7_14) → sT e b M0 d 1813 14 [] [some (.inr (.inr (.inl r))), some (.inr (.inr (.inl x1))), some (.inr (.inl l2_14)), none, some (.inl i4_14), some (.inl i5_14), some (.inl i6_14), some (.inl i7_14)] [] n (fun r n' _ => (SQi n (fun z => (0 ≤ z ∧ z ≤ 1))) r n') := by
    intro fu
    induction fu with
    | zero =>
      intro l2_14 i4_14 i5_14 i6_14 i7_14 hm y14_0 y14_1 y14_2 y14_3 y14_4 y14_5 y14_6
      exfalso; omega
    | succ fu ih =>
      intro l2_14 i4_14 i5_14 i6_14 i7_14 hm y14_0 y14_1 y14_2 y14_3 y14_4 y14_5 y14_6
      have ih14 := ih
      clear ih
      have n118 : ∀ (i6_118 : Int), (0 ≤ i6_118 ∧ i6_118 ≤ 1) → (0 ≤ i5_14 ∧ i5_14 ≤ 60) → sT e b M0 d 1813 118 [] [some (.inr (.inr (.inl r))), some (.inr (.inr (.inl x1))), some (.inr (.inl l2_14)), none, some (.inl i4_14), some (.inl i5_14), some (.inl i6_118), some (.inl i7_14)] [] n (fun r n' _ => (SQi n (fun z => (0 ≤ z ∧ z ≤ 1))) r n') := by
        intro i6_118 y118_0 y118_1
        have n130 : (0 ≤ i5_14 ∧ i5_14 ≤ 60) → sT e b M0 d 1813 130 [] [some (.inr (.inr (.inl r))), some (.inr (.inr (.inl x1))), some (.inr (.inl l2_14)), none, some (.inl i4_14), some (.inl i5_14), some (.inl i6_118), some (.inl i7_14)] [] n (fun r n' _ => (SQi n (fun z => (0 ≤ z ∧ z ≤ 1))) r n') := by
          intro  y130_0
          refine sblk (hv := true) kbl_X5_takesNumber kbs_X5_takesNumber (pc := 130) (pe := 145) (rk := 3) (i := 8) rfl (by decide +kernel) ?_
          simp only [kb_X5_takesNumber_130, s_ald_0, s_bi, s_lld_2, s_ild5, s_iv3, tfr_0, tfr_1, tfr_2, tfr_3, tfr_4, s_iv0, s_ic, s_ire, trg, LR, IR, true_and, and_true, Nat.reduceAdd, Nat.reduceSub, eq_self]
          refine ⟨vok_of (s := 7) (by assumption) rfl, ?_⟩
          refine sc_n (D := 0) (fun d' hd' => k_X5_append (by assumption) (by omega) (by omega) (by omega) (by omega) (by omega) hd') (by omega) ?_
          intro h5_
          try simp only [s_ald_0, s_iv0, tfr_0, tfr_1, tfr_2, tfr_3, tfr_4, s_ic, s_ire, trg, LR, IR, true_and, and_true, Nat.reduceAdd, Nat.reduceSub, eq_self]
          refine ⟨vok_of (s := 7) (by assumption) rfl, ?_⟩
          refine sc_n (D := 2) (fun d' hd' => k_X5_closeAtom (by assumption) (by omega) hd') (by omega) ?_
          intro h7_
          try simp only [s_ic, s_ire, trg, LR, IR, true_and, and_true, Nat.reduceAdd, Nat.reduceSub, eq_self]
          exact ⟨by omega, fun _ _ _ _ => ⟨_, rfl, rfl, by omega⟩⟩
        refine sblk (hv := true) kbl_X5_takesNumber kbs_X5_takesNumber (pc := 118) (pe := 130) (rk := 3) (i := 7) rfl (by decide +kernel) ?_
        simp only [kb_X5_takesNumber_118, s_ild6, s_if_eq, s_ild5, s_if_ne, s_ic, s_ire, trg, LR, IR, true_and, and_true, Nat.reduceAdd, Nat.reduceSub, eq_self]
        refine ⟨by omega, fun h11_ => ?_, fun h11_ => ?_⟩
        · exact sT_w (n130 (by omega))
        refine ⟨by omega, fun h13_ => ?_, fun h13_ => ?_⟩
        · exact sT_w (n130 (by omega))
        exact ⟨by omega, fun _ _ _ _ => ⟨_, rfl, rfl, by omega⟩⟩
      have n102 : ∀ (l2_102 : Int) (i4_102 : Int) (i5_102 : Int) (i6_102 : Int), (-9223372036854775808 ≤ l2_102 ∧ l2_102 < 9223372036854775808) → (0 ≤ i4_102 ∧ i4_102 ≤ 12) → (-2147483648 ≤ i5_102 ∧ i5_102 ≤ 2147483647) → (0 ≤ i6_102 ∧ i6_102 ≤ 1) → (0 ≤ i7_14 ∧ i7_14 ≤ 59) → (0 ≤ i4_102 ∧ i4_102 ≤ 12) → (0 ≤ i5_102 ∧ i5_102 ≤ i7_14 + 1) → sT e b M0 d 1813 102 [] [some (.inr (.inr (.inl r))), some (.inr (.inr (.inl x1))), some (.inr (.inl l2_102)), none, some (.inl i4_102), some (.inl i5_102), some (.inl i6_102), some (.inl i7_14)] [] n (fun r n' _ => (SQi n (fun z => (0 ≤ z ∧ z ≤ 1))) r n') := by
        intro l2_102 i4_102 i5_102 i6_102 y102_0 y102_1 y102_2 y102_3 y102_4 y102_5 y102_6
        refine sblk (hv := true) kbl_X5_takesNumber kbs_X5_takesNumber (pc := 102) (pe := 118) (rk := 3) (i := 6) rfl (by decide +kernel) ?_
        simp only [kb_X5_takesNumber_102, s_ald_0, s_dupi, s_dupr, s_gf_7_9, s_ic, h_iadd, s_pf_7_9, s_inc7, tkl_n, tkl_i, tkl_l, tkl_r, s_goto, LR, IR, true_and, and_true, Nat.reduceAdd, Nat.reduceSub, eq_self]
        refine ⟨by assumption, fun x18_ h18_ g18_ k18_ => ?_⟩
        clear k18_
        intro x20_ h20_ g20_
        refine ⟨by omega, by assumption, by omega, ?_⟩
        exact sT_w (ih14 _ _ _ _ _ (by omega) (by omega) (by omega) (by omega) (by omega) (by omega) (by omega) (by omega))
      refine sblk (hv := true) kbl_X5_takesNumber kbs_X5_takesNumber (pc := 14) (pe := 41) (rk := 3) (i := 1) rfl (by decide +kernel) ?_
      simp only [kb_X5_takesNumber_14, s_ild7, s_bi, s_ic_ge, s_ald_1, s_ald_0, s_gf_7_9, s_iv1, tfr_0, tfr_1, tfr_2, tfr_3, tfr_4, s_if_eq, s_ild4, s_ic_ne, s_ic, s_ire, trg, LR, IR, true_and, and_true, Nat.reduceAdd, Nat.reduceSub, eq_self]
      refine ⟨by omega, fun h26_ => ?_, fun h26_ => ?_⟩
      · exact sT_w (n118 _ (by omega) (by omega))
      refine ⟨by assumption, fun x29_ h29_ g29_ k29_ => ?_⟩
      clear k29_
      refine ⟨vok_of (s := 12) (by assumption) rfl, ?_⟩
      refine sc_i (D := 1) (fun d' hd' => k_X10_isDigitAt (by assumption) (by omega) hd') (by omega) ?_
      intro x30_ h30_
      try simp only [s_if_eq, s_ild4, s_bi, s_ic_ne, s_ic, s_ire, trg, LR, IR, true_and, and_true, Nat.reduceAdd, Nat.reduceSub, eq_self]
      refine ⟨by omega, fun h31_ => ?_, fun h31_ => ?_⟩
      · refine sT_w ?_
        refine sblk (hv := true) kbl_X5_takesNumber kbs_X5_takesNumber (pc := 81) (pe := 102) (rk := 3) (i := 5) rfl (by decide +kernel) ?_
        simp only [kb_X5_takesNumber_81, s_ald_1, s_ald_0, s_gf_7_9, s_iv1, tfr_0, tfr_1, tfr_2, tfr_3, tfr_4, s_bi, s_ic_ne, s_ild6, s_if_ne, s_ic, s_ist6, tkl_n, tkl_i, tkl_l, tkl_r, s_nil, LR, IR, true_and, and_true, Nat.reduceAdd, Nat.reduceSub, eq_self]
        refine ⟨by assumption, fun x34_ h34_ g34_ k34_ => ?_⟩
        clear k34_
        refine ⟨vok_of (s := 12) (by assumption) rfl, ?_⟩
        refine sc_i (D := 0) (fun d' hd' => k_X10_at (by assumption) (by omega) hd') (by omega) ?_
        intro x35_ h35_
        try simp only [s_bi, s_ic_ne, s_ild6, s_if_ne, s_ic, s_ist6, tkl_n, tkl_i, tkl_l, tkl_r, s_nil, LR, IR, true_and, and_true, Nat.reduceAdd, Nat.reduceSub, eq_self]
        refine ⟨by omega, fun h37_ => ?_, fun h37_ => ?_⟩
        · exact sT_w (n118 _ (by omega) (by omega))
        refine ⟨by omega, fun h39_ => ?_, fun h39_ => ?_⟩
        · exact sT_w (n118 _ (by omega) (by omega))
        exact sT_w (n102 _ _ _ _ (by omega) (by omega) (by omega) (by omega) (by omega) (by omega) (by omega))
      refine ⟨by omega, fun h44_ => ?_, fun h44_ => ?_⟩
      · have n75 : ∀ (l2_75 : Int) (i4_75 : Int) (is0_75 : Int) (is1_75 : Int), (-9223372036854775808 ≤ l2_75 ∧ l2_75 < 9223372036854775808) → (1 ≤ i4_75 ∧ i4_75 ≤ 12) → (0 ≤ i7_14 ∧ i7_14 ≤ 59) → (0 ≤ is0_75 ∧ is0_75 ≤ 1) → (-2147483648 ≤ is1_75 ∧ is1_75 ≤ 2147483647) → (0 ≤ i4_75 ∧ i4_75 ≤ 12) → (0 ≤ is1_75 ∧ is1_75 ≤ i7_14) → sT e b M0 d 1813 75 [] [some (.inr (.inr (.inl r))), some (.inr (.inr (.inl x1))), some (.inr (.inl l2_75)), none, some (.inl i4_75), some (.inl i5_14), some (.inl i6_14), some (.inl i7_14)] [.inl is0_75, .inl is1_75] n (fun r n' _ => (SQi n (fun z => (0 ≤ z ∧ z ≤ 1))) r n') := by
          intro l2_75 i4_75 is0_75 is1_75 y75_0 y75_1 y75_2 y75_3 y75_4 y75_5 y75_6
          refine sblk (hv := true) kbl_X5_takesNumber kbs_X5_takesNumber (pc := 75) (pe := 81) (rk := 3) (i := 4) rfl (by decide +kernel) ?_
          simp only [kb_X5_takesNumber_75, h_iadd, s_ist5, tkl_n, tkl_i, tkl_l, tkl_r, s_goto, LR, IR, true_and, and_true, Nat.reduceAdd, Nat.reduceSub, eq_self]
          intro x45_ h45_ g45_
          exact sT_w (n102 _ _ _ _ (by omega) (by omega) (by omega) (by omega) (by omega) (by omega) (by omega))
        refine sT_w ?_
        refine sblk (hv := true) kbl_X5_takesNumber kbs_X5_takesNumber (pc := 41) (pe := 74) (rk := 3) (i := 2) rfl (by decide +kernel) ?_
        simp only [kb_X5_takesNumber_41, s_lld_2, s_ld2, s_lmul, s_ald_1, s_ald_0, s_gf_7_9, s_iv1, tfr_0, tfr_1, tfr_2, tfr_3, tfr_4, s_bi, h_isub, s_i2l, s_ladd, s_lst_2, tkl_n, tkl_i, tkl_l, tkl_r, s_inc4, s_ild5, s_ild6, s_if_eq, s_ic, s_goto, LR, IR, true_and, and_true, Nat.reduceAdd, Nat.reduceSub, eq_self]
        intro x50_ h50_
        refine ⟨by assumption, fun x53_ h53_ g53_ k53_ => ?_⟩
        clear k53_
        refine ⟨vok_of (s := 12) (by assumption) rfl, ?_⟩
        refine sc_i (D := 0) (fun d' hd' => k_X10_at (by assumption) (by omega) hd') (by omega) ?_
        intro x54_ h54_
        try simp only [s_bi, h_isub, s_i2l, s_ladd, s_lst_2, tkl_n, tkl_i, tkl_l, tkl_r, s_inc4, s_ild5, s_ild6, s_if_eq, s_ic, s_goto, LR, IR, true_and, and_true, Nat.reduceAdd, Nat.reduceSub, eq_self]
        intro x56_ h56_ g56_
        refine ⟨by omega, ?_⟩
        intro x58_ h58_
        refine ⟨by omega, fun h63_ => ?_, fun h63_ => ?_⟩
        · refine sT_w ?_
          refine sblk (hv := true) kbl_X5_takesNumber kbs_X5_takesNumber (pc := 74) (pe := 75) (rk := 3) (i := 3) rfl (by decide +kernel) ?_
          simp only [kb_X5_takesNumber_74, s_ic, s_nil, LR, IR, true_and, and_true, Nat.reduceAdd, Nat.reduceSub, eq_self]
          exact sT_w (n75 _ _ _ _ (by omega) (by omega) (by omega) (by omega) (by omega) (by omega) (by omega))
        exact sT_w (n75 _ _ _ _ (by omega) (by omega) (by omega) (by omega) (by omega) (by omega) (by omega))
      exact ⟨by omega, fun _ _ _ _ => ⟨_, rfl, rfl, by omega⟩⟩
  refine sblk (hv := true) kbl_X5_takesNumber kbs_X5_takesNumber (pc := 0) (pe := 14) (rk := 3) (i := 0) rfl (by decide +kernel) ?_
  simp only [kb_X5_takesNumber_0, s_lc0, s_lst_2, tkl_n, tkl_i, tkl_l, tkl_r, s_ic, s_ist4, s_ist5, s_ist6, s_ist7, s_nil, LR, IR, true_and, and_true, Nat.reduceAdd, Nat.reduceSub, eq_self]
  exact sT_w (n14 4294967400 _ _ _ _ _ (by omega) (by omega) (by omega) (by omega) (by omega) (by omega) (by omega) (by omega))
theorem k_X5_takesAtom {e : tE} {b : Nat} {d n : Nat} {r : Nat} {x1 : Nat} (h0 : cl r 7) (h1 : cl x1 12) (hb : b = 0) (hd : 4 ≤ d) : sC e b d 1810 [.inr (.inr (.inl r)), .inr (.inr (.inl x1))] n (SQi n (fun z => (0 ≤ z ∧ z ≤ 1))) := by
  refine sK (fun M h => tst_X5_takesAtom h) (fun M0 => ?_)
  refine sblk (hv := true) kbl_X5_takesAtom kbs_X5_takesAtom (pc := 0) (pe := 17) (rk := 3) (i := 0) rfl (by decide +kernel) ?_
  simp only [kb_X5_takesAtom_0, s_ald_1, s_ald_0, s_gf_7_9, s_iv1, tfr_0, tfr_1, tfr_2, tfr_3, tfr_4, s_if_eq, s_ire, trg, LR, IR, true_and, and_true, Nat.reduceAdd, Nat.reduceSub, eq_self]
  refine ⟨by assumption, fun x3_ h3_ g3_ k3_ => ?_⟩
  clear k3_
  refine ⟨vok_of (s := 12) (by assumption) rfl, ?_⟩
  refine sc_i (D := 1) (fun d' hd' => k_X10_isDigitAt (by assumption) (by omega) hd') (by omega) ?_
  intro x4_ h4_
  try simp only [s_if_eq, s_ald_0, s_ald_1, s_iv1, tfr_0, tfr_1, tfr_2, tfr_3, tfr_4, s_ire, trg, LR, IR, true_and, and_true, Nat.reduceAdd, Nat.reduceSub, eq_self]
  refine ⟨by omega, fun h5_ => ?_, fun h5_ => ?_⟩
  · have n124 : ∀ (i2_124 : Int), (0 ≤ i2_124 ∧ i2_124 ≤ 65535) → sT e b M0 d 1810 124 [] [some (.inr (.inr (.inl r))), some (.inr (.inr (.inl x1))), some (.inl i2_124)] [] n (fun r n' _ => (SQi n (fun z => (0 ≤ z ∧ z ≤ 1))) r n') := by
      intro i2_124 y124_0
      refine sblk (hv := true) kbl_X5_takesAtom kbs_X5_takesAtom (pc := 124) (pe := 136) (rk := 3) (i := 10) rfl (by decide +kernel) ?_
      simp only [kb_X5_takesAtom_124, s_ald_0, s_dupi, s_dupr, s_gf_7_9, s_ic, h_iadd, s_pf_7_9, s_ire, trg, LR, IR, true_and, and_true, Nat.reduceAdd, Nat.reduceSub, eq_self]
      refine ⟨by assumption, fun x8_ h8_ g8_ k8_ => ?_⟩
      clear k8_
      intro x10_ h10_ g10_
      refine ⟨by omega, by assumption, by omega, ?_⟩
      exact ⟨by omega, fun _ _ _ _ => ⟨_, rfl, rfl, by omega⟩⟩
    have n44 : ∀ (i2_44 : Int), ((112 ≤ i2_44 ∧ i2_44 ≤ 121) ∧ i2_44 ≠ 114) → sT e b M0 d 1810 44 [] [some (.inr (.inr (.inl r))), some (.inr (.inr (.inl x1))), some (.inl i2_44)] [] n (fun r n' _ => (SQi n (fun z => (0 ≤ z ∧ z ≤ 1))) r n') := by
      intro i2_44 y44_0
      have n70 : ∀ (is0_70 : Int) (qs1_70 : Nat), (0 ≤ is0_70 ∧ is0_70 ≤ 1) → cl qs1_70 7 → sT e b M0 d 1810 70 [] [some (.inr (.inr (.inl r))), some (.inr (.inr (.inl x1))), some (.inl i2_44)] [.inl is0_70, .inr (.inr (.inl qs1_70))] n (fun r n' _ => (SQi n (fun z => (0 ≤ z ∧ z ≤ 1))) r n') := by
        intro is0_70 qs1_70 y70_0 y70_1
        refine sblk (hv := true) kbl_X5_takesAtom kbs_X5_takesAtom (pc := 70) (pe := 80) (rk := 3) (i := 5) rfl (by decide +kernel) ?_
        simp only [kb_X5_takesAtom_70, s_pf_7_5, s_ald_0, s_iv0, tfr_0, tfr_1, tfr_2, tfr_3, tfr_4, s_goto, LR, IR, true_and, and_true, Nat.reduceAdd, Nat.reduceSub, eq_self]
        refine ⟨by omega, by assumption, by omega, ?_⟩
        refine ⟨vok_of (s := 7) (by assumption) rfl, ?_⟩
        refine sc_n (D := 2) (fun d' hd' => k_X5_closeAtom (by assumption) (by omega) hd') (by omega) ?_
        intro h16_
        try simp only [s_goto, LR, IR, true_and, and_true, Nat.reduceAdd, Nat.reduceSub, eq_self]
        exact sT_w (n124 _ (by omega))
      have n65 : ∀ (qs0_65 : Nat), cl qs0_65 7 → sT e b M0 d 1810 65 [] [some (.inr (.inr (.inl r))), some (.inr (.inr (.inl x1))), some (.inl i2_44)] [.inr (.inr (.inl qs0_65))] n (fun r n' _ => (SQi n (fun z => (0 ≤ z ∧ z ≤ 1))) r n') := by
        intro qs0_65 y65_0
        refine sblk (hv := true) kbl_X5_takesAtom kbs_X5_takesAtom (pc := 65) (pe := 69) (rk := 3) (i := 3) rfl (by decide +kernel) ?_
        simp only [kb_X5_takesAtom_65, s_ic, s_goto, LR, IR, true_and, and_true, Nat.reduceAdd, Nat.reduceSub, eq_self]
        exact sT_w (n70 _ _ (by omega) (by assumption))
      refine sblk (hv := true) kbl_X5_takesAtom kbs_X5_takesAtom (pc := 44) (pe := 65) (rk := 3) (i := 2) rfl (by decide +kernel) ?_
      simp only [kb_X5_takesAtom_44, s_ald_0, s_ild_2, s_lc0, s_ic, s_iv3, tfr_0, tfr_1, tfr_2, tfr_3, tfr_4, s_gf_7_5, s_if_ne, s_bi, s_ic_ne, s_nil, LR, IR, true_and, and_true, Nat.reduceAdd, Nat.reduceSub, eq_self]
      refine ⟨vok_of (s := 7) (by assumption) rfl, ?_⟩
      refine sc_n (D := 0) (fun d' hd' => k_X5_append (by assumption) (by omega) (by omega) (by omega) (by omega) (by omega) hd') (by omega) ?_
      intro h24_
      try simp only [s_ald_0, s_gf_7_5, s_if_ne, s_ild_2, s_bi, s_ic_ne, s_nil, LR, IR, true_and, and_true, Nat.reduceAdd, Nat.reduceSub, eq_self]
      refine ⟨by assumption, fun x27_ h27_ g27_ k27_ => ?_⟩
      clear k27_
      refine ⟨by omega, fun h28_ => ?_, fun h28_ => ?_⟩
      · exact sT_w (n65 _ (by assumption))
      refine ⟨by omega, fun h31_ => ?_, fun h31_ => ?_⟩
      · refine sT_w ?_
        refine sblk (hv := true) kbl_X5_takesAtom kbs_X5_takesAtom (pc := 69) (pe := 70) (rk := 3) (i := 4) rfl (by decide +kernel) ?_
        simp only [kb_X5_takesAtom_69, s_ic, s_nil, LR, IR, true_and, and_true, Nat.reduceAdd, Nat.reduceSub, eq_self]
        exact sT_w (n70 _ _ (by omega) (by assumption))
      exact sT_w (n65 _ (by assumption))
    refine sT_w ?_
    refine sblk (hv := true) kbl_X5_takesAtom kbs_X5_takesAtom (pc := 17) (pe := 44) (rk := 3) (i := 1) rfl (by decide +kernel) ?_
    simp only [kb_X5_takesAtom_17, s_ald_1, s_ald_0, s_gf_7_9, s_iv1, tfr_0, tfr_1, tfr_2, tfr_3, tfr_4, s_ist_2, tkl_n, tkl_i, tkl_l, tkl_r, s_ild_2, s_bi, s_ic_eq, s_ic_ne, s_nil, LR, IR, true_and, and_true, Nat.reduceAdd, Nat.reduceSub, eq_self]
    refine ⟨by assumption, fun x35_ h35_ g35_ k35_ => ?_⟩
    clear k35_
    refine ⟨vok_of (s := 12) (by assumption) rfl, ?_⟩
    refine sc_i (D := 0) (fun d' hd' => k_X10_at (by assumption) (by omega) hd') (by omega) ?_
    intro x36_ h36_
    try simp only [s_ist_2, tkl_n, tkl_i, tkl_l, tkl_r, s_ild_2, s_bi, s_ic_eq, s_ic_ne, s_nil, LR, IR, true_and, and_true, Nat.reduceAdd, Nat.reduceSub, eq_self]
    refine ⟨by omega, fun h40_ => ?_, fun h40_ => ?_⟩
    · exact sT_w (n44 _ (by omega))
    refine ⟨by omega, fun h43_ => ?_, fun h43_ => ?_⟩
    · exact sT_w (n44 _ (by omega))
    refine ⟨by omega, fun h46_ => ?_, fun h46_ => ?_⟩
    · refine sT_w ?_
      refine sblk (hv := true) kbl_X5_takesAtom kbs_X5_takesAtom (pc := 80) (pe := 95) (rk := 3) (i := 6) rfl (by decide +kernel) ?_
      simp only [kb_X5_takesAtom_80, s_ild_2, s_bi, s_ic_ne, s_ald_0, s_iv1, tfr_0, tfr_1, tfr_2, tfr_3, tfr_4, s_goto, LR, IR, true_and, and_true, Nat.reduceAdd, Nat.reduceSub, eq_self]
      refine ⟨by omega, fun h49_ => ?_, fun h49_ => ?_⟩
      · have n114 : ∀ (i2_114 : Int), (0 ≤ i2_114 ∧ i2_114 ≤ 65535) → sT e b M0 d 1810 114 [] [some (.inr (.inr (.inl r))), some (.inr (.inr (.inl x1))), some (.inl i2_114)] [] n (fun r n' _ => (SQi n (fun z => (0 ≤ z ∧ z ≤ 1))) r n') := by
          intro i2_114 y114_0
          refine sblk (hv := true) kbl_X5_takesAtom kbs_X5_takesAtom (pc := 114) (pe := 122) (rk := 3) (i := 8) rfl (by decide +kernel) ?_
          simp only [kb_X5_takesAtom_114, s_ald_0, s_ild_2, s_iv1, tfr_0, tfr_1, tfr_2, tfr_3, tfr_4, s_goto, LR, IR, true_and, and_true, Nat.reduceAdd, Nat.reduceSub, eq_self]
          refine ⟨vok_of (s := 7) (by assumption) rfl, ?_⟩
          refine sc_n (D := 0) (fun d' hd' => k_X5_hold (by assumption) (by omega) (by omega) hd') (by omega) ?_
          intro h52_
          try simp only [s_goto, LR, IR, true_and, and_true, Nat.reduceAdd, Nat.reduceSub, eq_self]
          exact sT_w (n124 _ (by omega))
        have n122 : ∀ (i2_122 : Int), (0 ≤ i2_122 ∧ i2_122 ≤ 65535) → sT e b M0 d 1810 122 [] [some (.inr (.inr (.inl r))), some (.inr (.inr (.inl x1))), some (.inl i2_122)] [] n (fun r n' _ => (SQi n (fun z => (0 ≤ z ∧ z ≤ 1))) r n') := by
          intro i2_122 y122_0
          refine sblk (hv := true) kbl_X5_takesAtom kbs_X5_takesAtom (pc := 122) (pe := 124) (rk := 3) (i := 9) rfl (by decide +kernel) ?_
          simp only [kb_X5_takesAtom_122, s_ic, s_ire, trg, LR, IR, true_and, and_true, Nat.reduceAdd, Nat.reduceSub, eq_self]
          exact ⟨by omega, fun _ _ _ _ => ⟨_, rfl, rfl, by omega⟩⟩
        refine sT_w ?_
        refine sblk (hv := true) kbl_X5_takesAtom kbs_X5_takesAtom (pc := 95) (pe := 114) (rk := 3) (i := 7) rfl (by decide +kernel) ?_
        simp only [kb_X5_takesAtom_95, s_ild_2, s_bi, s_ic_eq, s_is1, tfr_0, tfr_1, tfr_2, tfr_3, tfr_4, s_if_eq, s_nil, LR, IR, true_and, and_true, Nat.reduceAdd, Nat.reduceSub, eq_self]
        refine ⟨by omega, fun h58_ => ?_, fun h58_ => ?_⟩
        · exact sT_w (n114 _ (by omega))
        refine sc_i (D := 0) (fun d' hd' => k_X5_isAhead (by omega) hd') (by omega) ?_
        intro x60_ h60_
        try simp only [s_if_eq, s_ild_2, s_bi, s_ic_eq, s_nil, LR, IR, true_and, and_true, Nat.reduceAdd, Nat.reduceSub, eq_self]
        refine ⟨by omega, fun h61_ => ?_, fun h61_ => ?_⟩
        · exact sT_w (n122 _ (by omega))
        refine ⟨by omega, fun h64_ => ?_, fun h64_ => ?_⟩
        · exact sT_w (n122 _ (by omega))
        exact sT_w (n114 _ (by omega))
      refine ⟨vok_of (s := 7) (by assumption) rfl, ?_⟩
      refine sc_n (D := 0) (fun d' hd' => k_X5_hold (by assumption) (by omega) (by omega) hd') (by omega) ?_
      intro h67_
      try simp only [s_goto, LR, IR, true_and, and_true, Nat.reduceAdd, Nat.reduceSub, eq_self]
      exact sT_w (n124 _ (by omega))
    exact sT_w (n44 _ (by omega))
  refine ⟨vok_of (s := 7) (by assumption) rfl, ?_⟩
  refine sc_i (D := 3) (fun d' hd' => k_X5_takesNumber (by assumption) (by assumption) (by omega) hd') (by omega) ?_
  intro x71_ h71_
  try simp only [s_ire, trg, LR, IR, true_and, and_true, Nat.reduceAdd, Nat.reduceSub, eq_self]
  exact ⟨by omega, fun _ _ _ _ => ⟨_, rfl, rfl, by omega⟩⟩
theorem k_X5_parse {e : tE} {b : Nat} {d n : Nat} {r : Nat} {x1 : Nat} (h0 : cl r 7) (h1 : cl x1 12) (hb : b = 0) (hd : 5 ≤ d) : sC e b d 1803 [.inr (.inr (.inl r)), .inr (.inr (.inl x1))] n (SQi n (fun z => (-2147483648 ≤ z ∧ z ≤ 2147483647))) := by
  refine sK (fun M h => tst_X5_parse h) (fun M0 => ?_)
  have n37 : ∀ (fu : Nat) (i2_37 : Int) (w3_37 : Option tV), 60 - i2_37 + 1 ≤ (fu : Int) → (0 ≤ i2_37 ∧ i2_37 ≤ 60) → sT e b M0 d 1803 37 [] [some (.inr (.inr (.inl r))), some (.inr (.inr (.inl x1))), some (.inl i2_37), w3_37] [] n (fun r n' _ => (SQi n (fun z => (-2147483648 ≤ z ∧ z ≤ 2147483647))) r n') := by
    intro fu
    induction fu with
    | zero =>
      intro i2_37 w3_37 hm y37_0
      exfalso; omega
    | succ fu ih =>
      intro i2_37 w3_37 hm y37_0
      have ih37 := ih
      clear ih
      have n90 : ∀ (w3_90 : Option tV), sT e b M0 d 1803 90 [] [some (.inr (.inr (.inl r))), some (.inr (.inr (.inl x1))), some (.inl i2_37), w3_90] [] n (fun r n' _ => (SQi n (fun z => (-2147483648 ≤ z ∧ z ≤ 2147483647))) r n') := by
        intro w3_90 
        refine sblk (hv := false) kbl_X5_parse kbs_X5_parse (pc := 90) (pe := 102) (rk := 0) (i := 5) rfl (by decide +kernel) ?_
        simp only [kb_X5_parse_90, s_ald_0, s_gf_7_10, s_if_eq, s_gf_7_9, s_ire, trg, LR, IR, true_and, and_true, Nat.reduceAdd, Nat.reduceSub, eq_self]
        refine ⟨by assumption, fun x2_ h2_ g2_ k2_ => ?_⟩
        clear k2_
        refine ⟨by omega, fun h3_ => ?_, fun h3_ => ?_⟩
        · refine sT_w ?_
          refine sblk (hv := false) kbl_X5_parse kbs_X5_parse (pc := 102) (pe := 122) (rk := 0) (i := 6) rfl (by decide +kernel) ?_
          simp only [kb_X5_parse_102, s_ald_0, s_iv0, tfr_0, tfr_1, tfr_2, tfr_3, tfr_4, s_gf_7_8, s_if_le, s_gf_7_9, s_ire, trg, LR, IR, true_and, and_true, Nat.reduceAdd, Nat.reduceSub, eq_self]
          refine ⟨vok_of (s := 7) (by assumption) rfl, ?_⟩
          refine sc_n (D := 2) (fun d' hd' => k_X5_releaseProducts (by assumption) (by omega) hd') (by omega) ?_
          intro h5_
          try simp only [s_ald_0, s_iv0, tfr_0, tfr_1, tfr_2, tfr_3, tfr_4, s_gf_7_8, s_if_le, s_gf_7_9, s_ire, trg, LR, IR, true_and, and_true, Nat.reduceAdd, Nat.reduceSub, eq_self]
          refine ⟨vok_of (s := 7) (by assumption) rfl, ?_⟩
          refine sc_n (D := 2) (fun d' hd' => k_X5_releaseSums (by assumption) (by omega) hd') (by omega) ?_
          intro h7_
          try simp only [s_ald_0, s_gf_7_8, s_if_le, s_gf_7_9, s_ire, trg, LR, IR, true_and, and_true, Nat.reduceAdd, Nat.reduceSub, eq_self]
          refine ⟨by assumption, fun x9_ h9_ g9_ k9_ => ?_⟩
          clear k9_
          refine ⟨by omega, fun h10_ => ?_, fun h10_ => ?_⟩
          · refine sT_w ?_
            refine sblk (hv := false) kbl_X5_parse kbs_X5_parse (pc := 122) (pe := 133) (rk := 0) (i := 7) rfl (by decide +kernel) ?_
            simp only [kb_X5_parse_122, s_ald_0, s_iv0, tfr_0, tfr_1, tfr_2, tfr_3, tfr_4, s_ic, s_pf_7_6, s_ire, trg, LR, IR, true_and, and_true, Nat.reduceAdd, Nat.reduceSub, eq_self]
            refine ⟨vok_of (s := 7) (by assumption) rfl, ?_⟩
            refine sc_n (D := 2) (fun d' hd' => k_X5_findStarts (by assumption) (by omega) hd') (by omega) ?_
            intro h12_
            try simp only [s_ald_0, s_ic, s_pf_7_6, s_ire, trg, LR, IR, true_and, and_true, Nat.reduceAdd, Nat.reduceSub, eq_self]
            refine ⟨by omega, by assumption, by omega, ?_⟩
            exact fun _ _ _ _ => ⟨_, rfl, rfl, by omega⟩
          refine ⟨by assumption, fun x19_ h19_ g19_ k19_ => ?_⟩
          clear k19_
          exact fun _ _ _ _ => ⟨_, rfl, rfl, by omega⟩
        refine ⟨by assumption, fun x22_ h22_ g22_ k22_ => ?_⟩
        clear k22_
        exact fun _ _ _ _ => ⟨_, rfl, rfl, by omega⟩
      have n74 : ∀ (w3_74 : Option tV) (is0_74 : Int), (0 ≤ i2_37 ∧ i2_37 ≤ 59) → (0 ≤ is0_74 ∧ is0_74 ≤ 1) → sT e b M0 d 1803 74 [] [some (.inr (.inr (.inl r))), some (.inr (.inr (.inl x1))), some (.inl i2_37), w3_74] [.inl is0_74] n (fun r n' _ => (SQi n (fun z => (-2147483648 ≤ z ∧ z ≤ 2147483647))) r n') := by
        intro w3_74 is0_74 y74_0 y74_1
        refine sblk (hv := false) kbl_X5_parse kbs_X5_parse (pc := 74) (pe := 84) (rk := 0) (i := 3) rfl (by decide +kernel) ?_
        simp only [kb_X5_parse_74, s_ist_3, tkl_n, tkl_i, tkl_l, tkl_r, s_ild_3, s_if_ne, s_ald_0, s_gf_7_9, s_ire, trg, LR, IR, true_and, and_true, Nat.reduceAdd, Nat.reduceSub, eq_self]
        refine ⟨by omega, fun h26_ => ?_, fun h26_ => ?_⟩
        · refine sT_w ?_
          refine sblk (hv := false) kbl_X5_parse kbs_X5_parse (pc := 84) (pe := 90) (rk := 0) (i := 4) rfl (by decide +kernel) ?_
          simp only [kb_X5_parse_84, s_inc2, tkl_n, tkl_i, tkl_l, tkl_r, s_goto, LR, IR, true_and, and_true, Nat.reduceAdd, Nat.reduceSub, eq_self]
          exact sT_w (ih37 _ _ (by omega) (by omega))
        refine ⟨by assumption, fun x30_ h30_ g30_ k30_ => ?_⟩
        clear k30_
        exact fun _ _ _ _ => ⟨_, rfl, rfl, by omega⟩
      refine sblk (hv := false) kbl_X5_parse kbs_X5_parse (pc := 37) (pe := 69) (rk := 0) (i := 1) rfl (by decide +kernel) ?_
      simp only [kb_X5_parse_37, s_ild_2, s_bi, s_ic_ge, s_ald_0, s_gf_7_9, s_ald_1, s_gf_12_1, s_gf_7_10, s_if_eq, s_iv1, tfr_0, tfr_1, tfr_2, tfr_3, tfr_4, s_goto, LR, IR, true_and, and_true, Nat.reduceAdd, Nat.reduceSub, eq_self]
      refine ⟨by omega, fun h34_ => ?_, fun h34_ => ?_⟩
      · exact sT_w (n90 _)
      refine ⟨by assumption, fun x36_ h36_ g36_ k36_ => ?_⟩
      clear k36_
      refine ⟨by assumption, fun x38_ h38_ g38_ k38_ => ?_⟩
      clear k38_
      refine ⟨by omega, fun h39_ => ?_, fun h39_ => ?_⟩
      · exact sT_w (n90 _)
      refine ⟨by assumption, fun x41_ h41_ g41_ k41_ => ?_⟩
      clear k41_
      refine ⟨by omega, fun h42_ => ?_, fun h42_ => ?_⟩
      · refine sT_w ?_
        refine sblk (hv := false) kbl_X5_parse kbs_X5_parse (pc := 69) (pe := 74) (rk := 0) (i := 2) rfl (by decide +kernel) ?_
        simp only [kb_X5_parse_69, s_ald_0, s_ald_1, s_iv1, tfr_0, tfr_1, tfr_2, tfr_3, tfr_4, s_nil, LR, IR, true_and, and_true, Nat.reduceAdd, Nat.reduceSub, eq_self]
        refine ⟨vok_of (s := 7) (by assumption) rfl, ?_⟩
        refine sc_i (D := 4) (fun d' hd' => k_X5_takesAct (by assumption) (by assumption) (by omega) hd') (by omega) ?_
        intro x45_ h45_
        try simp only [s_nil, LR, IR, true_and, and_true, Nat.reduceAdd, Nat.reduceSub, eq_self]
        exact sT_w (n74 _ _ (by omega) (by omega))
      refine ⟨vok_of (s := 7) (by assumption) rfl, ?_⟩
      refine sc_i (D := 4) (fun d' hd' => k_X5_takesAtom (by assumption) (by assumption) (by omega) hd') (by omega) ?_
      intro x48_ h48_
      try simp only [s_goto, LR, IR, true_and, and_true, Nat.reduceAdd, Nat.reduceSub, eq_self]
      exact sT_w (n74 _ _ (by omega) (by omega))
  refine sblk (hv := false) kbl_X5_parse kbs_X5_parse (pc := 0) (pe := 37) (rk := 0) (i := 0) rfl (by decide +kernel) ?_
  simp only [kb_X5_parse_0, s_ald_0, s_ic, s_pf_7_4, s_pf_7_5, s_pf_7_6, s_pf_7_8, s_pf_7_9, s_pf_7_10, s_pf_7_11, s_ist_2, tkl_n, tkl_i, tkl_l, tkl_r, s_nil, LR, IR, true_and, and_true, Nat.reduceAdd, Nat.reduceSub, eq_self]
  refine ⟨by omega, by assumption, by omega, ?_⟩
  refine ⟨by omega, by assumption, by omega, ?_⟩
  refine ⟨by omega, by assumption, by omega, ?_⟩
  refine ⟨by omega, by assumption, by omega, ?_⟩
  refine ⟨by omega, by assumption, by omega, ?_⟩
  refine ⟨by omega, by assumption, by omega, ?_⟩
  refine ⟨by omega, by assumption, by omega, ?_⟩
  exact sT_w (n37 4294967400 _ _ (by omega) (by omega))
theorem k_X11_define {e : tE} {b : Nat} {d n : Nat} {r : Nat} {x1 : Int} (h0 : cl r 13) (h1 : (-2147483648 ≤ x1 ∧ x1 ≤ 2147483647)) (hb : b = 0) (hd : 6 ≤ d) : sC e b d 3353 [.inr (.inr (.inl r)), .inl x1] n (SQx n (SQi n (fun z => (-2147483648 ≤ z ∧ z ≤ 60))) (fun s => s = "java/lang/IndexOutOfBoundsException")) := by
  refine sK (fun M h => tst_X11_define h) (fun M0 => ?_)
  refine sblk (hv := false) kbl_X11_define kbs_X11_define (pc := 0) (pe := 32) (rk := 0) (i := 0) rfl (by decide +kernel) ?_
  simp only [kb_X11_define_0, s_ald_0, s_ild_1, s_iv1, tfr_0, tfr_1, tfr_2, tfr_3, tfr_4, s_gf_13_6, s_gf_13_1, s_ist_2, tkl_n, tkl_i, tkl_l, tkl_r, s_iv0, s_ild_2, s_if_lt, s_ic, s_isub, s_ire, trg, LR, IR, true_and, and_true, Nat.reduceAdd, Nat.reduceSub, eq_self]
  refine ⟨vok_of (s := 13) (by assumption) rfl, ?_⟩
  refine sc_xn (D := 0) (fun d' hd' => k_X11_checkFormula (by assumption) (by omega) hd') (by omega) rfl ?_ (fun s hs _ => Or.inr ⟨s, rfl, rfl, (fun h => h) hs⟩)
  intro h3_
  try simp only [s_ald_0, s_gf_13_6, s_gf_13_1, s_iv1, tfr_0, tfr_1, tfr_2, tfr_3, tfr_4, s_ist_2, tkl_n, tkl_i, tkl_l, tkl_r, s_iv0, s_ild_2, s_if_lt, s_ic, s_isub, s_ire, trg, LR, IR, true_and, and_true, Nat.reduceAdd, Nat.reduceSub, eq_self]
  refine ⟨by assumption, fun x5_ h5_ => ?_⟩
  refine ⟨by assumption, fun x7_ h7_ => ?_⟩
  refine ⟨vok_of (s := 7) (by assumption) rfl, ?_⟩
  refine sc_i (D := 5) (fun d' hd' => k_X5_parse (by assumption) (by assumption) (by omega) hd') (by omega) ?_
  intro x8_ h8_
  try simp only [s_ist_2, tkl_n, tkl_i, tkl_l, tkl_r, s_ald_0, s_gf_13_1, s_iv0, tfr_0, tfr_1, tfr_2, tfr_3, tfr_4, s_ild_2, s_if_lt, s_ic, s_isub, s_ire, trg, LR, IR, true_and, and_true, Nat.reduceAdd, Nat.reduceSub, eq_self]
  refine ⟨by assumption, fun x11_ h11_ => ?_⟩
  refine ⟨vok_of (s := 12) (by assumption) rfl, ?_⟩
  refine sc_n (D := 0) (fun d' hd' => k_X10_clear (by assumption) (by omega) hd') (by omega) ?_
  intro h12_
  try simp only [s_ild_2, s_if_lt, s_ic, s_isub, s_ire, trg, LR, IR, true_and, and_true, Nat.reduceAdd, Nat.reduceSub, eq_self]
  refine ⟨by omega, fun h14_ => ?_, fun h14_ => ?_⟩
  · refine sT_w ?_
    refine sblk (hv := false) kbl_X11_define kbs_X11_define (pc := 32) (pe := 64) (rk := 0) (i := 1) rfl (by decide +kernel) ?_
    simp only [kb_X11_define_32, s_ald_0, s_gf_13_5, s_ild_1, s_aa, s_ast_3, tkl_n, tkl_i, tkl_l, tkl_r, s_gf_13_6, s_aas, s_ald_3, s_pf_13_6, s_gf_7_4, s_ire, trg, LR, IR, true_and, and_true, Nat.reduceAdd, Nat.reduceSub, eq_self]
    refine ⟨by assumption, fun x16_ h16_ => ?_⟩
    refine Or.inr ⟨aok_27 (by assumption) (by omega), fun x18_ h18_ => ?_⟩
    refine ⟨by assumption, fun x21_ h21_ => ?_⟩
    refine ⟨by assumption, fun x24_ h24_ => ?_⟩
    refine ⟨by omega, by assumption, by assumption, by omega, ?_⟩
    refine ⟨by omega, by assumption, by assumption, ?_⟩
    refine ⟨by assumption, fun x30_ h30_ => ?_⟩
    refine Or.inr ⟨aok_27 (by assumption) (by omega), fun x32_ h32_ => ?_⟩
    refine ⟨by assumption, fun x33_ h33_ g33_ k33_ => ?_⟩
    clear k33_
    exact fun _ _ _ _ => Or.inl ⟨_, rfl, rfl, by omega⟩
  exact fun _ _ _ _ => Or.inl ⟨_, rfl, rfl, by omega⟩
