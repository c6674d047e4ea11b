/-! THE CLASS: methods, printed by wip/p2/gen/sgen.py. -/
theorem k_X6_clear {e : tE} {b : Nat} {d n : Nat} {r : Nat} (h0 : cl r 8) (hb : b < 2) (hd : 0 ≤ d) : sC e b d 2053 [.inr (.inr (.inl r))] n (SQn n (True)) := by
  refine sK (fun M h => tst_X6_clear h) (fun M0 => ?_)
  refine sblk (hv := false) kbl_X6_clear kbs_X6_clear (pc := 0) (pe := 6) (rk := 9) (i := 0) rfl (by decide +kernel) ?_
  simp only [kb_X6_clear_0, s_ald_0, s_ic, s_pf_8_2, s_re, LR, IR, true_and, and_true, Nat.reduceAdd, Nat.reduceSub, eq_self]
  refine ⟨by omega, by assumption, by omega, ?_⟩
  exact fun _ _ _ _ => ⟨rfl, rfl, by first | trivial | omega⟩
theorem k_X1_isTooGreat {e : tE} {b : Nat} {d n : Nat} {r : Nat} (h0 : cl r 3) (hd : 0 ≤ d) : sC e b d 776 [.inr (.inr (.inl r))] n (SQi n (fun z => (0 ≤ z ∧ z ≤ 1))) := by
  refine sK (fun M h => tst_X1_isTooGreat h) (fun M0 => ?_)
  have n47 : ∀ (is0_47 : Int), (0 ≤ is0_47 ∧ is0_47 ≤ 1) → sT e b M0 d 776 47 [] [some (.inr (.inr (.inl r)))] [.inl is0_47] n (fun r n' _ => (SQi n (fun z => (0 ≤ z ∧ z ≤ 1))) r n') := by
    intro is0_47 y47_0
    refine sblk (hv := false) kbl_X1_isTooGreat kbs_X1_isTooGreat (pc := 47) (pe := 48) (rk := 3) (i := 3) rfl (by decide +kernel) ?_
    simp only [kb_X1_isTooGreat_47, s_ire, trg, LR, IR, true_and, and_true, Nat.reduceAdd, Nat.reduceSub, eq_self]
    exact ⟨by omega, fun _ _ _ _ => ⟨_, rfl, rfl, by omega⟩⟩
  have n42 : sT e b M0 d 776 42 [] [some (.inr (.inr (.inl r)))] [] n (fun r n' _ => (SQi n (fun z => (0 ≤ z ∧ z ≤ 1))) r n') := by
    refine sblk (hv := false) kbl_X1_isTooGreat kbs_X1_isTooGreat (pc := 42) (pe := 46) (rk := 3) (i := 1) rfl (by decide +kernel) ?_
    simp only [kb_X1_isTooGreat_42, s_ic, s_goto, LR, IR, true_and, and_true, Nat.reduceAdd, Nat.reduceSub, eq_self]
    exact sT_w (n47 _ (by omega))
  have n46 : sT e b M0 d 776 46 [] [some (.inr (.inr (.inl r)))] [] n (fun r n' _ => (SQi n (fun z => (0 ≤ z ∧ z ≤ 1))) r n') := by
    refine sblk (hv := false) kbl_X1_isTooGreat kbs_X1_isTooGreat (pc := 46) (pe := 47) (rk := 3) (i := 2) rfl (by decide +kernel) ?_
    simp only [kb_X1_isTooGreat_46, s_ic, s_nil, LR, IR, true_and, and_true, Nat.reduceAdd, Nat.reduceSub, eq_self]
    exact sT_w (n47 _ (by omega))
  refine sblk (hv := false) kbl_X1_isTooGreat kbs_X1_isTooGreat (pc := 0) (pe := 42) (rk := 3) (i := 0) rfl (by decide +kernel) ?_
  simp only [kb_X1_isTooGreat_0, s_ald_0, s_gf_3_0, s_ld2, s_lcmp, ne_eq, tlc_r, tlc_eq, tlc_lt, tlc_ge, tlc_gt, tlc_le, s_if_ge, s_if_lt, s_if_ne, s_gf_3_1, s_lc0, s_nil, LR, IR, true_and, and_true, Nat.reduceAdd, Nat.reduceSub, eq_self]
  refine ⟨by assumption, fun x6_ h6_ => ?_⟩
  refine ⟨by omega, ?_⟩
  refine ⟨fun h9_ => ?_, fun h9_ => ?_⟩
  · exact sT_w (n42)
  refine ⟨by assumption, fun x11_ h11_ => ?_⟩
  refine ⟨by omega, ?_⟩
  refine ⟨fun h14_ => ?_, fun h14_ => ?_⟩
  · exact sT_w (n42)
  refine ⟨by assumption, fun x16_ h16_ => ?_⟩
  refine ⟨by omega, ?_⟩
  refine ⟨fun h19_ => ?_, fun h19_ => ?_⟩
  · exact sT_w (n46)
  refine ⟨by assumption, fun x21_ h21_ => ?_⟩
  refine ⟨by omega, ?_⟩
  refine ⟨fun h24_ => ?_, fun h24_ => ?_⟩
  · exact sT_w (n46)
  exact sT_w (n42)
theorem k_X2_isTooGreat {e : tE} {b : Nat} {d n : Nat} {r : Nat} (h0 : cl r 4) (hd : 1 ≤ d) : sC e b d 1032 [.inr (.inr (.inl r))] n (SQi n (fun z => (0 ≤ z ∧ z ≤ 1))) := by
  refine sK (fun M h => tst_X2_isTooGreat h) (fun M0 => ?_)
  have n25 : ∀ (is0_25 : Int), (0 ≤ is0_25 ∧ is0_25 ≤ 1) → sT e b M0 d 1032 25 [] [some (.inr (.inr (.inl r)))] [.inl is0_25] n (fun r n' _ => (SQi n (fun z => (0 ≤ z ∧ z ≤ 1))) r n') := by
    intro is0_25 y25_0
    refine sblk (hv := false) kbl_X2_isTooGreat kbs_X2_isTooGreat (pc := 25) (pe := 26) (rk := 3) (i := 3) rfl (by decide +kernel) ?_
    simp only [kb_X2_isTooGreat_25, s_ire, trg, LR, IR, true_and, and_true, Nat.reduceAdd, Nat.reduceSub, eq_self]
    exact ⟨by omega, fun _ _ _ _ => ⟨_, rfl, rfl, by omega⟩⟩
  have n20 : sT e b M0 d 1032 20 [] [some (.inr (.inr (.inl r)))] [] n (fun r n' _ => (SQi n (fun z => (0 ≤ z ∧ z ≤ 1))) r n') := by
    refine sblk (hv := false) kbl_X2_isTooGreat kbs_X2_isTooGreat (pc := 20) (pe := 24) (rk := 3) (i := 1) rfl (by decide +kernel) ?_
    simp only [kb_X2_isTooGreat_20, s_ic, s_goto, LR, IR, true_and, and_true, Nat.reduceAdd, Nat.reduceSub, eq_self]
    exact sT_w (n25 _ (by omega))
  refine sblk (hv := false) kbl_X2_isTooGreat kbs_X2_isTooGreat (pc := 0) (pe := 20) (rk := 3) (i := 0) rfl (by decide +kernel) ?_
  simp only [kb_X2_isTooGreat_0, s_ald_0, s_gf_4_0, s_iv0, tfr_0, tfr_1, tfr_2, tfr_3, tfr_4, s_if_ne, s_gf_4_1, s_if_eq, s_nil, LR, IR, true_and, and_true, Nat.reduceAdd, Nat.reduceSub, eq_self]
  refine ⟨by assumption, fun x5_ h5_ => ?_⟩
  refine ⟨vok_of (s := 3) (by assumption) rfl, ?_⟩
  refine sc_i (D := 0) (fun d' hd' => k_X1_isTooGreat (by assumption) hd') (by omega) ?_
  intro x6_ h6_
  try simp only [s_if_ne, s_ald_0, s_gf_4_1, s_iv0, tfr_0, tfr_1, tfr_2, tfr_3, tfr_4, s_if_eq, s_nil, LR, IR, true_and, and_true, Nat.reduceAdd, Nat.reduceSub, eq_self]
  refine ⟨by omega, fun h7_ => ?_, fun h7_ => ?_⟩
  · exact sT_w (n20)
  refine ⟨by assumption, fun x9_ h9_ => ?_⟩
  refine ⟨vok_of (s := 3) (by assumption) rfl, ?_⟩
  refine sc_i (D := 0) (fun d' hd' => k_X1_isTooGreat (by assumption) hd') (by omega) ?_
  intro x10_ h10_
  try simp only [s_if_eq, s_nil, LR, IR, true_and, and_true, Nat.reduceAdd, Nat.reduceSub, eq_self]
  refine ⟨by omega, fun h11_ => ?_, fun h11_ => ?_⟩
  · refine sT_w ?_
    refine sblk (hv := false) kbl_X2_isTooGreat kbs_X2_isTooGreat (pc := 24) (pe := 25) (rk := 3) (i := 2) rfl (by decide +kernel) ?_
    simp only [kb_X2_isTooGreat_24, s_ic, s_nil, LR, IR, true_and, and_true, Nat.reduceAdd, Nat.reduceSub, eq_self]
    exact sT_w (n25 _ (by omega))
  exact sT_w (n20)
theorem k_X0_judged {e : tE} {b : Nat} {d n : Nat} {x1 : Nat} (h0 : cl x1 4) (hd : 2 ≤ d) : sC e b d 514 [.inr (.inr (.inl x1))] n (SQi n (fun z => (z = 0 ∨ z = 2))) := by
  refine sK (fun M h => tst_X0_judged h) (fun M0 => ?_)
  have n12 : ∀ (is0_12 : Int), (0 ≤ is0_12 ∧ is0_12 ≤ 2) → (is0_12 = 0 ∨ is0_12 = 2) → sT e b M0 d 514 12 [] [some (.inr (.inr (.inl x1)))] [.inl is0_12] n (fun r n' _ => (SQi n (fun z => (z = 0 ∨ z = 2))) r n') := by
    intro is0_12 y12_0 y12_1
    refine sblk (hv := false) kbl_X0_judged kbs_X0_judged (pc := 12) (pe := 13) (rk := 0) (i := 2) rfl (by decide +kernel) ?_
    simp only [kb_X0_judged_12, s_ire, trg, LR, IR, true_and, and_true, Nat.reduceAdd, Nat.reduceSub, eq_self]
    exact fun _ _ _ _ => ⟨_, rfl, rfl, by omega⟩
  refine sblk (hv := false) kbl_X0_judged kbs_X0_judged (pc := 0) (pe := 11) (rk := 0) (i := 0) rfl (by decide +kernel) ?_
  simp only [kb_X0_judged_0, s_ald_0, s_iv0, tfr_0, tfr_1, tfr_2, tfr_3, tfr_4, s_if_eq, s_ic, s_goto, LR, IR, true_and, and_true, Nat.reduceAdd, Nat.reduceSub, eq_self]
  refine ⟨vok_of (s := 4) (by assumption) rfl, ?_⟩
  refine sc_i (D := 1) (fun d' hd' => k_X2_isTooGreat (by assumption) hd') (by omega) ?_
  intro x3_ h3_
  try simp only [s_if_eq, s_ic, s_goto, LR, IR, true_and, and_true, Nat.reduceAdd, Nat.reduceSub, eq_self]
  refine ⟨by omega, fun h4_ => ?_, fun h4_ => ?_⟩
  · refine sT_w ?_
    refine sblk (hv := false) kbl_X0_judged kbs_X0_judged (pc := 11) (pe := 12) (rk := 0) (i := 1) rfl (by decide +kernel) ?_
    simp only [kb_X0_judged_11, s_ic, s_nil, LR, IR, true_and, and_true, Nat.reduceAdd, Nat.reduceSub, eq_self]
    exact sT_w (n12 _ (by omega) (by omega))
  exact sT_w (n12 _ (by omega) (by omega))
theorem k_X1_toDifference {e : tE} {b : Nat} {d n : Nat} {r : Nat} {x1 : Nat} {x2 : Nat} (h0 : cl r 3) (h1 : cl x1 3) (h2 : cl x2 3) (hb : b < 2 ∨ b = 3) (hd : 0 ≤ d) : sC e b d 781 [.inr (.inr (.inl r)), .inr (.inr (.inl x1)), .inr (.inr (.inl x2))] n (SQn n (True)) := by
  refine sK (fun M h => tst_X1_toDifference h) (fun M0 => ?_)
  have n59 : ∀ (l3_59 : Int), (-9223372036854775808 ≤ l3_59 ∧ l3_59 < 9223372036854775808) → sT e b M0 d 781 59 [] [some (.inr (.inr (.inl r))), some (.inr (.inr (.inl x1))), some (.inr (.inr (.inl x2))), some (.inr (.inl l3_59)), none] [] n (fun r n' _ => (SQn n (True)) r n') := by
    intro l3_59 y59_0
    refine sblk (hv := false) kbl_X1_toDifference kbs_X1_toDifference (pc := 59) (pe := 60) (rk := 9) (i := 1) rfl (by decide +kernel) ?_
    simp only [kb_X1_toDifference_59, s_re, LR, IR, true_and, and_true, Nat.reduceAdd, Nat.reduceSub, eq_self]
    exact fun _ _ _ _ => ⟨rfl, rfl, by first | trivial | omega⟩
  refine sblk (hv := false) kbl_X1_toDifference kbs_X1_toDifference (pc := 0) (pe := 59) (rk := 9) (i := 0) rfl (by decide +kernel) ?_
  simp only [kb_X1_toDifference_0, s_ald_1, s_gf_3_0, s_ald_2, s_lsub, s_lst_3, tkl_n, tkl_i, tkl_l, tkl_r, s_ald_0, s_gf_3_1, s_pf_3_1, s_lld_3, s_pf_3_0, s_lc0, s_lcmp, ne_eq, tlc_r, tlc_eq, tlc_lt, tlc_ge, tlc_gt, tlc_le, s_if_ge, s_dupi, s_dupr, s_ld2, s_ladd, s_lc1, s_nil, LR, IR, true_and, and_true, Nat.reduceAdd, Nat.reduceSub, eq_self]
  refine ⟨by assumption, fun x3_ h3_ => ?_⟩
  refine ⟨by assumption, fun x5_ h5_ => ?_⟩
  intro x6_ h6_
  refine ⟨by assumption, fun x10_ h10_ => ?_⟩
  refine ⟨by assumption, fun x12_ h12_ => ?_⟩
  intro x13_ h13_
  refine ⟨by omega, by assumption, ?_⟩
  refine ⟨by omega, by assumption, ?_⟩
  refine ⟨by assumption, fun x19_ h19_ => ?_⟩
  refine ⟨by omega, ?_⟩
  refine ⟨fun h22_ => ?_, fun h22_ => ?_⟩
  · exact sT_w (n59 _ (by omega))
  refine ⟨by assumption, fun x25_ h25_ => ?_⟩
  intro x27_ h27_
  refine ⟨by omega, by assumption, ?_⟩
  refine ⟨by assumption, fun x31_ h31_ => ?_⟩
  intro x33_ h33_
  refine ⟨by omega, by assumption, ?_⟩
  exact sT_w (n59 _ (by omega))
theorem k_X1_roundDown {e : tE} {b : Nat} {d n : Nat} {r : Nat} {x1 : Int} (h0 : cl r 3) (h1 : (-9223372036854775808 ≤ x1 ∧ x1 < 9223372036854775808)) (hb : b < 2 ∨ b = 3) (hd : 0 ≤ d) : sC e b d 778 [.inr (.inr (.inl r)), .inr (.inl x1)] n (SQn n (True)) := by
  refine sK (fun M h => tst_X1_roundDown h) (fun M0 => ?_)
  have n21 : sT e b M0 d 778 21 [] [some (.inr (.inr (.inl r))), some (.inr (.inl x1)), none] [] n (fun r n' _ => (SQn n (True)) r n') := by
    refine sblk (hv := false) kbl_X1_roundDown kbs_X1_roundDown (pc := 21) (pe := 22) (rk := 9) (i := 1) rfl (by decide +kernel) ?_
    simp only [kb_X1_roundDown_21, s_re, LR, IR, true_and, and_true, Nat.reduceAdd, Nat.reduceSub, eq_self]
    exact fun _ _ _ _ => ⟨rfl, rfl, by first | trivial | omega⟩
  refine sblk (hv := false) kbl_X1_roundDown kbs_X1_roundDown (pc := 0) (pe := 21) (rk := 9) (i := 0) rfl (by decide +kernel) ?_
  simp only [kb_X1_roundDown_0, s_lld_1, s_lc1, s_lcmp, ne_eq, tlc_r, tlc_eq, tlc_lt, tlc_ge, tlc_gt, tlc_le, s_if_le, s_ald_0, s_dupi, s_dupr, s_gf_3_1, s_lrem, s_lsub, s_pf_3_1, s_nil, LR, IR, true_and, and_true, Nat.reduceAdd, Nat.reduceSub, eq_self]
  refine ⟨by omega, ?_⟩
  refine ⟨fun h5_ => ?_, fun h5_ => ?_⟩
  · exact sT_w (n21)
  refine ⟨by assumption, fun x8_ h8_ => ?_⟩
  refine ⟨by assumption, fun x10_ h10_ => ?_⟩
  refine ⟨by omega, fun x12_ h12_ => ?_⟩
  intro x13_ h13_
  refine ⟨by omega, by assumption, ?_⟩
  exact sT_w (n21)
theorem k_X1_roundUp {e : tE} {b : Nat} {d n : Nat} {r : Nat} {x1 : Int} {x2 : Int} (h0 : cl r 3) (h1 : (-9223372036854775808 ≤ x1 ∧ x1 < 9223372036854775808)) (h2 : (0 ≤ x2 ∧ x2 ≤ 1)) (hb : b < 2 ∨ b = 3) (hd : 0 ≤ d) : sC e b d 779 [.inr (.inr (.inl r)), .inr (.inl x1), .inl x2] n (SQn n (True)) := by
  refine sK (fun M h => tst_X1_roundUp h) (fun M0 => ?_)
  have n16 : ∀ (w4_16 : Option tV) (w5_16 : Option tV) (ls0_16 : Int), (0 ≤ x2 ∧ x2 ≤ 1) → (-9223372036854775808 ≤ ls0_16 ∧ ls0_16 < 9223372036854775808) → sT e b M0 d 779 16 [] [some (.inr (.inr (.inl r))), some (.inr (.inl x1)), none, some (.inl x2), w4_16, w5_16] [.inr (.inl ls0_16)] n (fun r n' _ => (SQn n (True)) r n') := by
    intro w4_16 w5_16 ls0_16 y16_0 y16_1
    have n42 : ∀ (l4_42 : Int), (-9223372036854775808 ≤ l4_42 ∧ l4_42 < 9223372036854775808) → sT e b M0 d 779 42 [] [some (.inr (.inr (.inl r))), some (.inr (.inl x1)), none, some (.inl x2), some (.inr (.inl l4_42)), none] [] n (fun r n' _ => (SQn n (True)) r n') := by
      intro l4_42 y42_0
      have n75 : sT e b M0 d 779 75 [] [some (.inr (.inr (.inl r))), some (.inr (.inl x1)), none, some (.inl x2), some (.inr (.inl l4_42)), none] [] n (fun r n' _ => (SQn n (True)) r n') := by
        refine sblk (hv := false) kbl_X1_roundUp kbs_X1_roundUp (pc := 75) (pe := 76) (rk := 9) (i := 5) rfl (by decide +kernel) ?_
        simp only [kb_X1_roundUp_75, s_re, LR, IR, true_and, and_true, Nat.reduceAdd, Nat.reduceSub, eq_self]
        exact fun _ _ _ _ => ⟨rfl, rfl, by first | trivial | omega⟩
      refine sblk (hv := false) kbl_X1_roundUp kbs_X1_roundUp (pc := 42) (pe := 75) (rk := 9) (i := 4) rfl (by decide +kernel) ?_
      simp only [kb_X1_roundUp_42, s_ald_0, s_gf_3_1, s_ld2, s_lcmp, ne_eq, tlc_r, tlc_eq, tlc_lt, tlc_ge, tlc_gt, tlc_le, s_if_lt, s_dupi, s_dupr, s_lsub, s_pf_3_1, s_gf_3_0, s_lc1, s_ladd, s_pf_3_0, s_nil, LR, IR, true_and, and_true, Nat.reduceAdd, Nat.reduceSub, eq_self]
      refine ⟨by assumption, fun x3_ h3_ => ?_⟩
      refine ⟨by omega, ?_⟩
      refine ⟨fun h6_ => ?_, fun h6_ => ?_⟩
      · exact sT_w (n75)
      refine ⟨by assumption, fun x9_ h9_ => ?_⟩
      intro x11_ h11_
      refine ⟨by omega, by assumption, ?_⟩
      refine ⟨by assumption, fun x15_ h15_ => ?_⟩
      intro x17_ h17_
      refine ⟨by omega, by assumption, ?_⟩
      exact sT_w (n75)
    have n29 : ∀ (l4_29 : Int), (-9223372036854775808 ≤ l4_29 ∧ l4_29 < 9223372036854775808) → sT e b M0 d 779 29 [] [some (.inr (.inr (.inl r))), some (.inr (.inl x1)), none, some (.inl x2), some (.inr (.inl l4_29)), none] [] n (fun r n' _ => (SQn n (True)) r n') := by
      intro l4_29 y29_0
      refine sblk (hv := false) kbl_X1_roundUp kbs_X1_roundUp (pc := 29) (pe := 42) (rk := 9) (i := 3) rfl (by decide +kernel) ?_
      simp only [kb_X1_roundUp_29, s_ald_0, s_dupi, s_dupr, s_gf_3_1, s_lld_1, s_lld4, s_lsub, s_ladd, s_pf_3_1, s_nil, LR, IR, true_and, and_true, Nat.reduceAdd, Nat.reduceSub, eq_self]
      refine ⟨by assumption, fun x21_ h21_ => ?_⟩
      intro x24_ h24_
      intro x25_ h25_
      refine ⟨by omega, by assumption, ?_⟩
      exact sT_w (n42 _ (by omega))
    refine sblk (hv := false) kbl_X1_roundUp kbs_X1_roundUp (pc := 16) (pe := 29) (rk := 9) (i := 2) rfl (by decide +kernel) ?_
    simp only [kb_X1_roundUp_16, s_lst4, tkl_n, tkl_i, tkl_l, tkl_r, s_lld4, s_lc0, s_lcmp, ne_eq, tlc_r, tlc_eq, tlc_lt, tlc_ge, tlc_gt, tlc_le, s_if_gt, s_ild_3, s_if_eq, s_nil, LR, IR, true_and, and_true, Nat.reduceAdd, Nat.reduceSub, eq_self]
    refine ⟨by omega, ?_⟩
    refine ⟨fun h31_ => ?_, fun h31_ => ?_⟩
    · exact sT_w (n29 _ (by omega))
    refine ⟨by omega, fun h33_ => ?_, fun h33_ => ?_⟩
    · exact sT_w (n42 _ (by omega))
    exact sT_w (n29 _ (by omega))
  refine sblk (hv := false) kbl_X1_roundUp kbs_X1_roundUp (pc := 0) (pe := 15) (rk := 9) (i := 0) rfl (by decide +kernel) ?_
  simp only [kb_X1_roundUp_0, s_lld_1, s_lc1, s_lcmp, ne_eq, tlc_r, tlc_eq, tlc_lt, tlc_ge, tlc_gt, tlc_le, s_if_le, s_ald_0, s_gf_3_1, s_lrem, s_goto, LR, IR, true_and, and_true, Nat.reduceAdd, Nat.reduceSub, eq_self]
  refine ⟨by omega, ?_⟩
  refine ⟨fun h37_ => ?_, fun h37_ => ?_⟩
  · refine sT_w ?_
    refine sblk (hv := false) kbl_X1_roundUp kbs_X1_roundUp (pc := 15) (pe := 16) (rk := 9) (i := 1) rfl (by decide +kernel) ?_
    simp only [kb_X1_roundUp_15, s_lc0, s_nil, LR, IR, true_and, and_true, Nat.reduceAdd, Nat.reduceSub, eq_self]
    exact sT_w (n16 _ _ _ (by omega) (by omega))
  refine ⟨by assumption, fun x40_ h40_ => ?_⟩
  refine ⟨by omega, fun x42_ h42_ => ?_⟩
  exact sT_w (n16 _ _ _ (by omega) (by omega))
theorem k_X2_roundOut {e : tE} {b : Nat} {d n : Nat} {r : Nat} {x1 : Int} (h0 : cl r 4) (h1 : (-9223372036854775808 ≤ x1 ∧ x1 < 9223372036854775808)) (hb : b < 2 ∨ b = 3) (hd : 1 ≤ d) : sC e b d 1034 [.inr (.inr (.inl r)), .inr (.inl x1)] n (SQn n (True)) := by
  refine sK (fun M h => tst_X2_roundOut h) (fun M0 => ?_)
  refine sblk (hv := false) kbl_X2_roundOut kbs_X2_roundOut (pc := 0) (pe := 18) (rk := 9) (i := 0) rfl (by decide +kernel) ?_
  simp only [kb_X2_roundOut_0, s_ald_0, s_gf_4_0, s_lld_1, s_iv1, tfr_0, tfr_1, tfr_2, tfr_3, tfr_4, s_gf_4_1, s_ic, s_iv2, s_re, LR, IR, true_and, and_true, Nat.reduceAdd, Nat.reduceSub, eq_self]
  refine ⟨by assumption, fun x2_ h2_ => ?_⟩
  refine ⟨vok_of (s := 3) (by assumption) rfl, ?_⟩
  refine sc_n (D := 0) (fun d' hd' => k_X1_roundDown (by assumption) (by omega) (by omega) hd') (by omega) ?_
  intro h4_
  try simp only [s_ald_0, s_gf_4_1, s_lld_1, s_ic, s_iv2, tfr_0, tfr_1, tfr_2, tfr_3, tfr_4, s_re, LR, IR, true_and, and_true, Nat.reduceAdd, Nat.reduceSub, eq_self]
  refine ⟨by assumption, fun x6_ h6_ => ?_⟩
  refine ⟨vok_of (s := 3) (by assumption) rfl, ?_⟩
  refine sc_n (D := 0) (fun d' hd' => k_X1_roundUp (by assumption) (by omega) (by omega) (by omega) hd') (by omega) ?_
  intro h9_
  try simp only [s_re, LR, IR, true_and, and_true, Nat.reduceAdd, Nat.reduceSub, eq_self]
  exact fun _ _ _ _ => ⟨rfl, rfl, by first | trivial | omega⟩
theorem k_X0_difference {e : tE} {b : Nat} {d n : Nat} {r : Nat} {x1 : Nat} {x2 : Nat} (h0 : cl r 2) (h1 : cl x1 4) (h2 : cl x2 4) (hb : b < 2 ∨ b = 3) (hd : 3 ≤ d) : sC e b d 513 [.inr (.inr (.inl r)), .inr (.inr (.inl x1)), .inr (.inr (.inl x2))] n (SQi n (fun z => (z = 0 ∨ z = 2))) := by
  refine sK (fun M h => tst_X0_difference h) (fun M0 => ?_)
  refine sblk (hv := false) kbl_X0_difference kbs_X0_difference (pc := 0) (pe := 43) (rk := 0) (i := 0) rfl (by decide +kernel) ?_
  simp only [kb_X0_difference_0, s_ald_1, s_gf_4_0, s_ald_2, s_gf_4_1, s_iv2, tfr_0, tfr_1, tfr_2, tfr_3, tfr_4, s_ald_0, s_gf_2_5, s_iv1, s_is1, s_ire, trg, LR, IR, true_and, and_true, Nat.reduceAdd, Nat.reduceSub, eq_self]
  refine ⟨by assumption, fun x2_ h2_ => ?_⟩
  refine ⟨by assumption, fun x4_ h4_ => ?_⟩
  refine ⟨by assumption, fun x6_ h6_ => ?_⟩
  refine ⟨vok_of (s := 3) (by assumption) rfl, ?_⟩
  refine sc_n (D := 0) (fun d' hd' => k_X1_toDifference (by assumption) (by assumption) (by assumption) (by omega) hd') (by omega) ?_
  intro h7_
  try simp only [s_ald_1, s_gf_4_1, s_ald_2, s_gf_4_0, s_iv2, tfr_0, tfr_1, tfr_2, tfr_3, tfr_4, s_ald_0, s_gf_2_5, s_iv1, s_is1, s_ire, trg, LR, IR, true_and, and_true, Nat.reduceAdd, Nat.reduceSub, eq_self]
  refine ⟨by assumption, fun x9_ h9_ => ?_⟩
  refine ⟨by assumption, fun x11_ h11_ => ?_⟩
  refine ⟨by assumption, fun x13_ h13_ => ?_⟩
  refine ⟨vok_of (s := 3) (by assumption) rfl, ?_⟩
  refine sc_n (D := 0) (fun d' hd' => k_X1_toDifference (by assumption) (by assumption) (by assumption) (by omega) hd') (by omega) ?_
  intro h14_
  try simp only [s_ald_1, s_ald_0, s_gf_2_5, s_iv1, tfr_0, tfr_1, tfr_2, tfr_3, tfr_4, s_is1, s_ire, trg, LR, IR, true_and, and_true, Nat.reduceAdd, Nat.reduceSub, eq_self]
  refine ⟨by assumption, fun x17_ h17_ => ?_⟩
  refine ⟨vok_of (s := 4) (by assumption) rfl, ?_⟩
  refine sc_n (D := 1) (fun d' hd' => k_X2_roundOut (by assumption) (by omega) (by omega) hd') (by omega) ?_
  intro h18_
  try simp only [s_ald_1, s_is1, tfr_0, tfr_1, tfr_2, tfr_3, tfr_4, s_ire, trg, LR, IR, true_and, and_true, Nat.reduceAdd, Nat.reduceSub, eq_self]
  refine sc_i (D := 2) (fun d' hd' => k_X0_judged (by assumption) hd') (by omega) ?_
  intro x20_ h20_
  try simp only [s_ire, trg, LR, IR, true_and, and_true, Nat.reduceAdd, Nat.reduceSub, eq_self]
  exact fun _ _ _ _ => ⟨_, rfl, rfl, by omega⟩
theorem k_X1_assign {e : tE} {b : Nat} {d n : Nat} {r : Nat} {x1 : Int} {x2 : Int} (h0 : cl r 3) (h1 : (-9223372036854775808 ≤ x1 ∧ x1 < 9223372036854775808)) (h2 : (-9223372036854775808 ≤ x2 ∧ x2 < 9223372036854775808)) (hb : b < 2 ∨ b = 3 ∨ (b = 6 ∧ 80 ≤ r ∧ r ≤ 82)) (hd : 0 ≤ d) : sC e b d 770 [.inr (.inr (.inl r)), .inr (.inl x1), .inr (.inl x2)] n (SQn n (True)) := by
  refine sK (fun M h => tst_X1_assign h) (fun M0 => ?_)
  refine sblk (hv := false) kbl_X1_assign kbs_X1_assign (pc := 0) (pe := 11) (rk := 9) (i := 0) rfl (by decide +kernel) ?_
  simp only [kb_X1_assign_0, s_ald_0, s_lld_1, s_pf_3_0, s_lld_3, s_pf_3_1, s_re, LR, IR, true_and, and_true, Nat.reduceAdd, Nat.reduceSub, eq_self]
  refine ⟨by omega, by assumption, ?_⟩
  refine ⟨by omega, by assumption, ?_⟩
  exact fun _ _ _ _ => ⟨rfl, rfl, by first | trivial | omega⟩
theorem k_X1_copy {e : tE} {b : Nat} {d n : Nat} {r : Nat} {x1 : Nat} (h0 : cl r 3) (h1 : cl x1 3) (hb : b < 2 ∨ b = 3 ∨ (b = 6 ∧ 80 ≤ r ∧ r ≤ 82)) (hd : 0 ≤ d) : sC e b d 771 [.inr (.inr (.inl r)), .inr (.inr (.inl x1))] n (SQn n (True)) := by
  refine sK (fun M h => tst_X1_copy h) (fun M0 => ?_)
  refine sblk (hv := false) kbl_X1_copy kbs_X1_copy (pc := 0) (pe := 17) (rk := 9) (i := 0) rfl (by decide +kernel) ?_
  simp only [kb_X1_copy_0, s_ald_0, s_ald_1, s_gf_3_0, s_pf_3_0, s_gf_3_1, s_pf_3_1, s_re, LR, IR, true_and, and_true, Nat.reduceAdd, Nat.reduceSub, eq_self]
  refine ⟨by assumption, fun x3_ h3_ => ?_⟩
  refine ⟨by omega, by assumption, ?_⟩
  refine ⟨by assumption, fun x7_ h7_ => ?_⟩
  refine ⟨by omega, by assumption, ?_⟩
  exact fun _ _ _ _ => ⟨rfl, rfl, by first | trivial | omega⟩
theorem k_X1_turn {e : tE} {b : Nat} {d n : Nat} {r : Nat} (h0 : cl r 3) (hb : b < 2 ∨ b = 3) (hd : 0 ≤ d) : sC e b d 784 [.inr (.inr (.inl r))] n (SQn n (True)) := by
  refine sK (fun M h => tst_X1_turn h) (fun M0 => ?_)
  have n44 : sT e b M0 d 784 44 [] [some (.inr (.inr (.inl r)))] [] n (fun r n' _ => (SQn n (True)) r n') := by
    refine sblk (hv := false) kbl_X1_turn kbs_X1_turn (pc := 44) (pe := 45) (rk := 9) (i := 2) rfl (by decide +kernel) ?_
    simp only [kb_X1_turn_44, s_re, LR, IR, true_and, and_true, Nat.reduceAdd, Nat.reduceSub, eq_self]
    exact fun _ _ _ _ => ⟨rfl, rfl, by first | trivial | omega⟩
  refine sblk (hv := false) kbl_X1_turn kbs_X1_turn (pc := 0) (pe := 21) (rk := 9) (i := 0) rfl (by decide +kernel) ?_
  simp only [kb_X1_turn_0, s_ald_0, s_gf_3_1, s_lc0, s_lcmp, ne_eq, tlc_r, tlc_eq, tlc_lt, tlc_ge, tlc_gt, tlc_le, s_if_ne, s_gf_3_0, s_lneg, s_pf_3_0, s_goto, LR, IR, true_and, and_true, Nat.reduceAdd, Nat.reduceSub, eq_self]
  refine ⟨by assumption, fun x3_ h3_ => ?_⟩
  refine ⟨by omega, ?_⟩
  refine ⟨fun h6_ => ?_, fun h6_ => ?_⟩
  · refine sT_w ?_
    refine sblk (hv := false) kbl_X1_turn kbs_X1_turn (pc := 21) (pe := 44) (rk := 9) (i := 1) rfl (by decide +kernel) ?_
    simp only [kb_X1_turn_21, s_ald_0, s_gf_3_0, s_lneg, s_lc1, s_lsub, s_pf_3_0, s_ld2, s_gf_3_1, s_pf_3_1, s_nil, LR, IR, true_and, and_true, Nat.reduceAdd, Nat.reduceSub, eq_self]
    refine ⟨by assumption, fun x9_ h9_ => ?_⟩
    intro x10_ h10_
    intro x12_ h12_
    refine ⟨by omega, by assumption, ?_⟩
    refine ⟨by assumption, fun x17_ h17_ => ?_⟩
    intro x18_ h18_
    refine ⟨by omega, by assumption, ?_⟩
    exact sT_w (n44)
  refine ⟨by assumption, fun x22_ h22_ => ?_⟩
  intro x23_ h23_
  refine ⟨by omega, by assumption, ?_⟩
  exact sT_w (n44)
theorem k_X2_turn {e : tE} {b : Nat} {d n : Nat} {r : Nat} (h0 : cl r 4) (hb : b < 2 ∨ b = 3) (hd : 1 ≤ d) : sC e b d 1036 [.inr (.inr (.inl r))] n (SQn n (True)) := by
  refine sK (fun M h => tst_X2_turn h) (fun M0 => ?_)
  refine sblk (hv := false) kbl_X2_turn kbs_X2_turn (pc := 0) (pe := 51) (rk := 9) (i := 0) rfl (by decide +kernel) ?_
  simp only [kb_X2_turn_0, s_ald_0, s_gf_4_0, s_gf_3_0, s_lst_1, tkl_n, tkl_i, tkl_l, tkl_r, s_gf_3_1, s_lst_3, s_gf_4_1, s_iv1, tfr_0, tfr_1, tfr_2, tfr_3, tfr_4, s_iv0, s_lld_1, s_lld_3, s_iv2, s_re, LR, IR, true_and, and_true, Nat.reduceAdd, Nat.reduceSub, eq_self]
  refine ⟨by assumption, fun x2_ h2_ => ?_⟩
  refine ⟨by assumption, fun x3_ h3_ => ?_⟩
  refine ⟨by assumption, fun x6_ h6_ => ?_⟩
  refine ⟨by assumption, fun x7_ h7_ => ?_⟩
  refine ⟨by assumption, fun x10_ h10_ => ?_⟩
  refine ⟨by assumption, fun x12_ h12_ => ?_⟩
  refine ⟨vok_of (s := 3) (by assumption) rfl, ?_⟩
  refine sc_n (D := 0) (fun d' hd' => k_X1_copy (by assumption) (by assumption) (by omega) hd') (by omega) ?_
  intro h13_
  try simp only [s_ald_0, s_gf_4_0, s_iv0, tfr_0, tfr_1, tfr_2, tfr_3, tfr_4, s_gf_4_1, s_lld_1, s_lld_3, s_iv2, s_re, LR, IR, true_and, and_true, Nat.reduceAdd, Nat.reduceSub, eq_self]
  refine ⟨by assumption, fun x15_ h15_ => ?_⟩
  refine ⟨vok_of (s := 3) (by assumption) rfl, ?_⟩
  refine sc_n (D := 0) (fun d' hd' => k_X1_turn (by assumption) (by omega) hd') (by omega) ?_
  intro h16_
  try simp only [s_ald_0, s_gf_4_1, s_lld_1, s_lld_3, s_iv2, tfr_0, tfr_1, tfr_2, tfr_3, tfr_4, s_iv0, s_re, LR, IR, true_and, and_true, Nat.reduceAdd, Nat.reduceSub, eq_self]
  refine ⟨by assumption, fun x18_ h18_ => ?_⟩
  refine ⟨vok_of (s := 3) (by assumption) rfl, ?_⟩
  refine sc_n (D := 0) (fun d' hd' => k_X1_assign (by assumption) (by omega) (by omega) (by omega) hd') (by omega) ?_
  intro h21_
  try simp only [s_ald_0, s_gf_4_1, s_iv0, tfr_0, tfr_1, tfr_2, tfr_3, tfr_4, s_re, LR, IR, true_and, and_true, Nat.reduceAdd, Nat.reduceSub, eq_self]
  refine ⟨by assumption, fun x23_ h23_ => ?_⟩
  refine ⟨vok_of (s := 3) (by assumption) rfl, ?_⟩
  refine sc_n (D := 0) (fun d' hd' => k_X1_turn (by assumption) (by omega) hd') (by omega) ?_
  intro h24_
  try simp only [s_re, LR, IR, true_and, and_true, Nat.reduceAdd, Nat.reduceSub, eq_self]
  exact fun _ _ _ _ => ⟨rfl, rfl, by first | trivial | omega⟩
theorem k_X0_negative {e : tE} {b : Nat} {d n : Nat} {r : Nat} {x1 : Nat} (h0 : cl r 2) (h1 : cl x1 4) (hb : b < 2 ∨ b = 3) (hd : 3 ≤ d) : sC e b d 515 [.inr (.inr (.inl r)), .inr (.inr (.inl x1))] n (SQi n (fun z => (z = 0 ∨ z = 2))) := by
  refine sK (fun M h => tst_X0_negative h) (fun M0 => ?_)
  refine sblk (hv := false) kbl_X0_negative kbs_X0_negative (pc := 0) (pe := 17) (rk := 0) (i := 0) rfl (by decide +kernel) ?_
  simp only [kb_X0_negative_0, s_ald_1, s_iv0, tfr_0, tfr_1, tfr_2, tfr_3, tfr_4, s_ald_0, s_gf_2_5, s_iv1, s_is1, s_ire, trg, LR, IR, true_and, and_true, Nat.reduceAdd, Nat.reduceSub, eq_self]
  refine ⟨vok_of (s := 4) (by assumption) rfl, ?_⟩
  refine sc_n (D := 1) (fun d' hd' => k_X2_turn (by assumption) (by omega) hd') (by omega) ?_
  intro h2_
  try simp only [s_ald_1, s_ald_0, s_gf_2_5, s_iv1, tfr_0, tfr_1, tfr_2, tfr_3, tfr_4, s_is1, s_ire, trg, LR, IR, true_and, and_true, Nat.reduceAdd, Nat.reduceSub, eq_self]
  refine ⟨by assumption, fun x5_ h5_ => ?_⟩
  refine ⟨vok_of (s := 4) (by assumption) rfl, ?_⟩
  refine sc_n (D := 1) (fun d' hd' => k_X2_roundOut (by assumption) (by omega) (by omega) hd') (by omega) ?_
  intro h6_
  try simp only [s_ald_1, s_is1, tfr_0, tfr_1, tfr_2, tfr_3, tfr_4, s_ire, trg, LR, IR, true_and, and_true, Nat.reduceAdd, Nat.reduceSub, eq_self]
  refine sc_i (D := 2) (fun d' hd' => k_X0_judged (by assumption) hd') (by omega) ?_
  intro x8_ h8_
  try simp only [s_ire, trg, LR, IR, true_and, and_true, Nat.reduceAdd, Nat.reduceSub, eq_self]
  exact fun _ _ _ _ => ⟨_, rfl, rfl, by omega⟩
theorem k_X1_isNegative {e : tE} {b : Nat} {d n : Nat} {r : Nat} (h0 : cl r 3) (hd : 0 ≤ d) : sC e b d 774 [.inr (.inr (.inl r))] n (SQi n (fun z => (0 ≤ z ∧ z ≤ 1))) := by
  refine sK (fun M h => tst_X1_isNegative h) (fun M0 => ?_)
  have n14 : ∀ (is0_14 : Int), (0 ≤ is0_14 ∧ is0_14 ≤ 1) → sT e b M0 d 774 14 [] [some (.inr (.inr (.inl r)))] [.inl is0_14] n (fun r n' _ => (SQi n (fun z => (0 ≤ z ∧ z ≤ 1))) r n') := by
    intro is0_14 y14_0
    refine sblk (hv := false) kbl_X1_isNegative kbs_X1_isNegative (pc := 14) (pe := 15) (rk := 3) (i := 2) rfl (by decide +kernel) ?_
    simp only [kb_X1_isNegative_14, s_ire, trg, LR, IR, true_and, and_true, Nat.reduceAdd, Nat.reduceSub, eq_self]
    exact ⟨by omega, fun _ _ _ _ => ⟨_, rfl, rfl, by omega⟩⟩
  refine sblk (hv := false) kbl_X1_isNegative kbs_X1_isNegative (pc := 0) (pe := 13) (rk := 3) (i := 0) rfl (by decide +kernel) ?_
  simp only [kb_X1_isNegative_0, s_ald_0, s_gf_3_0, s_lc0, s_lcmp, ne_eq, tlc_r, tlc_eq, tlc_lt, tlc_ge, tlc_gt, tlc_le, s_if_ge, s_ic, s_goto, LR, IR, true_and, and_true, Nat.reduceAdd, Nat.reduceSub, eq_self]
  refine ⟨by assumption, fun x3_ h3_ => ?_⟩
  refine ⟨by omega, ?_⟩
  refine ⟨fun h6_ => ?_, fun h6_ => ?_⟩
  · refine sT_w ?_
    refine sblk (hv := false) kbl_X1_isNegative kbs_X1_isNegative (pc := 13) (pe := 14) (rk := 3) (i := 1) rfl (by decide +kernel) ?_
    simp only [kb_X1_isNegative_13, s_ic, s_nil, LR, IR, true_and, and_true, Nat.reduceAdd, Nat.reduceSub, eq_self]
    exact sT_w (n14 _ (by omega))
  exact sT_w (n14 _ (by omega))
theorem k_X1_isPositive {e : tE} {b : Nat} {d n : Nat} {r : Nat} (h0 : cl r 3) (hd : 0 ≤ d) : sC e b d 775 [.inr (.inr (.inl r))] n (SQi n (fun z => (0 ≤ z ∧ z ≤ 1))) := by
  refine sK (fun M h => tst_X1_isPositive h) (fun M0 => ?_)
  have n32 : ∀ (is0_32 : Int), (0 ≤ is0_32 ∧ is0_32 ≤ 1) → sT e b M0 d 775 32 [] [some (.inr (.inr (.inl r)))] [.inl is0_32] n (fun r n' _ => (SQi n (fun z => (0 ≤ z ∧ z ≤ 1))) r n') := by
    intro is0_32 y32_0
    refine sblk (hv := false) kbl_X1_isPositive kbs_X1_isPositive (pc := 32) (pe := 33) (rk := 3) (i := 3) rfl (by decide +kernel) ?_
    simp only [kb_X1_isPositive_32, s_ire, trg, LR, IR, true_and, and_true, Nat.reduceAdd, Nat.reduceSub, eq_self]
    exact ⟨by omega, fun _ _ _ _ => ⟨_, rfl, rfl, by omega⟩⟩
  have n27 : sT e b M0 d 775 27 [] [some (.inr (.inr (.inl r)))] [] n (fun r n' _ => (SQi n (fun z => (0 ≤ z ∧ z ≤ 1))) r n') := by
    refine sblk (hv := false) kbl_X1_isPositive kbs_X1_isPositive (pc := 27) (pe := 31) (rk := 3) (i := 1) rfl (by decide +kernel) ?_
    simp only [kb_X1_isPositive_27, s_ic, s_goto, LR, IR, true_and, and_true, Nat.reduceAdd, Nat.reduceSub, eq_self]
    exact sT_w (n32 _ (by omega))
  have n31 : sT e b M0 d 775 31 [] [some (.inr (.inr (.inl r)))] [] n (fun r n' _ => (SQi n (fun z => (0 ≤ z ∧ z ≤ 1))) r n') := by
    refine sblk (hv := false) kbl_X1_isPositive kbs_X1_isPositive (pc := 31) (pe := 32) (rk := 3) (i := 2) rfl (by decide +kernel) ?_
    simp only [kb_X1_isPositive_31, s_ic, s_nil, LR, IR, true_and, and_true, Nat.reduceAdd, Nat.reduceSub, eq_self]
    exact sT_w (n32 _ (by omega))
  refine sblk (hv := false) kbl_X1_isPositive kbs_X1_isPositive (pc := 0) (pe := 27) (rk := 3) (i := 0) rfl (by decide +kernel) ?_
  simp only [kb_X1_isPositive_0, s_ald_0, s_gf_3_0, s_lc0, s_lcmp, ne_eq, tlc_r, tlc_eq, tlc_lt, tlc_ge, tlc_gt, tlc_le, s_if_gt, s_if_ne, s_gf_3_1, s_if_le, s_nil, LR, IR, true_and, and_true, Nat.reduceAdd, Nat.reduceSub, eq_self]
  refine ⟨by assumption, fun x6_ h6_ => ?_⟩
  refine ⟨by omega, ?_⟩
  refine ⟨fun h9_ => ?_, fun h9_ => ?_⟩
  · exact sT_w (n27)
  refine ⟨by assumption, fun x11_ h11_ => ?_⟩
  refine ⟨by omega, ?_⟩
  refine ⟨fun h14_ => ?_, fun h14_ => ?_⟩
  · exact sT_w (n31)
  refine ⟨by assumption, fun x16_ h16_ => ?_⟩
  refine ⟨by omega, ?_⟩
  refine ⟨fun h19_ => ?_, fun h19_ => ?_⟩
  · exact sT_w (n31)
  exact sT_w (n27)
theorem k_X2_between {e : tE} {b : Nat} {d n : Nat} {r : Nat} {x1 : Nat} {x2 : Nat} (h0 : cl r 4) (h1 : cl x1 3) (h2 : cl x2 3) (hb : b < 2 ∨ b = 3) (hd : 1 ≤ d) : sC e b d 1025 [.inr (.inr (.inl r)), .inr (.inr (.inl x1)), .inr (.inr (.inl x2))] n (SQn n (True)) := by
  refine sK (fun M h => tst_X2_between h) (fun M0 => ?_)
  refine sblk (hv := false) kbl_X2_between kbs_X2_between (pc := 0) (pe := 17) (rk := 9) (i := 0) rfl (by decide +kernel) ?_
  simp only [kb_X2_between_0, s_ald_0, s_gf_4_0, s_ald_1, s_iv1, tfr_0, tfr_1, tfr_2, tfr_3, tfr_4, s_gf_4_1, s_ald_2, s_re, LR, IR, true_and, and_true, Nat.reduceAdd, Nat.reduceSub, eq_self]
  refine ⟨by assumption, fun x2_ h2_ => ?_⟩
  refine ⟨vok_of (s := 3) (by assumption) rfl, ?_⟩
  refine sc_n (D := 0) (fun d' hd' => k_X1_copy (by assumption) (by assumption) (by omega) hd') (by omega) ?_
  intro h4_
  try simp only [s_ald_0, s_gf_4_1, s_ald_2, s_iv1, tfr_0, tfr_1, tfr_2, tfr_3, tfr_4, s_re, LR, IR, true_and, and_true, Nat.reduceAdd, Nat.reduceSub, eq_self]
  refine ⟨by assumption, fun x6_ h6_ => ?_⟩
  refine ⟨vok_of (s := 3) (by assumption) rfl, ?_⟩
  refine sc_n (D := 0) (fun d' hd' => k_X1_copy (by assumption) (by assumption) (by omega) hd') (by omega) ?_
  intro h8_
  try simp only [s_re, LR, IR, true_and, and_true, Nat.reduceAdd, Nat.reduceSub, eq_self]
  exact fun _ _ _ _ => ⟨rfl, rfl, by first | trivial | omega⟩
theorem k_X1_isBelow {e : tE} {b : Nat} {d n : Nat} {r : Nat} {x1 : Nat} (h0 : cl r 3) (h1 : cl x1 3) (hd : 0 ≤ d) : sC e b d 773 [.inr (.inr (.inl r)), .inr (.inr (.inl x1))] n (SQi n (fun z => (0 ≤ z ∧ z ≤ 1))) := by
  refine sK (fun M h => tst_X1_isBelow h) (fun M0 => ?_)
  have n41 : ∀ (is0_41 : Int), (0 ≤ is0_41 ∧ is0_41 ≤ 1) → sT e b M0 d 773 41 [] [some (.inr (.inr (.inl r))), some (.inr (.inr (.inl x1)))] [.inl is0_41] n (fun r n' _ => (SQi n (fun z => (0 ≤ z ∧ z ≤ 1))) r n') := by
    intro is0_41 y41_0
    refine sblk (hv := false) kbl_X1_isBelow kbs_X1_isBelow (pc := 41) (pe := 42) (rk := 3) (i := 3) rfl (by decide +kernel) ?_
    simp only [kb_X1_isBelow_41, s_ire, trg, LR, IR, true_and, and_true, Nat.reduceAdd, Nat.reduceSub, eq_self]
    exact ⟨by omega, fun _ _ _ _ => ⟨_, rfl, rfl, by omega⟩⟩
  have n36 : sT e b M0 d 773 36 [] [some (.inr (.inr (.inl r))), some (.inr (.inr (.inl x1)))] [] n (fun r n' _ => (SQi n (fun z => (0 ≤ z ∧ z ≤ 1))) r n') := by
    refine sblk (hv := false) kbl_X1_isBelow kbs_X1_isBelow (pc := 36) (pe := 40) (rk := 3) (i := 1) rfl (by decide +kernel) ?_
    simp only [kb_X1_isBelow_36, s_ic, s_goto, LR, IR, true_and, and_true, Nat.reduceAdd, Nat.reduceSub, eq_self]
    exact sT_w (n41 _ (by omega))
  have n40 : sT e b M0 d 773 40 [] [some (.inr (.inr (.inl r))), some (.inr (.inr (.inl x1)))] [] n (fun r n' _ => (SQi n (fun z => (0 ≤ z ∧ z ≤ 1))) r n') := by
    refine sblk (hv := false) kbl_X1_isBelow kbs_X1_isBelow (pc := 40) (pe := 41) (rk := 3) (i := 2) rfl (by decide +kernel) ?_
    simp only [kb_X1_isBelow_40, s_ic, s_nil, LR, IR, true_and, and_true, Nat.reduceAdd, Nat.reduceSub, eq_self]
    exact sT_w (n41 _ (by omega))
  refine sblk (hv := false) kbl_X1_isBelow kbs_X1_isBelow (pc := 0) (pe := 36) (rk := 3) (i := 0) rfl (by decide +kernel) ?_
  simp only [kb_X1_isBelow_0, s_ald_0, s_gf_3_0, s_ald_1, s_lcmp, ne_eq, tlc_r, tlc_eq, tlc_lt, tlc_ge, tlc_gt, tlc_le, s_if_lt, s_if_ne, s_gf_3_1, s_if_ge, s_nil, LR, IR, true_and, and_true, Nat.reduceAdd, Nat.reduceSub, eq_self]
  refine ⟨by assumption, fun x6_ h6_ => ?_⟩
  refine ⟨by assumption, fun x8_ h8_ => ?_⟩
  refine ⟨by omega, ?_⟩
  refine ⟨fun h10_ => ?_, fun h10_ => ?_⟩
  · exact sT_w (n36)
  refine ⟨by assumption, fun x12_ h12_ => ?_⟩
  refine ⟨by assumption, fun x14_ h14_ => ?_⟩
  refine ⟨by omega, ?_⟩
  refine ⟨fun h16_ => ?_, fun h16_ => ?_⟩
  · exact sT_w (n40)
  refine ⟨by assumption, fun x18_ h18_ => ?_⟩
  refine ⟨by assumption, fun x20_ h20_ => ?_⟩
  refine ⟨by omega, ?_⟩
  refine ⟨fun h22_ => ?_, fun h22_ => ?_⟩
  · exact sT_w (n40)
  exact sT_w (n36)
theorem k_X2_dropSigns {e : tE} {b : Nat} {d n : Nat} {r : Nat} (h0 : cl r 4) (hb : b < 2 ∨ b = 3) (hd : 2 ≤ d) : sC e b d 1028 [.inr (.inr (.inl r))] n (SQn n (True)) := by
  refine sK (fun M h => tst_X2_dropSigns h) (fun M0 => ?_)
  refine sblk (hv := false) kbl_X2_dropSigns kbs_X2_dropSigns (pc := 0) (pe := 11) (rk := 9) (i := 0) rfl (by decide +kernel) ?_
  simp only [kb_X2_dropSigns_0, s_ald_0, s_gf_4_0, s_iv0, tfr_0, tfr_1, tfr_2, tfr_3, tfr_4, s_if_ne, s_re, LR, IR, true_and, and_true, Nat.reduceAdd, Nat.reduceSub, eq_self]
  refine ⟨by assumption, fun x2_ h2_ => ?_⟩
  refine ⟨vok_of (s := 3) (by assumption) rfl, ?_⟩
  refine sc_i (D := 0) (fun d' hd' => k_X1_isNegative (by assumption) hd') (by omega) ?_
  intro x3_ h3_
  try simp only [s_if_ne, s_re, LR, IR, true_and, and_true, Nat.reduceAdd, Nat.reduceSub, eq_self]
  refine ⟨by omega, fun h4_ => ?_, fun h4_ => ?_⟩
  · refine sT_w ?_
    refine sblk (hv := false) kbl_X2_dropSigns kbs_X2_dropSigns (pc := 11) (pe := 26) (rk := 9) (i := 1) rfl (by decide +kernel) ?_
    simp only [kb_X2_dropSigns_11, s_ald_0, s_gf_4_1, s_iv0, tfr_0, tfr_1, tfr_2, tfr_3, tfr_4, s_if_ne, s_re, LR, IR, true_and, and_true, Nat.reduceAdd, Nat.reduceSub, eq_self]
    refine ⟨by assumption, fun x6_ h6_ => ?_⟩
    refine ⟨vok_of (s := 3) (by assumption) rfl, ?_⟩
    refine sc_i (D := 0) (fun d' hd' => k_X1_isPositive (by assumption) hd') (by omega) ?_
    intro x7_ h7_
    try simp only [s_if_ne, s_ald_0, s_iv0, tfr_0, tfr_1, tfr_2, tfr_3, tfr_4, s_re, LR, IR, true_and, and_true, Nat.reduceAdd, Nat.reduceSub, eq_self]
    refine ⟨by omega, fun h8_ => ?_, fun h8_ => ?_⟩
    · have n58 : sT e b M0 d 1028 58 [] [some (.inr (.inr (.inl r)))] [] n (fun r n' _ => (SQn n (True)) r n') := by
        refine sblk (hv := false) kbl_X2_dropSigns kbs_X2_dropSigns (pc := 58) (pe := 68) (rk := 9) (i := 3) rfl (by decide +kernel) ?_
        simp only [kb_X2_dropSigns_58, s_ald_0, s_gf_4_0, s_lc0, s_iv2, tfr_0, tfr_1, tfr_2, tfr_3, tfr_4, s_re, LR, IR, true_and, and_true, Nat.reduceAdd, Nat.reduceSub, eq_self]
        refine ⟨by assumption, fun x10_ h10_ => ?_⟩
        refine ⟨vok_of (s := 3) (by assumption) rfl, ?_⟩
        refine sc_n (D := 0) (fun d' hd' => k_X1_assign (by assumption) (by omega) (by omega) (by omega) hd') (by omega) ?_
        intro h13_
        try simp only [s_re, LR, IR, true_and, and_true, Nat.reduceAdd, Nat.reduceSub, eq_self]
        exact fun _ _ _ _ => ⟨rfl, rfl, by first | trivial | omega⟩
      refine sT_w ?_
      refine sblk (hv := false) kbl_X2_dropSigns kbs_X2_dropSigns (pc := 26) (pe := 58) (rk := 9) (i := 2) rfl (by decide +kernel) ?_
      simp only [kb_X2_dropSigns_26, s_ald_0, s_gf_4_0, s_iv0, tfr_0, tfr_1, tfr_2, tfr_3, tfr_4, s_gf_4_1, s_iv1, s_if_eq, s_nil, LR, IR, true_and, and_true, Nat.reduceAdd, Nat.reduceSub, eq_self]
      refine ⟨by assumption, fun x16_ h16_ => ?_⟩
      refine ⟨vok_of (s := 3) (by assumption) rfl, ?_⟩
      refine sc_n (D := 0) (fun d' hd' => k_X1_turn (by assumption) (by omega) hd') (by omega) ?_
      intro h17_
      try simp only [s_ald_0, s_gf_4_1, s_gf_4_0, s_iv1, tfr_0, tfr_1, tfr_2, tfr_3, tfr_4, s_if_eq, s_nil, LR, IR, true_and, and_true, Nat.reduceAdd, Nat.reduceSub, eq_self]
      refine ⟨by assumption, fun x19_ h19_ => ?_⟩
      refine ⟨by assumption, fun x21_ h21_ => ?_⟩
      refine ⟨vok_of (s := 3) (by assumption) rfl, ?_⟩
      refine sc_i (D := 0) (fun d' hd' => k_X1_isBelow (by assumption) (by assumption) hd') (by omega) ?_
      intro x22_ h22_
      try simp only [s_if_eq, s_ald_0, s_gf_4_1, s_gf_4_0, s_iv1, tfr_0, tfr_1, tfr_2, tfr_3, tfr_4, s_nil, LR, IR, true_and, and_true, Nat.reduceAdd, Nat.reduceSub, eq_self]
      refine ⟨by omega, fun h23_ => ?_, fun h23_ => ?_⟩
      · exact sT_w (n58)
      refine ⟨by assumption, fun x25_ h25_ => ?_⟩
      refine ⟨by assumption, fun x27_ h27_ => ?_⟩
      refine ⟨vok_of (s := 3) (by assumption) rfl, ?_⟩
      refine sc_n (D := 0) (fun d' hd' => k_X1_copy (by assumption) (by assumption) (by omega) hd') (by omega) ?_
      intro h28_
      try simp only [s_nil, LR, IR, true_and, and_true, Nat.reduceAdd, Nat.reduceSub, eq_self]
      exact sT_w (n58)
    refine ⟨vok_of (s := 4) (by assumption) rfl, ?_⟩
    refine sc_n (D := 1) (fun d' hd' => k_X2_turn (by assumption) (by omega) hd') (by omega) ?_
    intro h30_
    try simp only [s_re, LR, IR, true_and, and_true, Nat.reduceAdd, Nat.reduceSub, eq_self]
    exact fun _ _ _ _ => ⟨rfl, rfl, by first | trivial | omega⟩
  exact fun _ _ _ _ => ⟨rfl, rfl, by first | trivial | omega⟩
theorem k_J13_compare_74951 {e : tE} {b : Nat} {d n : Nat} {x1 : Int} {x2 : Int} (h0 : (-9223372036854775808 ≤ x1 ∧ x1 < 9223372036854775808)) (h1 : (-9223372036854775808 ≤ x2 ∧ x2 < 9223372036854775808)) (hd : 0 ≤ d) : sC e b d 4096 [.inr (.inl x1), .inr (.inl x2)] n (SQi n (fun z => (-1 ≤ z ∧ z ≤ 1))) := by
  refine sK (fun M h => tst_J13_compare_74951 h) (fun M0 => ?_)
  have n21 : ∀ (is0_21 : Int), (-1 ≤ is0_21 ∧ is0_21 ≤ 1) → sT e b M0 d 4096 21 [] [some (.inr (.inl x1)), none, some (.inr (.inl x2)), none] [.inl is0_21] n (fun r n' _ => (SQi n (fun z => (-1 ≤ z ∧ z ≤ 1))) r n') := by
    intro is0_21 y21_0
    refine sblk (hv := false) kbl_J13_compare_74951 kbs_J13_compare_74951 (pc := 21) (pe := 22) (rk := 0) (i := 3) rfl (by decide +kernel) ?_
    simp only [kb_J13_compare_74951_21, s_ire, trg, LR, IR, true_and, and_true, Nat.reduceAdd, Nat.reduceSub, eq_self]
    exact fun _ _ _ _ => ⟨_, rfl, rfl, by omega⟩
  refine sblk (hv := false) kbl_J13_compare_74951 kbs_J13_compare_74951 (pc := 0) (pe := 10) (rk := 0) (i := 0) rfl (by decide +kernel) ?_
  simp only [kb_J13_compare_74951_0, s_lld_0, s_lld_2, s_lcmp, ne_eq, tlc_r, tlc_eq, tlc_lt, tlc_ge, tlc_gt, tlc_le, s_if_ge, s_ic, s_goto, LR, IR, true_and, and_true, Nat.reduceAdd, Nat.reduceSub, eq_self]
  refine ⟨by omega, ?_⟩
  refine ⟨fun h5_ => ?_, fun h5_ => ?_⟩
  · refine sT_w ?_
    refine sblk (hv := false) kbl_J13_compare_74951 kbs_J13_compare_74951 (pc := 10) (pe := 20) (rk := 0) (i := 1) rfl (by decide +kernel) ?_
    simp only [kb_J13_compare_74951_10, s_lld_0, s_lld_2, s_lcmp, ne_eq, tlc_r, tlc_eq, tlc_lt, tlc_ge, tlc_gt, tlc_le, s_if_ne, s_ic, s_goto, LR, IR, true_and, and_true, Nat.reduceAdd, Nat.reduceSub, eq_self]
    refine ⟨by omega, ?_⟩
    refine ⟨fun h9_ => ?_, fun h9_ => ?_⟩
    · refine sT_w ?_
      refine sblk (hv := false) kbl_J13_compare_74951 kbs_J13_compare_74951 (pc := 20) (pe := 21) (rk := 0) (i := 2) rfl (by decide +kernel) ?_
      simp only [kb_J13_compare_74951_20, s_ic, s_nil, LR, IR, true_and, and_true, Nat.reduceAdd, Nat.reduceSub, eq_self]
      exact sT_w (n21 _ (by omega))
    exact sT_w (n21 _ (by omega))
  exact sT_w (n21 _ (by omega))
theorem k_X1_against {e : tE} {b : Nat} {d n : Nat} {r : Nat} {x1 : Nat} (h0 : cl r 3) (h1 : cl x1 3) (hd : 1 ≤ d) : sC e b d 769 [.inr (.inr (.inl r)), .inr (.inr (.inl x1))] n (SQi n (fun z => (-1 ≤ z ∧ z ≤ 1))) := by
  refine sK (fun M h => tst_X1_against h) (fun M0 => ?_)
  have n37 : ∀ (is0_37 : Int), (-1 ≤ is0_37 ∧ is0_37 ≤ 1) → sT e b M0 d 769 37 [] [some (.inr (.inr (.inl r))), some (.inr (.inr (.inl x1)))] [.inl is0_37] n (fun r n' _ => (SQi n (fun z => (-1 ≤ z ∧ z ≤ 1))) r n') := by
    intro is0_37 y37_0
    refine sblk (hv := false) kbl_X1_against kbs_X1_against (pc := 37) (pe := 38) (rk := 0) (i := 2) rfl (by decide +kernel) ?_
    simp only [kb_X1_against_37, s_ire, trg, LR, IR, true_and, and_true, Nat.reduceAdd, Nat.reduceSub, eq_self]
    exact fun _ _ _ _ => ⟨_, rfl, rfl, by omega⟩
  refine sblk (hv := false) kbl_X1_against kbs_X1_against (pc := 0) (pe := 26) (rk := 0) (i := 0) rfl (by decide +kernel) ?_
  simp only [kb_X1_against_0, s_ald_0, s_gf_3_0, s_ald_1, s_lcmp, ne_eq, tlc_r, tlc_eq, tlc_lt, tlc_ge, tlc_gt, tlc_le, s_if_eq, s_is2, tfr_0, tfr_1, tfr_2, tfr_3, tfr_4, s_goto, LR, IR, true_and, and_true, Nat.reduceAdd, Nat.reduceSub, eq_self]
  refine ⟨by assumption, fun x3_ h3_ => ?_⟩
  refine ⟨by assumption, fun x5_ h5_ => ?_⟩
  refine ⟨by omega, ?_⟩
  refine ⟨fun h7_ => ?_, fun h7_ => ?_⟩
  · refine sT_w ?_
    refine sblk (hv := false) kbl_X1_against kbs_X1_against (pc := 26) (pe := 37) (rk := 0) (i := 1) rfl (by decide +kernel) ?_
    simp only [kb_X1_against_26, s_ald_0, s_gf_3_1, s_ald_1, s_is2, tfr_0, tfr_1, tfr_2, tfr_3, tfr_4, s_nil, LR, IR, true_and, and_true, Nat.reduceAdd, Nat.reduceSub, eq_self]
    refine ⟨by assumption, fun x9_ h9_ => ?_⟩
    refine ⟨by assumption, fun x11_ h11_ => ?_⟩
    refine sc_i (D := 0) (fun d' hd' => k_J13_compare_74951 (by omega) (by omega) hd') (by omega) ?_
    intro x12_ h12_
    try simp only [s_nil, LR, IR, true_and, and_true, Nat.reduceAdd, Nat.reduceSub, eq_self]
    exact sT_w (n37 _ (by omega))
  refine ⟨by assumption, fun x14_ h14_ => ?_⟩
  refine ⟨by assumption, fun x16_ h16_ => ?_⟩
  refine sc_i (D := 0) (fun d' hd' => k_J13_compare_74951 (by omega) (by omega) hd') (by omega) ?_
  intro x17_ h17_
  try simp only [s_goto, LR, IR, true_and, and_true, Nat.reduceAdd, Nat.reduceSub, eq_self]
  exact sT_w (n37 _ (by omega))
theorem k_X2_isSingle {e : tE} {b : Nat} {d n : Nat} {r : Nat} (h0 : cl r 4) (hd : 2 ≤ d) : sC e b d 1031 [.inr (.inr (.inl r))] n (SQi n (fun z => (0 ≤ z ∧ z ≤ 1))) := by
  refine sK (fun M h => tst_X2_isSingle h) (fun M0 => ?_)
  have n19 : ∀ (is0_19 : Int), (0 ≤ is0_19 ∧ is0_19 ≤ 1) → sT e b M0 d 1031 19 [] [some (.inr (.inr (.inl r)))] [.inl is0_19] n (fun r n' _ => (SQi n (fun z => (0 ≤ z ∧ z ≤ 1))) r n') := by
    intro is0_19 y19_0
    refine sblk (hv := false) kbl_X2_isSingle kbs_X2_isSingle (pc := 19) (pe := 20) (rk := 3) (i := 2) rfl (by decide +kernel) ?_
    simp only [kb_X2_isSingle_19, s_ire, trg, LR, IR, true_and, and_true, Nat.reduceAdd, Nat.reduceSub, eq_self]
    exact ⟨by omega, fun _ _ _ _ => ⟨_, rfl, rfl, by omega⟩⟩
  refine sblk (hv := false) kbl_X2_isSingle kbs_X2_isSingle (pc := 0) (pe := 18) (rk := 3) (i := 0) rfl (by decide +kernel) ?_
  simp only [kb_X2_isSingle_0, s_ald_0, s_gf_4_0, s_gf_4_1, s_iv1, tfr_0, tfr_1, tfr_2, tfr_3, tfr_4, s_if_ne, s_ic, s_goto, LR, IR, true_and, and_true, Nat.reduceAdd, Nat.reduceSub, eq_self]
  refine ⟨by assumption, fun x3_ h3_ => ?_⟩
  refine ⟨by assumption, fun x5_ h5_ => ?_⟩
  refine ⟨vok_of (s := 3) (by assumption) rfl, ?_⟩
  refine sc_i (D := 1) (fun d' hd' => k_X1_against (by assumption) (by assumption) hd') (by omega) ?_
  intro x6_ h6_
  try simp only [s_if_ne, s_ic, s_goto, LR, IR, true_and, and_true, Nat.reduceAdd, Nat.reduceSub, eq_self]
  refine ⟨by omega, fun h7_ => ?_, fun h7_ => ?_⟩
  · refine sT_w ?_
    refine sblk (hv := false) kbl_X2_isSingle kbs_X2_isSingle (pc := 18) (pe := 19) (rk := 3) (i := 1) rfl (by decide +kernel) ?_
    simp only [kb_X2_isSingle_18, s_ic, s_nil, LR, IR, true_and, and_true, Nat.reduceAdd, Nat.reduceSub, eq_self]
    exact sT_w (n19 _ (by omega))
  exact sT_w (n19 _ (by omega))
theorem k_X1_isZero {e : tE} {b : Nat} {d n : Nat} {r : Nat} (h0 : cl r 3) (hd : 0 ≤ d) : sC e b d 777 [.inr (.inr (.inl r))] n (SQi n (fun z => (0 ≤ z ∧ z ≤ 1))) := by
  refine sK (fun M h => tst_X1_isZero h) (fun M0 => ?_)
  have n23 : ∀ (is0_23 : Int), (0 ≤ is0_23 ∧ is0_23 ≤ 1) → sT e b M0 d 777 23 [] [some (.inr (.inr (.inl r)))] [.inl is0_23] n (fun r n' _ => (SQi n (fun z => (0 ≤ z ∧ z ≤ 1))) r n') := by
    intro is0_23 y23_0
    refine sblk (hv := false) kbl_X1_isZero kbs_X1_isZero (pc := 23) (pe := 24) (rk := 3) (i := 2) rfl (by decide +kernel) ?_
    simp only [kb_X1_isZero_23, s_ire, trg, LR, IR, true_and, and_true, Nat.reduceAdd, Nat.reduceSub, eq_self]
    exact ⟨by omega, fun _ _ _ _ => ⟨_, rfl, rfl, by omega⟩⟩
  have n22 : sT e b M0 d 777 22 [] [some (.inr (.inr (.inl r)))] [] n (fun r n' _ => (SQi n (fun z => (0 ≤ z ∧ z ≤ 1))) r n') := by
    refine sblk (hv := false) kbl_X1_isZero kbs_X1_isZero (pc := 22) (pe := 23) (rk := 3) (i := 1) rfl (by decide +kernel) ?_
    simp only [kb_X1_isZero_22, s_ic, s_nil, LR, IR, true_and, and_true, Nat.reduceAdd, Nat.reduceSub, eq_self]
    exact sT_w (n23 _ (by omega))
  refine sblk (hv := false) kbl_X1_isZero kbs_X1_isZero (pc := 0) (pe := 22) (rk := 3) (i := 0) rfl (by decide +kernel) ?_
  simp only [kb_X1_isZero_0, s_ald_0, s_gf_3_0, s_lc0, s_lcmp, ne_eq, tlc_r, tlc_eq, tlc_lt, tlc_ge, tlc_gt, tlc_le, s_if_ne, s_gf_3_1, s_ic, s_goto, LR, IR, true_and, and_true, Nat.reduceAdd, Nat.reduceSub, eq_self]
  refine ⟨by assumption, fun x4_ h4_ => ?_⟩
  refine ⟨by omega, ?_⟩
  refine ⟨fun h7_ => ?_, fun h7_ => ?_⟩
  · exact sT_w (n22)
  refine ⟨by assumption, fun x9_ h9_ => ?_⟩
  refine ⟨by omega, ?_⟩
  refine ⟨fun h12_ => ?_, fun h12_ => ?_⟩
  · exact sT_w (n22)
  exact sT_w (n23 _ (by omega))
theorem k_X4_clear {e : tE} {b : Nat} {d n : Nat} {r : Nat} (h0 : cl r 6) (hb : b < 2) (hd : 0 ≤ d) : sC e b d 1537 [.inr (.inr (.inl r))] n (SQn n (True)) := by
  refine sK (fun M h => tst_X4_clear h) (fun M0 => ?_)
  have n2 : ∀ (fu : Nat) (i1_2 : Int), 8 - i1_2 + 1 ≤ (fu : Int) → (0 ≤ i1_2 ∧ i1_2 ≤ 8) → sT e b M0 d 1537 2 [] [some (.inr (.inr (.inl r))), some (.inl i1_2)] [] n (fun r n' _ => (SQn n (True)) r n') := by
    intro fu
    induction fu with
    | zero =>
      intro i1_2 hm y2_0
      exfalso; omega
    | succ fu ih =>
      intro i1_2 hm y2_0
      have ih2 := ih
      clear ih
      refine sblk (hv := false) kbl_X4_clear kbs_X4_clear (pc := 2) (pe := 21) (rk := 9) (i := 1) rfl (by decide +kernel) ?_
      simp only [kb_X4_clear_2, s_ild_1, s_bi, s_ic_ge, s_ald_0, s_gf_6_0, s_lc0, s_las, s_inc1, tkl_n, tkl_i, tkl_l, tkl_r, s_goto, LR, IR, true_and, and_true, Nat.reduceAdd, Nat.reduceSub, eq_self]
      refine ⟨by omega, fun h3_ => ?_, fun h3_ => ?_⟩
      · refine sT_w ?_
        refine sblk (hv := false) kbl_X4_clear kbs_X4_clear (pc := 21) (pe := 22) (rk := 9) (i := 2) rfl (by decide +kernel) ?_
        simp only [kb_X4_clear_21, s_re, LR, IR, true_and, and_true, Nat.reduceAdd, Nat.reduceSub, eq_self]
        exact fun _ _ _ _ => ⟨rfl, rfl, by first | trivial | omega⟩
      refine ⟨by assumption, fun x6_ h6_ => ?_⟩
      refine ⟨by omega, aok_23 (by assumption) (by omega), ?_⟩
      exact sT_w (ih2 _ (by omega) (by omega))
  refine sblk (hv := false) kbl_X4_clear kbs_X4_clear (pc := 0) (pe := 2) (rk := 9) (i := 0) rfl (by decide +kernel) ?_
  simp only [kb_X4_clear_0, s_ic, s_ist_1, tkl_n, tkl_i, tkl_l, tkl_r, s_nil, LR, IR, true_and, and_true, Nat.reduceAdd, Nat.reduceSub, eq_self]
  exact sT_w (n2 4294967400 _ (by omega) (by omega))
theorem k_X3_begin {e : tE} {b : Nat} {d n : Nat} {r : Nat} {x1 : Int} (h0 : cl r 5) (h1 : (0 ≤ x1 ∧ x1 ≤ 1)) (hb : b < 2) (hd : 1 ≤ d) : sC e b d 1282 [.inr (.inr (.inl r)), .inl x1] n (SQn n (True)) := by
  refine sK (fun M h => tst_X3_begin h) (fun M0 => ?_)
  refine sblk (hv := false) kbl_X3_begin kbs_X3_begin (pc := 0) (pe := 18) (rk := 9) (i := 0) rfl (by decide +kernel) ?_
  simp only [kb_X3_begin_0, s_ald_0, s_ic, s_pf_5_1, s_ild_1, s_pf_5_2, s_gf_5_6, s_iv0, tfr_0, tfr_1, tfr_2, tfr_3, tfr_4, s_re, LR, IR, true_and, and_true, Nat.reduceAdd, Nat.reduceSub, eq_self]
  refine ⟨by omega, by assumption, by omega, ?_⟩
  refine ⟨by omega, by assumption, by omega, ?_⟩
  refine ⟨by assumption, fun x8_ h8_ => ?_⟩
  refine ⟨vok_of (s := 6) (by assumption) rfl, ?_⟩
  refine sc_n (D := 0) (fun d' hd' => k_X4_clear (by assumption) (by omega) hd') (by omega) ?_
  intro h9_
  try simp only [s_re, LR, IR, true_and, and_true, Nat.reduceAdd, Nat.reduceSub, eq_self]
  exact fun _ _ _ _ => ⟨rfl, rfl, by first | trivial | omega⟩
theorem k_X1_toMultiple {e : tE} {b : Nat} {d n : Nat} {r : Nat} {x1 : Nat} {x2 : Int} (h0 : cl r 3) (h1 : cl x1 3) (h2 : (-9223372036854775808 ≤ x2 ∧ x2 < 9223372036854775808)) (hb : b < 2 ∨ b = 3) (hd : 0 ≤ d) : sC e b d 782 [.inr (.inr (.inl r)), .inr (.inr (.inl x1)), .inr (.inl x2)] n (SQn n (True)) := by
  refine sK (fun M h => tst_X1_toMultiple h) (fun M0 => ?_)
  refine sblk (hv := false) kbl_X1_toMultiple kbs_X1_toMultiple (pc := 0) (pe := 36) (rk := 9) (i := 0) rfl (by decide +kernel) ?_
  simp only [kb_X1_toMultiple_0, s_ald_1, s_gf_3_1, s_lld_2, s_lmul, s_lst4, tkl_n, tkl_i, tkl_l, tkl_r, s_ald_0, s_gf_3_0, s_lld4, s_ld2, s_ldiv, s_ladd, s_pf_3_0, s_lrem, s_pf_3_1, s_re, LR, IR, true_and, and_true, Nat.reduceAdd, Nat.reduceSub, eq_self]
  refine ⟨by assumption, fun x2_ h2_ => ?_⟩
  intro x4_ h4_
  refine ⟨by assumption, fun x8_ h8_ => ?_⟩
  intro x10_ h10_
  refine ⟨by omega, fun x13_ h13_ y13_ => ?_⟩
  clear y13_
  intro x14_ h14_
  refine ⟨by omega, by assumption, ?_⟩
  refine ⟨by omega, fun x19_ h19_ => ?_⟩
  refine ⟨by omega, by assumption, ?_⟩
  exact fun _ _ _ _ => ⟨rfl, rfl, by first | trivial | omega⟩
theorem k_X3_nearestEighth {e : tE} {b : Nat} {d n : Nat} {r : Nat} (h0 : cl r 5) (hb : b < 2 ∨ b = 3) (hd : 1 ≤ d) : sC e b d 1285 [.inr (.inr (.inl r))] n (SQi n (fun z => (0 ≤ z ∧ z ≤ 8))) := by
  refine sK (fun M h => tst_X3_nearestEighth h) (fun M0 => ?_)
  have n16 : ∀ (fu : Nat) (i1_16 : Int), 8 - i1_16 + 1 ≤ (fu : Int) → (0 ≤ i1_16 ∧ i1_16 ≤ 8) → sT e b M0 d 1285 16 [] [some (.inr (.inr (.inl r))), some (.inl i1_16)] [] n (fun r n' _ => (SQi n (fun z => (0 ≤ z ∧ z ≤ 8))) r n') := by
    intro fu
    induction fu with
    | zero =>
      intro i1_16 hm y16_0
      exfalso; omega
    | succ fu ih =>
      intro i1_16 hm y16_0
      have ih16 := ih
      clear ih
      have n64 : sT e b M0 d 1285 64 [] [some (.inr (.inr (.inl r))), some (.inl i1_16)] [] n (fun r n' _ => (SQi n (fun z => (0 ≤ z ∧ z ≤ 8))) r n') := by
        refine sblk (hv := false) kbl_X3_nearestEighth kbs_X3_nearestEighth (pc := 64) (pe := 66) (rk := 0) (i := 3) rfl (by decide +kernel) ?_
        simp only [kb_X3_nearestEighth_64, s_ild_1, s_ire, trg, LR, IR, true_and, and_true, Nat.reduceAdd, Nat.reduceSub, eq_self]
        exact fun _ _ _ _ => ⟨_, rfl, rfl, by omega⟩
      refine sblk (hv := false) kbl_X3_nearestEighth kbs_X3_nearestEighth (pc := 16) (pe := 58) (rk := 0) (i := 1) rfl (by decide +kernel) ?_
      simp only [kb_X3_nearestEighth_16, s_ild_1, s_bi, s_ic_ge, s_ald_0, s_gf_5_10, s_gf_5_12, s_ld2, s_i2l, s_lmul, s_lc1, s_ladd, s_iv2, tfr_0, tfr_1, tfr_2, tfr_3, tfr_4, s_gf_5_9, s_iv1, s_if_eq, s_goto, LR, IR, true_and, and_true, Nat.reduceAdd, Nat.reduceSub, eq_self]
      refine ⟨by omega, fun h5_ => ?_, fun h5_ => ?_⟩
      · exact sT_w (n64)
      refine ⟨by assumption, fun x7_ h7_ => ?_⟩
      refine ⟨by assumption, fun x9_ h9_ => ?_⟩
      refine ⟨by omega, ?_⟩
      intro x13_ h13_
      intro x15_ h15_
      refine ⟨vok_of (s := 3) (by assumption) rfl, ?_⟩
      refine sc_n (D := 0) (fun d' hd' => k_X1_toMultiple (by assumption) (by assumption) (by omega) (by omega) hd') (by omega) ?_
      intro h16_
      try simp only [s_ald_0, s_gf_5_9, s_gf_5_10, s_iv1, tfr_0, tfr_1, tfr_2, tfr_3, tfr_4, s_if_eq, s_goto, LR, IR, true_and, and_true, Nat.reduceAdd, Nat.reduceSub, eq_self]
      refine ⟨by assumption, fun x18_ h18_ => ?_⟩
      refine ⟨by assumption, fun x20_ h20_ => ?_⟩
      refine ⟨vok_of (s := 3) (by assumption) rfl, ?_⟩
      refine sc_i (D := 0) (fun d' hd' => k_X1_isBelow (by assumption) (by assumption) hd') (by omega) ?_
      intro x21_ h21_
      try simp only [s_if_eq, s_goto, LR, IR, true_and, and_true, Nat.reduceAdd, Nat.reduceSub, eq_self]
      refine ⟨by omega, fun h22_ => ?_, fun h22_ => ?_⟩
      · refine sT_w ?_
        refine sblk (hv := false) kbl_X3_nearestEighth kbs_X3_nearestEighth (pc := 58) (pe := 64) (rk := 0) (i := 2) rfl (by decide +kernel) ?_
        simp only [kb_X3_nearestEighth_58, s_inc1, tkl_n, tkl_i, tkl_l, tkl_r, s_goto, LR, IR, true_and, and_true, Nat.reduceAdd, Nat.reduceSub, eq_self]
        exact sT_w (ih16 _ (by omega) (by omega))
      exact sT_w (n64)
  refine sblk (hv := false) kbl_X3_nearestEighth kbs_X3_nearestEighth (pc := 0) (pe := 16) (rk := 0) (i := 0) rfl (by decide +kernel) ?_
  simp only [kb_X3_nearestEighth_0, s_ald_0, s_gf_5_9, s_gf_5_11, s_ld2, s_iv2, tfr_0, tfr_1, tfr_2, tfr_3, tfr_4, s_ic, s_ist_1, tkl_n, tkl_i, tkl_l, tkl_r, s_nil, LR, IR, true_and, and_true, Nat.reduceAdd, Nat.reduceSub, eq_self]
  refine ⟨by assumption, fun x27_ h27_ => ?_⟩
  refine ⟨by assumption, fun x29_ h29_ => ?_⟩
  refine ⟨vok_of (s := 3) (by assumption) rfl, ?_⟩
  refine sc_n (D := 0) (fun d' hd' => k_X1_toMultiple (by assumption) (by assumption) (by omega) (by omega) hd') (by omega) ?_
  intro h31_
  try simp only [s_ic, s_ist_1, tkl_n, tkl_i, tkl_l, tkl_r, s_nil, LR, IR, true_and, and_true, Nat.reduceAdd, Nat.reduceSub, eq_self]
  exact sT_w (n16 4294967400 _ (by omega) (by omega))
theorem k_X4_copy {e : tE} {b : Nat} {d n : Nat} {r : Nat} {x1 : Nat} (h0 : cl r 6) (h1 : cl x1 6) (hb : b < 2) (hd : 0 ≤ d) : sC e b d 1538 [.inr (.inr (.inl r)), .inr (.inr (.inl x1))] n (SQn n (True)) := by
  refine sK (fun M h => tst_X4_copy h) (fun M0 => ?_)
  have n2 : ∀ (fu : Nat) (i2_2 : Int), 8 - i2_2 + 1 ≤ (fu : Int) → (0 ≤ i2_2 ∧ i2_2 ≤ 8) → sT e b M0 d 1538 2 [] [some (.inr (.inr (.inl r))), some (.inr (.inr (.inl x1))), some (.inl i2_2)] [] n (fun r n' _ => (SQn n (True)) r n') := by
    intro fu
    induction fu with
    | zero =>
      intro i2_2 hm y2_0
      exfalso; omega
    | succ fu ih =>
      intro i2_2 hm y2_0
      have ih2 := ih
      clear ih
      refine sblk (hv := false) kbl_X4_copy kbs_X4_copy (pc := 2) (pe := 26) (rk := 9) (i := 1) rfl (by decide +kernel) ?_
      simp only [kb_X4_copy_2, s_ild_2, s_bi, s_ic_ge, s_ald_0, s_gf_6_0, s_ald_1, s_la, s_lax, forall_const, s_las, s_inc2, tkl_n, tkl_i, tkl_l, tkl_r, s_goto, LR, IR, true_and, and_true, Nat.reduceAdd, Nat.reduceSub, eq_self]
      refine ⟨by omega, fun h3_ => ?_, fun h3_ => ?_⟩
      · refine sT_w ?_
        refine sblk (hv := false) kbl_X4_copy kbs_X4_copy (pc := 26) (pe := 27) (rk := 9) (i := 2) rfl (by decide +kernel) ?_
        simp only [kb_X4_copy_26, s_re, LR, IR, true_and, and_true, Nat.reduceAdd, Nat.reduceSub, eq_self]
        exact fun _ _ _ _ => ⟨rfl, rfl, by first | trivial | omega⟩
      refine ⟨by assumption, fun x6_ h6_ => ?_⟩
      refine ⟨by assumption, fun x9_ h9_ => ?_⟩
      refine ⟨aok_23 (by assumption) (by omega), fun x11_ g11_ h11_ => ?_⟩
      refine ⟨by omega, aok_23 (by assumption) (by omega), ?_⟩
      exact sT_w (ih2 _ (by omega) (by omega))
  refine sblk (hv := false) kbl_X4_copy kbs_X4_copy (pc := 0) (pe := 2) (rk := 9) (i := 0) rfl (by decide +kernel) ?_
  simp only [kb_X4_copy_0, s_ic, s_ist_2, tkl_n, tkl_i, tkl_l, tkl_r, s_nil, LR, IR, true_and, and_true, Nat.reduceAdd, Nat.reduceSub, eq_self]
  exact sT_w (n2 4294967400 _ (by omega) (by omega))
theorem k_X4_isBelow {e : tE} {b : Nat} {d n : Nat} {r : Nat} {x1 : Nat} (h0 : cl r 6) (h1 : cl x1 6) (hd : 0 ≤ d) : sC e b d 1539 [.inr (.inr (.inl r)), .inr (.inr (.inl x1))] n (SQi n (fun z => (0 ≤ z ∧ z ≤ 1))) := by
  refine sK (fun M h => tst_X4_isBelow h) (fun M0 => ?_)
  have n3 : ∀ (fu : Nat) (i2_3 : Int), i2_3 - 0 + 1 ≤ (fu : Int) → (0 ≤ i2_3 ∧ i2_3 ≤ 7) → sT e b M0 d 1539 3 [] [some (.inr (.inr (.inl r))), some (.inr (.inr (.inl x1))), some (.inl i2_3)] [] n (fun r n' _ => (SQi n (fun z => (0 ≤ z ∧ z ≤ 1))) r n') := by
    intro fu
    induction fu with
    | zero =>
      intro i2_3 hm y3_0
      exfalso; omega
    | succ fu ih =>
      intro i2_3 hm y3_0
      have ih3 := ih
      clear ih
      have n29 : ∀ (i2_29 : Int), (0 ≤ i2_29 ∧ i2_29 ≤ 7) → sT e b M0 d 1539 29 [] [some (.inr (.inr (.inl r))), some (.inr (.inr (.inl x1))), some (.inl i2_29)] [] n (fun r n' _ => (SQi n (fun z => (0 ≤ z ∧ z ≤ 1))) r n') := by
        intro i2_29 y29_0
        have n50 : ∀ (is0_50 : Int), (0 ≤ is0_50 ∧ is0_50 ≤ 1) → sT e b M0 d 1539 50 [] [some (.inr (.inr (.inl r))), some (.inr (.inr (.inl x1))), some (.inl i2_29)] [.inl is0_50] n (fun r n' _ => (SQi n (fun z => (0 ≤ z ∧ z ≤ 1))) r n') := by
          intro is0_50 y50_0
          refine sblk (hv := false) kbl_X4_isBelow kbs_X4_isBelow (pc := 50) (pe := 51) (rk := 3) (i := 4) rfl (by decide +kernel) ?_
          simp only [kb_X4_isBelow_50, s_ire, trg, LR, IR, true_and, and_true, Nat.reduceAdd, Nat.reduceSub, eq_self]
          exact ⟨by omega, fun _ _ _ _ => ⟨_, rfl, rfl, by omega⟩⟩
        refine sblk (hv := false) kbl_X4_isBelow kbs_X4_isBelow (pc := 29) (pe := 49) (rk := 3) (i := 2) rfl (by decide +kernel) ?_
        simp only [kb_X4_isBelow_29, s_ald_0, s_gf_6_0, s_ild_2, s_la, s_lax, forall_const, s_ald_1, s_lcmp, ne_eq, tlc_r, tlc_eq, tlc_lt, tlc_ge, tlc_gt, tlc_le, s_if_ge, s_ic, s_goto, LR, IR, true_and, and_true, Nat.reduceAdd, Nat.reduceSub, eq_self]
        refine ⟨by assumption, fun x3_ h3_ => ?_⟩
        refine ⟨aok_23 (by assumption) (by omega), fun x5_ g5_ h5_ => ?_⟩
        refine ⟨by assumption, fun x7_ h7_ => ?_⟩
        refine ⟨aok_23 (by assumption) (by omega), fun x9_ g9_ h9_ => ?_⟩
        refine ⟨by omega, ?_⟩
        refine ⟨fun h11_ => ?_, fun h11_ => ?_⟩
        · refine sT_w ?_
          refine sblk (hv := false) kbl_X4_isBelow kbs_X4_isBelow (pc := 49) (pe := 50) (rk := 3) (i := 3) rfl (by decide +kernel) ?_
          simp only [kb_X4_isBelow_49, s_ic, s_nil, LR, IR, true_and, and_true, Nat.reduceAdd, Nat.reduceSub, eq_self]
          exact sT_w (n50 _ (by omega))
        exact sT_w (n50 _ (by omega))
      refine sblk (hv := false) kbl_X4_isBelow kbs_X4_isBelow (pc := 3) (pe := 29) (rk := 3) (i := 1) rfl (by decide +kernel) ?_
      simp only [kb_X4_isBelow_3, s_ild_2, s_if_le, s_ald_0, s_gf_6_0, s_la, s_lax, forall_const, s_ald_1, s_lcmp, ne_eq, tlc_r, tlc_eq, tlc_lt, tlc_ge, tlc_gt, tlc_le, s_if_ne, s_inc2, tkl_n, tkl_i, tkl_l, tkl_r, s_goto, LR, IR, true_and, and_true, Nat.reduceAdd, Nat.reduceSub, eq_self]
      refine ⟨by omega, fun h16_ => ?_, fun h16_ => ?_⟩
      · exact sT_w (n29 _ (by omega))
      refine ⟨by assumption, fun x18_ h18_ => ?_⟩
      refine ⟨aok_23 (by assumption) (by omega), fun x20_ g20_ h20_ => ?_⟩
      refine ⟨by assumption, fun x22_ h22_ => ?_⟩
      refine ⟨aok_23 (by assumption) (by omega), fun x24_ g24_ h24_ => ?_⟩
      refine ⟨by omega, ?_⟩
      refine ⟨fun h26_ => ?_, fun h26_ => ?_⟩
      · exact sT_w (n29 _ (by omega))
      exact sT_w (ih3 _ (by omega) (by omega))
  refine sblk (hv := false) kbl_X4_isBelow kbs_X4_isBelow (pc := 0) (pe := 3) (rk := 3) (i := 0) rfl (by decide +kernel) ?_
  simp only [kb_X4_isBelow_0, s_bi, s_ist_2, tkl_n, tkl_i, tkl_l, tkl_r, s_nil, LR, IR, true_and, and_true, Nat.reduceAdd, Nat.reduceSub, eq_self]
  exact sT_w (n3 4294967400 _ (by omega) (by omega))
theorem k_X4_minus {e : tE} {b : Nat} {d n : Nat} {r : Nat} {x1 : Nat} (h0 : cl r 6) (h1 : cl x1 6) (hb : b < 2) (hd : 0 ≤ d) : sC e b d 1543 [.inr (.inr (.inl r)), .inr (.inr (.inl x1))] n (SQn n (True)) := by
  refine sK (fun M h => tst_X4_minus h) (fun M0 => ?_)
  have n5 : ∀ (fu : Nat) (l2_5 : Int) (i4_5 : Int) (w5_5 : Option tV) (w6_5 : Option tV), 8 - i4_5 + 1 ≤ (fu : Int) → (-9223372036854775808 ≤ l2_5 ∧ l2_5 < 9223372036854775808) → (0 ≤ i4_5 ∧ i4_5 ≤ 8) → sT e b M0 d 1543 5 [] [some (.inr (.inr (.inl r))), some (.inr (.inr (.inl x1))), some (.inr (.inl l2_5)), none, some (.inl i4_5), w5_5, w6_5] [] n (fun r n' _ => (SQn n (True)) r n') := by
    intro fu
    induction fu with
    | zero =>
      intro l2_5 i4_5 w5_5 w6_5 hm y5_0 y5_1
      exfalso; omega
    | succ fu ih =>
      intro l2_5 i4_5 w5_5 w6_5 hm y5_0 y5_1
      have ih5 := ih
      clear ih
      have n43 : ∀ (l5_43 : Int) (ls0_43 : Int), (0 ≤ i4_5 ∧ i4_5 ≤ 7) → (-9223372036854775808 ≤ l5_43 ∧ l5_43 < 9223372036854775808) → (-9223372036854775808 ≤ ls0_43 ∧ ls0_43 < 9223372036854775808) → sT e b M0 d 1543 43 [] [some (.inr (.inr (.inl r))), some (.inr (.inr (.inl x1))), some (.inr (.inl l2_5)), none, some (.inl i4_5), some (.inr (.inl l5_43)), none] [.inr (.inl ls0_43)] n (fun r n' _ => (SQn n (True)) r n') := by
        intro l5_43 ls0_43 y43_0 y43_1 y43_2
        refine sblk (hv := false) kbl_X4_minus kbs_X4_minus (pc := 43) (pe := 65) (rk := 9) (i := 3) rfl (by decide +kernel) ?_
        simp only [kb_X4_minus_43, s_lst_2, tkl_n, tkl_i, tkl_l, tkl_r, s_ald_0, s_gf_6_0, s_ild4, s_lld5, s_lld_2, s_ld2, s_lmul, s_ladd, s_las, s_inc4, s_goto, LR, IR, true_and, and_true, Nat.reduceAdd, Nat.reduceSub, eq_self]
        refine ⟨by assumption, fun x3_ h3_ => ?_⟩
        intro x8_ h8_
        intro x9_ h9_
        refine ⟨by omega, aok_23 (by assumption) (by omega), ?_⟩
        exact sT_w (ih5 _ _ _ _ (by omega) (by omega) (by omega))
      refine sblk (hv := false) kbl_X4_minus kbs_X4_minus (pc := 5) (pe := 42) (rk := 9) (i := 1) rfl (by decide +kernel) ?_
      simp only [kb_X4_minus_5, s_ild4, s_bi, s_ic_ge, s_ald_0, s_gf_6_0, s_la, s_lax, forall_const, s_ald_1, s_lsub, s_lld_2, s_lst5, tkl_n, tkl_i, tkl_l, tkl_r, s_lld5, s_lc0, s_lcmp, ne_eq, tlc_r, tlc_eq, tlc_lt, tlc_ge, tlc_gt, tlc_le, s_if_ge, s_lc1, s_goto, LR, IR, true_and, and_true, Nat.reduceAdd, Nat.reduceSub, eq_self]
      refine ⟨by omega, fun h15_ => ?_, fun h15_ => ?_⟩
      · refine sT_w ?_
        refine sblk (hv := false) kbl_X4_minus kbs_X4_minus (pc := 65) (pe := 66) (rk := 9) (i := 4) rfl (by decide +kernel) ?_
        simp only [kb_X4_minus_65, s_re, LR, IR, true_and, and_true, Nat.reduceAdd, Nat.reduceSub, eq_self]
        exact fun _ _ _ _ => ⟨rfl, rfl, by first | trivial | omega⟩
      refine ⟨by assumption, fun x18_ h18_ => ?_⟩
      refine ⟨aok_23 (by assumption) (by omega), fun x20_ g20_ h20_ => ?_⟩
      refine ⟨by assumption, fun x22_ h22_ => ?_⟩
      refine ⟨aok_23 (by assumption) (by omega), fun x24_ g24_ h24_ => ?_⟩
      intro x25_ h25_
      intro x27_ h27_
      refine ⟨by omega, ?_⟩
      refine ⟨fun h32_ => ?_, fun h32_ => ?_⟩
      · refine sT_w ?_
        refine sblk (hv := false) kbl_X4_minus kbs_X4_minus (pc := 42) (pe := 43) (rk := 9) (i := 2) rfl (by decide +kernel) ?_
        simp only [kb_X4_minus_42, s_lc0, s_nil, LR, IR, true_and, and_true, Nat.reduceAdd, Nat.reduceSub, eq_self]
        exact sT_w (n43 _ _ (by omega) (by omega) (by omega))
      exact sT_w (n43 _ _ (by omega) (by omega) (by omega))
  refine sblk (hv := false) kbl_X4_minus kbs_X4_minus (pc := 0) (pe := 5) (rk := 9) (i := 0) rfl (by decide +kernel) ?_
  simp only [kb_X4_minus_0, s_lc0, s_lst_2, tkl_n, tkl_i, tkl_l, tkl_r, s_ic, s_ist4, s_nil, LR, IR, true_and, and_true, Nat.reduceAdd, Nat.reduceSub, eq_self]
  exact sT_w (n5 4294967400 _ _ _ _ (by omega) (by omega) (by omega))
theorem k_X3_settle {e : tE} {b : Nat} {d n : Nat} {r : Nat} (h0 : cl r 5) (hb : b < 2) (hd : 1 ≤ d) : sC e b d 1286 [.inr (.inr (.inl r))] n (SQn n (True)) := by
  refine sK (fun M h => tst_X3_settle h) (fun M0 => ?_)
  have n37 : ∀ (qs0_37 : Nat) (qs1_37 : Nat), cl qs0_37 6 → cl qs1_37 6 → sT e b M0 d 1286 37 [] [some (.inr (.inr (.inl r)))] [.inr (.inr (.inl qs0_37)), .inr (.inr (.inl qs1_37))] n (fun r n' _ => (SQn n (True)) r n') := by
    intro qs0_37 qs1_37 y37_0 y37_1
    have n62 : ∀ (qs0_62 : Nat) (qs1_62 : Nat), cl qs0_62 6 → cl qs1_62 6 → sT e b M0 d 1286 62 [] [some (.inr (.inr (.inl r)))] [.inr (.inr (.inl qs0_62)), .inr (.inr (.inl qs1_62))] n (fun r n' _ => (SQn n (True)) r n') := by
      intro qs0_62 qs1_62 y62_0 y62_1
      refine sblk (hv := false) kbl_X3_settle kbs_X3_settle (pc := 62) (pe := 66) (rk := 9) (i := 4) rfl (by decide +kernel) ?_
      simp only [kb_X3_settle_62, s_iv1, tfr_0, tfr_1, tfr_2, tfr_3, tfr_4, s_re, LR, IR, true_and, and_true, Nat.reduceAdd, Nat.reduceSub, eq_self]
      refine ⟨vok_of (s := 6) (by assumption) rfl, ?_⟩
      refine sc_n (D := 0) (fun d' hd' => k_X4_minus (by assumption) (by assumption) (by omega) hd') (by omega) ?_
      intro h1_
      try simp only [s_re, LR, IR, true_and, and_true, Nat.reduceAdd, Nat.reduceSub, eq_self]
      exact fun _ _ _ _ => ⟨rfl, rfl, by first | trivial | omega⟩
    refine sblk (hv := false) kbl_X3_settle kbs_X3_settle (pc := 37) (pe := 58) (rk := 9) (i := 2) rfl (by decide +kernel) ?_
    simp only [kb_X3_settle_37, s_iv1, tfr_0, tfr_1, tfr_2, tfr_3, tfr_4, s_ald_0, s_gf_5_6, s_gf_5_1, s_if_eq, s_gf_5_7, s_goto, LR, IR, true_and, and_true, Nat.reduceAdd, Nat.reduceSub, eq_self]
    refine ⟨vok_of (s := 6) (by assumption) rfl, ?_⟩
    refine sc_n (D := 0) (fun d' hd' => k_X4_copy (by assumption) (by assumption) (by omega) hd') (by omega) ?_
    intro h3_
    try simp only [s_ald_0, s_gf_5_6, s_gf_5_1, s_if_eq, s_gf_5_7, s_goto, LR, IR, true_and, and_true, Nat.reduceAdd, Nat.reduceSub, eq_self]
    refine ⟨by assumption, fun x5_ h5_ => ?_⟩
    refine ⟨by assumption, fun x7_ h7_ g7_ k7_ => ?_⟩
    clear k7_
    refine ⟨by omega, fun h8_ => ?_, fun h8_ => ?_⟩
    · refine sT_w ?_
      refine sblk (hv := false) kbl_X3_settle kbs_X3_settle (pc := 58) (pe := 62) (rk := 9) (i := 3) rfl (by decide +kernel) ?_
      simp only [kb_X3_settle_58, s_ald_0, s_gf_5_8, s_nil, LR, IR, true_and, and_true, Nat.reduceAdd, Nat.reduceSub, eq_self]
      refine ⟨by assumption, fun x10_ h10_ => ?_⟩
      exact sT_w (n62 _ _ (by assumption) (by assumption))
    refine ⟨by assumption, fun x12_ h12_ => ?_⟩
    exact sT_w (n62 _ _ (by assumption) (by assumption))
  refine sblk (hv := false) kbl_X3_settle kbs_X3_settle (pc := 0) (pe := 33) (rk := 9) (i := 0) rfl (by decide +kernel) ?_
  simp only [kb_X3_settle_0, s_ald_0, s_gf_5_7, s_gf_5_8, s_iv1, tfr_0, tfr_1, tfr_2, tfr_3, tfr_4, s_pf_5_1, s_gf_5_6, s_gf_5_1, s_if_eq, s_goto, LR, IR, true_and, and_true, Nat.reduceAdd, Nat.reduceSub, eq_self]
  refine ⟨by assumption, fun x16_ h16_ => ?_⟩
  refine ⟨by assumption, fun x18_ h18_ => ?_⟩
  refine ⟨vok_of (s := 6) (by assumption) rfl, ?_⟩
  refine sc_i (D := 0) (fun d' hd' => k_X4_isBelow (by assumption) (by assumption) hd') (by omega) ?_
  intro x19_ h19_
  try simp only [s_pf_5_1, s_ald_0, s_gf_5_6, s_gf_5_1, s_if_eq, s_gf_5_8, s_goto, LR, IR, true_and, and_true, Nat.reduceAdd, Nat.reduceSub, eq_self]
  refine ⟨by omega, by assumption, by omega, ?_⟩
  refine ⟨by assumption, fun x22_ h22_ => ?_⟩
  refine ⟨by assumption, fun x24_ h24_ g24_ k24_ => ?_⟩
  clear k24_
  refine ⟨by omega, fun h25_ => ?_, fun h25_ => ?_⟩
  · refine sT_w ?_
    refine sblk (hv := false) kbl_X3_settle kbs_X3_settle (pc := 33) (pe := 37) (rk := 9) (i := 1) rfl (by decide +kernel) ?_
    simp only [kb_X3_settle_33, s_ald_0, s_gf_5_7, s_nil, LR, IR, true_and, and_true, Nat.reduceAdd, Nat.reduceSub, eq_self]
    refine ⟨by assumption, fun x27_ h27_ => ?_⟩
    exact sT_w (n37 _ _ (by assumption) (by assumption))
  refine ⟨by assumption, fun x29_ h29_ => ?_⟩
  exact sT_w (n37 _ _ (by assumption) (by assumption))
theorem k_X1_toSum {e : tE} {b : Nat} {d n : Nat} {r : Nat} {x1 : Nat} {x2 : Nat} (h0 : cl r 3) (h1 : cl x1 3) (h2 : cl x2 3) (hb : b < 2 ∨ b = 3) (hd : 0 ≤ d) : sC e b d 783 [.inr (.inr (.inl r)), .inr (.inr (.inl x1)), .inr (.inr (.inl x2))] n (SQn n (True)) := by
  refine sK (fun M h => tst_X1_toSum h) (fun M0 => ?_)
  have n61 : ∀ (l3_61 : Int), (-9223372036854775808 ≤ l3_61 ∧ l3_61 < 9223372036854775808) → sT e b M0 d 783 61 [] [some (.inr (.inr (.inl r))), some (.inr (.inr (.inl x1))), some (.inr (.inr (.inl x2))), some (.inr (.inl l3_61)), none] [] n (fun r n' _ => (SQn n (True)) r n') := by
    intro l3_61 y61_0
    refine sblk (hv := false) kbl_X1_toSum kbs_X1_toSum (pc := 61) (pe := 62) (rk := 9) (i := 1) rfl (by decide +kernel) ?_
    simp only [kb_X1_toSum_61, s_re, LR, IR, true_and, and_true, Nat.reduceAdd, Nat.reduceSub, eq_self]
    exact fun _ _ _ _ => ⟨rfl, rfl, by first | trivial | omega⟩
  refine sblk (hv := false) kbl_X1_toSum kbs_X1_toSum (pc := 0) (pe := 61) (rk := 9) (i := 0) rfl (by decide +kernel) ?_
  simp only [kb_X1_toSum_0, s_ald_1, s_gf_3_0, s_ald_2, s_ladd, s_lst_3, tkl_n, tkl_i, tkl_l, tkl_r, s_ald_0, s_gf_3_1, s_pf_3_1, s_lld_3, s_pf_3_0, s_ld2, s_lcmp, ne_eq, tlc_r, tlc_eq, tlc_lt, tlc_ge, tlc_gt, tlc_le, s_if_lt, s_dupi, s_dupr, s_lsub, s_lc1, s_nil, LR, IR, true_and, and_true, Nat.reduceAdd, Nat.reduceSub, eq_self]
  refine ⟨by assumption, fun x3_ h3_ => ?_⟩
  refine ⟨by assumption, fun x5_ h5_ => ?_⟩
  intro x6_ h6_
  refine ⟨by assumption, fun x10_ h10_ => ?_⟩
  refine ⟨by assumption, fun x12_ h12_ => ?_⟩
  intro x13_ h13_
  refine ⟨by omega, by assumption, ?_⟩
  refine ⟨by omega, by assumption, ?_⟩
  refine ⟨by assumption, fun x19_ h19_ => ?_⟩
  refine ⟨by omega, ?_⟩
  refine ⟨fun h22_ => ?_, fun h22_ => ?_⟩
  · exact sT_w (n61 _ (by omega))
  refine ⟨by assumption, fun x25_ h25_ => ?_⟩
  intro x27_ h27_
  refine ⟨by omega, by assumption, ?_⟩
  refine ⟨by assumption, fun x31_ h31_ => ?_⟩
  intro x33_ h33_
  refine ⟨by omega, by assumption, ?_⟩
  exact sT_w (n61 _ (by omega))
theorem k_X3_shiftToEighth {e : tE} {b : Nat} {d n : Nat} {r : Nat} {x1 : Int} (h0 : cl r 5) (h1 : (0 ≤ x1 ∧ x1 ≤ 8)) (hb : b < 2 ∨ b = 3) (hd : 1 ≤ d) : sC e b d 1287 [.inr (.inr (.inl r)), .inl x1] n (SQi n (fun z => (0 ≤ z ∧ z ≤ 1))) := by
  refine sK (fun M h => tst_X3_shiftToEighth h) (fun M0 => ?_)
  have n76 : ∀ (i2_76 : Int), (0 ≤ x1 ∧ x1 ≤ 8) → (0 ≤ i2_76 ∧ i2_76 ≤ 1) → sT e b M0 d 1287 76 [] [some (.inr (.inr (.inl r))), some (.inl x1), some (.inl i2_76)] [] n (fun r n' _ => (SQi n (fun z => (0 ≤ z ∧ z ≤ 1))) r n') := by
    intro i2_76 y76_0 y76_1
    refine sblk (hv := false) kbl_X3_shiftToEighth kbs_X3_shiftToEighth (pc := 76) (pe := 120) (rk := 3) (i := 2) rfl (by decide +kernel) ?_
    simp only [kb_X3_shiftToEighth_76, s_ald_0, s_gf_5_12, s_ld2, s_iv2, tfr_0, tfr_1, tfr_2, tfr_3, tfr_4, s_gf_5_11, s_ild_1, s_i2l, s_gf_5_10, s_ild_2, s_ire, trg, LR, IR, true_and, and_true, Nat.reduceAdd, Nat.reduceSub, eq_self]
    refine ⟨by assumption, fun x2_ h2_ => ?_⟩
    refine ⟨by assumption, fun x4_ h4_ => ?_⟩
    refine ⟨vok_of (s := 3) (by assumption) rfl, ?_⟩
    refine sc_n (D := 0) (fun d' hd' => k_X1_toMultiple (by assumption) (by assumption) (by omega) (by omega) hd') (by omega) ?_
    intro h6_
    try simp only [s_ald_0, s_gf_5_11, s_ild_1, s_i2l, s_iv2, tfr_0, tfr_1, tfr_2, tfr_3, tfr_4, s_gf_5_10, s_gf_5_12, s_ild_2, s_ire, trg, LR, IR, true_and, and_true, Nat.reduceAdd, Nat.reduceSub, eq_self]
    refine ⟨by assumption, fun x8_ h8_ => ?_⟩
    refine ⟨by assumption, fun x10_ h10_ => ?_⟩
    refine ⟨by omega, ?_⟩
    refine ⟨vok_of (s := 3) (by assumption) rfl, ?_⟩
    refine sc_n (D := 0) (fun d' hd' => k_X1_toMultiple (by assumption) (by assumption) (by omega) (by omega) hd') (by omega) ?_
    intro h13_
    try simp only [s_ald_0, s_gf_5_10, s_gf_5_11, s_gf_5_12, s_iv2, tfr_0, tfr_1, tfr_2, tfr_3, tfr_4, s_ild_2, s_ire, trg, LR, IR, true_and, and_true, Nat.reduceAdd, Nat.reduceSub, eq_self]
    refine ⟨by assumption, fun x15_ h15_ => ?_⟩
    refine ⟨by assumption, fun x17_ h17_ => ?_⟩
    refine ⟨by assumption, fun x19_ h19_ => ?_⟩
    refine ⟨vok_of (s := 3) (by assumption) rfl, ?_⟩
    refine sc_n (D := 0) (fun d' hd' => k_X1_toSum (by assumption) (by assumption) (by assumption) (by omega) hd') (by omega) ?_
    intro h20_
    try simp only [s_ild_2, s_ire, trg, LR, IR, true_and, and_true, Nat.reduceAdd, Nat.reduceSub, eq_self]
    exact ⟨by omega, fun _ _ _ _ => ⟨_, rfl, rfl, by omega⟩⟩
  refine sblk (hv := false) kbl_X3_shiftToEighth kbs_X3_shiftToEighth (pc := 0) (pe := 61) (rk := 3) (i := 0) rfl (by decide +kernel) ?_
  simp only [kb_X3_shiftToEighth_0, s_ald_0, s_gf_5_9, s_gf_5_11, s_ld2, s_iv2, tfr_0, tfr_1, tfr_2, tfr_3, tfr_4, s_gf_5_10, s_gf_5_12, s_ild_1, s_i2l, s_iv1, s_ist_2, tkl_n, tkl_i, tkl_l, tkl_r, s_ild_2, s_if_eq, s_goto, LR, IR, true_and, and_true, Nat.reduceAdd, Nat.reduceSub, eq_self]
  refine ⟨by assumption, fun x24_ h24_ => ?_⟩
  refine ⟨by assumption, fun x26_ h26_ => ?_⟩
  refine ⟨vok_of (s := 3) (by assumption) rfl, ?_⟩
  refine sc_n (D := 0) (fun d' hd' => k_X1_toMultiple (by assumption) (by assumption) (by omega) (by omega) hd') (by omega) ?_
  intro h28_
  try simp only [s_ald_0, s_gf_5_10, s_gf_5_12, s_ild_1, s_i2l, s_iv2, tfr_0, tfr_1, tfr_2, tfr_3, tfr_4, s_gf_5_9, s_iv1, s_ist_2, tkl_n, tkl_i, tkl_l, tkl_r, s_ild_2, s_if_eq, s_goto, LR, IR, true_and, and_true, Nat.reduceAdd, Nat.reduceSub, eq_self]
  refine ⟨by assumption, fun x30_ h30_ => ?_⟩
  refine ⟨by assumption, fun x32_ h32_ => ?_⟩
  refine ⟨by omega, ?_⟩
  refine ⟨vok_of (s := 3) (by assumption) rfl, ?_⟩
  refine sc_n (D := 0) (fun d' hd' => k_X1_toMultiple (by assumption) (by assumption) (by omega) (by omega) hd') (by omega) ?_
  intro h35_
  try simp only [s_ald_0, s_gf_5_9, s_gf_5_10, s_iv1, tfr_0, tfr_1, tfr_2, tfr_3, tfr_4, s_ist_2, tkl_n, tkl_i, tkl_l, tkl_r, s_ild_2, s_if_eq, s_iv2, s_goto, LR, IR, true_and, and_true, Nat.reduceAdd, Nat.reduceSub, eq_self]
  refine ⟨by assumption, fun x37_ h37_ => ?_⟩
  refine ⟨by assumption, fun x39_ h39_ => ?_⟩
  refine ⟨vok_of (s := 3) (by assumption) rfl, ?_⟩
  refine sc_i (D := 0) (fun d' hd' => k_X1_isBelow (by assumption) (by assumption) hd') (by omega) ?_
  intro x40_ h40_
  try simp only [s_ist_2, tkl_n, tkl_i, tkl_l, tkl_r, s_ild_2, s_if_eq, s_ald_0, s_gf_5_9, s_gf_5_10, s_iv2, tfr_0, tfr_1, tfr_2, tfr_3, tfr_4, s_goto, LR, IR, true_and, and_true, Nat.reduceAdd, Nat.reduceSub, eq_self]
  refine ⟨by omega, fun h43_ => ?_, fun h43_ => ?_⟩
  · refine sT_w ?_
    refine sblk (hv := false) kbl_X3_shiftToEighth kbs_X3_shiftToEighth (pc := 61) (pe := 76) (rk := 3) (i := 1) rfl (by decide +kernel) ?_
    simp only [kb_X3_shiftToEighth_61, s_ald_0, s_gf_5_9, s_gf_5_10, s_iv2, tfr_0, tfr_1, tfr_2, tfr_3, tfr_4, s_nil, LR, IR, true_and, and_true, Nat.reduceAdd, Nat.reduceSub, eq_self]
    refine ⟨by assumption, fun x45_ h45_ => ?_⟩
    refine ⟨by assumption, fun x47_ h47_ => ?_⟩
    refine ⟨by assumption, fun x49_ h49_ => ?_⟩
    refine ⟨vok_of (s := 3) (by assumption) rfl, ?_⟩
    refine sc_n (D := 0) (fun d' hd' => k_X1_toDifference (by assumption) (by assumption) (by assumption) (by omega) hd') (by omega) ?_
    intro h50_
    try simp only [s_nil, LR, IR, true_and, and_true, Nat.reduceAdd, Nat.reduceSub, eq_self]
    exact sT_w (n76 _ (by omega) (by omega))
  refine ⟨by assumption, fun x52_ h52_ => ?_⟩
  refine ⟨by assumption, fun x54_ h54_ => ?_⟩
  refine ⟨by assumption, fun x56_ h56_ => ?_⟩
  refine ⟨vok_of (s := 3) (by assumption) rfl, ?_⟩
  refine sc_n (D := 0) (fun d' hd' => k_X1_toDifference (by assumption) (by assumption) (by assumption) (by omega) hd') (by omega) ?_
  intro h57_
  try simp only [s_goto, LR, IR, true_and, and_true, Nat.reduceAdd, Nat.reduceSub, eq_self]
  exact sT_w (n76 _ (by omega) (by omega))
theorem k_X4_isZero {e : tE} {b : Nat} {d n : Nat} {r : Nat} (h0 : cl r 6) (hd : 0 ≤ d) : sC e b d 1540 [.inr (.inr (.inl r))] n (SQi n (fun z => (0 ≤ z ∧ z ≤ 1))) := by
  refine sK (fun M h => tst_X4_isZero h) (fun M0 => ?_)
  have n4 : ∀ (fu : Nat) (i1_4 : Int) (i2_4 : Int), 8 - i2_4 + 1 ≤ (fu : Int) → (0 ≤ i1_4 ∧ i1_4 ≤ 1) → (0 ≤ i2_4 ∧ i2_4 ≤ 8) → sT e b M0 d 1540 4 [] [some (.inr (.inr (.inl r))), some (.inl i1_4), some (.inl i2_4)] [] n (fun r n' _ => (SQi n (fun z => (0 ≤ z ∧ z ≤ 1))) r n') := by
    intro fu
    induction fu with
    | zero =>
      intro i1_4 i2_4 hm y4_0 y4_1
      exfalso; omega
    | succ fu ih =>
      intro i1_4 i2_4 hm y4_0 y4_1
      have ih4 := ih
      clear ih
      have n37 : sT e b M0 d 1540 37 [] [some (.inr (.inr (.inl r))), some (.inl i1_4), some (.inl i2_4)] [] n (fun r n' _ => (SQi n (fun z => (0 ≤ z ∧ z ≤ 1))) r n') := by
        refine sblk (hv := false) kbl_X4_isZero kbs_X4_isZero (pc := 37) (pe := 39) (rk := 3) (i := 4) rfl (by decide +kernel) ?_
        simp only [kb_X4_isZero_37, s_ild_1, s_ire, trg, LR, IR, true_and, and_true, Nat.reduceAdd, Nat.reduceSub, eq_self]
        exact ⟨by omega, fun _ _ _ _ => ⟨_, rfl, rfl, by omega⟩⟩
      have n30 : ∀ (is0_30 : Int), (1 ≤ i1_4 ∧ i1_4 ≤ 1) → (0 ≤ i2_4 ∧ i2_4 ≤ 7) → (0 ≤ is0_30 ∧ is0_30 ≤ 1) → sT e b M0 d 1540 30 [] [some (.inr (.inr (.inl r))), some (.inl i1_4), some (.inl i2_4)] [.inl is0_30] n (fun r n' _ => (SQi n (fun z => (0 ≤ z ∧ z ≤ 1))) r n') := by
        intro is0_30 y30_0 y30_1 y30_2
        refine sblk (hv := false) kbl_X4_isZero kbs_X4_isZero (pc := 30) (pe := 37) (rk := 3) (i := 3) rfl (by decide +kernel) ?_
        simp only [kb_X4_isZero_30, s_ist_1, tkl_n, tkl_i, tkl_l, tkl_r, s_inc2, s_goto, LR, IR, true_and, and_true, Nat.reduceAdd, Nat.reduceSub, eq_self]
        exact sT_w (ih4 _ _ (by omega) (by omega) (by omega))
      refine sblk (hv := false) kbl_X4_isZero kbs_X4_isZero (pc := 4) (pe := 29) (rk := 3) (i := 1) rfl (by decide +kernel) ?_
      simp only [kb_X4_isZero_4, s_ild_2, s_bi, s_ic_ge, s_ild_1, s_if_eq, s_ald_0, s_gf_6_0, s_la, s_lax, forall_const, s_lc0, s_lcmp, ne_eq, tlc_r, tlc_eq, tlc_lt, tlc_ge, tlc_gt, tlc_le, s_if_ne, s_ic, s_goto, LR, IR, true_and, and_true, Nat.reduceAdd, Nat.reduceSub, eq_self]
      refine ⟨by omega, fun h8_ => ?_, fun h8_ => ?_⟩
      · exact sT_w (n37)
      refine ⟨by omega, fun h10_ => ?_, fun h10_ => ?_⟩
      · exact sT_w (n37)
      refine ⟨by assumption, fun x12_ h12_ => ?_⟩
      refine ⟨aok_23 (by assumption) (by omega), fun x14_ g14_ h14_ => ?_⟩
      refine ⟨by omega, ?_⟩
      refine ⟨fun h17_ => ?_, fun h17_ => ?_⟩
      · refine sT_w ?_
        refine sblk (hv := false) kbl_X4_isZero kbs_X4_isZero (pc := 29) (pe := 30) (rk := 3) (i := 2) rfl (by decide +kernel) ?_
        simp only [kb_X4_isZero_29, s_ic, s_nil, LR, IR, true_and, and_true, Nat.reduceAdd, Nat.reduceSub, eq_self]
        exact sT_w (n30 _ (by omega) (by omega) (by omega))
      exact sT_w (n30 _ (by omega) (by omega) (by omega))
  refine sblk (hv := false) kbl_X4_isZero kbs_X4_isZero (pc := 0) (pe := 4) (rk := 3) (i := 0) rfl (by decide +kernel) ?_
  simp only [kb_X4_isZero_0, s_ic, s_ist_1, tkl_n, tkl_i, tkl_l, tkl_r, s_ist_2, s_nil, LR, IR, true_and, and_true, Nat.reduceAdd, Nat.reduceSub, eq_self]
  exact sT_w (n4 4294967400 _ _ (by omega) (by omega) (by omega))
theorem k_X4_over {e : tE} {b : Nat} {d n : Nat} {r : Nat} {x1 : Int} (h0 : cl r 6) (h1 : (1 ≤ x1 ∧ x1 ≤ 699)) (hb : b < 2) (hd : 0 ≤ d) : sC e b d 1544 [.inr (.inr (.inl r)), .inl x1] n (SQn n (True)) := by
  refine sK (fun M h => tst_X4_over h) (fun M0 => ?_)
  refine sblk (hv := false) kbl_X4_over kbs_X4_over (pc := 0) (pe := 6) (rk := 9) (i := 0) rfl (by decide +kernel) ?_
  simp only [kb_X4_over_0, s_ild_1, s_ic, s_ic_ge, s_re, LR, IR, true_and, and_true, Nat.reduceAdd, Nat.reduceSub, eq_self]
  refine ⟨by omega, fun h3_ => ?_, fun h3_ => ?_⟩
  · have n12 : ∀ (fu : Nat) (l2_12 : Int) (i4_12 : Int) (w5_12 : Option tV) (w6_12 : Option tV), i4_12 + 1 + 1 ≤ (fu : Int) → (1 ≤ x1 ∧ x1 ≤ 699) → (-9223372036854775808 ≤ l2_12 ∧ l2_12 < 9223372036854775808) → (-1 ≤ i4_12 ∧ i4_12 ≤ 7) → sT e b M0 d 1544 12 [] [some (.inr (.inr (.inl r))), some (.inl x1), some (.inr (.inl l2_12)), none, some (.inl i4_12), w5_12, w6_12] [] n (fun r n' _ => (SQn n (True)) r n') := by
      intro fu
      induction fu with
      | zero =>
        intro l2_12 i4_12 w5_12 w6_12 hm y12_0 y12_1 y12_2
        exfalso; omega
      | succ fu ih =>
        intro l2_12 i4_12 w5_12 w6_12 hm y12_0 y12_1 y12_2
        have ih12 := ih
        clear ih
        refine sblk (hv := false) kbl_X4_over kbs_X4_over (pc := 12) (pe := 56) (rk := 9) (i := 2) rfl (by decide +kernel) ?_
        simp only [kb_X4_over_12, s_ild4, s_if_lt, s_lld_2, s_ld2, s_lmul, s_ald_0, s_gf_6_0, s_la, s_lax, forall_const, s_ladd, s_lst5, tkl_n, tkl_i, tkl_l, tkl_r, s_lld5, s_ild_1, s_i2l, s_ldiv, s_las, s_lrem, s_lst_2, s_inc4, s_goto, LR, IR, true_and, and_true, Nat.reduceAdd, Nat.reduceSub, eq_self]
        refine ⟨by omega, fun h5_ => ?_, fun h5_ => ?_⟩
        · refine sT_w ?_
          refine sblk (hv := false) kbl_X4_over kbs_X4_over (pc := 56) (pe := 57) (rk := 9) (i := 3) rfl (by decide +kernel) ?_
          simp only [kb_X4_over_56, s_re, LR, IR, true_and, and_true, Nat.reduceAdd, Nat.reduceSub, eq_self]
          exact fun _ _ _ _ => ⟨rfl, rfl, by first | trivial | omega⟩
        intro x9_ h9_
        refine ⟨by assumption, fun x11_ h11_ => ?_⟩
        refine ⟨aok_23 (by assumption) (by omega), fun x13_ g13_ h13_ => ?_⟩
        intro x14_ h14_
        refine ⟨by assumption, fun x17_ h17_ => ?_⟩
        refine ⟨by omega, ?_⟩
        refine ⟨by omega, fun x22_ h22_ y22_ => ?_⟩
        clear y22_
        refine ⟨by omega, aok_23 (by assumption) (by omega), ?_⟩
        refine ⟨by omega, ?_⟩
        refine ⟨by omega, fun x27_ h27_ => ?_⟩
        exact sT_w (ih12 _ _ _ _ (by omega) (by omega) (by omega) (by omega))
    refine sT_w ?_
    refine sblk (hv := false) kbl_X4_over kbs_X4_over (pc := 6) (pe := 12) (rk := 9) (i := 1) rfl (by decide +kernel) ?_
    simp only [kb_X4_over_6, s_lc0, s_lst_2, tkl_n, tkl_i, tkl_l, tkl_r, s_bi, s_ist4, s_nil, LR, IR, true_and, and_true, Nat.reduceAdd, Nat.reduceSub, eq_self]
    exact sT_w (n12 4294967400 _ _ _ _ (by omega) (by omega) (by omega) (by omega))
  exact fun _ _ _ _ => ⟨rfl, rfl, by first | trivial | omega⟩
theorem k_X4_plus {e : tE} {b : Nat} {d n : Nat} {r : Nat} {x1 : Nat} (h0 : cl r 6) (h1 : cl x1 6) (hb : b < 2) (hd : 0 ≤ d) : sC e b d 1545 [.inr (.inr (.inl r)), .inr (.inr (.inl x1))] n (SQn n (True)) := by
  refine sK (fun M h => tst_X4_plus h) (fun M0 => ?_)
  have n5 : ∀ (fu : Nat) (l2_5 : Int) (i4_5 : Int) (w5_5 : Option tV) (w6_5 : Option tV), 8 - i4_5 + 1 ≤ (fu : Int) → (-9223372036854775808 ≤ l2_5 ∧ l2_5 < 9223372036854775808) → (0 ≤ i4_5 ∧ i4_5 ≤ 8) → sT e b M0 d 1545 5 [] [some (.inr (.inr (.inl r))), some (.inr (.inr (.inl x1))), some (.inr (.inl l2_5)), none, some (.inl i4_5), w5_5, w6_5] [] n (fun r n' _ => (SQn n (True)) r n') := by
    intro fu
    induction fu with
    | zero =>
      intro l2_5 i4_5 w5_5 w6_5 hm y5_0 y5_1
      exfalso; omega
    | succ fu ih =>
      intro l2_5 i4_5 w5_5 w6_5 hm y5_0 y5_1
      have ih5 := ih
      clear ih
      have n45 : ∀ (l5_45 : Int) (ls0_45 : Int), (0 ≤ i4_5 ∧ i4_5 ≤ 7) → (-9223372036854775808 ≤ l5_45 ∧ l5_45 < 9223372036854775808) → (-9223372036854775808 ≤ ls0_45 ∧ ls0_45 < 9223372036854775808) → sT e b M0 d 1545 45 [] [some (.inr (.inr (.inl r))), some (.inr (.inr (.inl x1))), some (.inr (.inl l2_5)), none, some (.inl i4_5), some (.inr (.inl l5_45)), none] [.inr (.inl ls0_45)] n (fun r n' _ => (SQn n (True)) r n') := by
        intro l5_45 ls0_45 y45_0 y45_1 y45_2
        refine sblk (hv := false) kbl_X4_plus kbs_X4_plus (pc := 45) (pe := 67) (rk := 9) (i := 3) rfl (by decide +kernel) ?_
        simp only [kb_X4_plus_45, s_lst_2, tkl_n, tkl_i, tkl_l, tkl_r, s_ald_0, s_gf_6_0, s_ild4, s_lld5, s_lld_2, s_ld2, s_lmul, s_lsub, s_las, s_inc4, s_goto, LR, IR, true_and, and_true, Nat.reduceAdd, Nat.reduceSub, eq_self]
        refine ⟨by assumption, fun x3_ h3_ => ?_⟩
        intro x8_ h8_
        intro x9_ h9_
        refine ⟨by omega, aok_23 (by assumption) (by omega), ?_⟩
        exact sT_w (ih5 _ _ _ _ (by omega) (by omega) (by omega))
      refine sblk (hv := false) kbl_X4_plus kbs_X4_plus (pc := 5) (pe := 44) (rk := 9) (i := 1) rfl (by decide +kernel) ?_
      simp only [kb_X4_plus_5, s_ild4, s_bi, s_ic_ge, s_ald_0, s_gf_6_0, s_la, s_lax, forall_const, s_ald_1, s_ladd, s_lld_2, s_lst5, tkl_n, tkl_i, tkl_l, tkl_r, s_lld5, s_ld2, s_lcmp, ne_eq, tlc_r, tlc_eq, tlc_lt, tlc_ge, tlc_gt, tlc_le, s_if_lt, s_lc1, s_goto, LR, IR, true_and, and_true, Nat.reduceAdd, Nat.reduceSub, eq_self]
      refine ⟨by omega, fun h15_ => ?_, fun h15_ => ?_⟩
      · refine sT_w ?_
        refine sblk (hv := false) kbl_X4_plus kbs_X4_plus (pc := 67) (pe := 68) (rk := 9) (i := 4) rfl (by decide +kernel) ?_
        simp only [kb_X4_plus_67, s_re, LR, IR, true_and, and_true, Nat.reduceAdd, Nat.reduceSub, eq_self]
        exact fun _ _ _ _ => ⟨rfl, rfl, by first | trivial | omega⟩
      refine ⟨by assumption, fun x18_ h18_ => ?_⟩
      refine ⟨aok_23 (by assumption) (by omega), fun x20_ g20_ h20_ => ?_⟩
      refine ⟨by assumption, fun x22_ h22_ => ?_⟩
      refine ⟨aok_23 (by assumption) (by omega), fun x24_ g24_ h24_ => ?_⟩
      intro x25_ h25_
      intro x27_ h27_
      refine ⟨by omega, ?_⟩
      refine ⟨fun h32_ => ?_, fun h32_ => ?_⟩
      · refine sT_w ?_
        refine sblk (hv := false) kbl_X4_plus kbs_X4_plus (pc := 44) (pe := 45) (rk := 9) (i := 2) rfl (by decide +kernel) ?_
        simp only [kb_X4_plus_44, s_lc0, s_nil, LR, IR, true_and, and_true, Nat.reduceAdd, Nat.reduceSub, eq_self]
        exact sT_w (n45 _ _ (by omega) (by omega) (by omega))
      exact sT_w (n45 _ _ (by omega) (by omega) (by omega))
  refine sblk (hv := false) kbl_X4_plus kbs_X4_plus (pc := 0) (pe := 5) (rk := 9) (i := 0) rfl (by decide +kernel) ?_
  simp only [kb_X4_plus_0, s_lc0, s_lst_2, tkl_n, tkl_i, tkl_l, tkl_r, s_ic, s_ist4, s_nil, LR, IR, true_and, and_true, Nat.reduceAdd, Nat.reduceSub, eq_self]
  exact sT_w (n5 4294967400 _ _ _ _ (by omega) (by omega) (by omega))
theorem k_X4_setLimb {e : tE} {b : Nat} {d n : Nat} {r : Nat} {x1 : Int} {x2 : Int} (h0 : cl r 6) (h1 : (0 ≤ x1 ∧ x1 ≤ 7)) (h2 : (-9223372036854775808 ≤ x2 ∧ x2 < 9223372036854775808)) (hb : b < 2) (hd : 0 ≤ d) : sC e b d 1546 [.inr (.inr (.inl r)), .inl x1, .inr (.inl x2)] n (SQn n (True)) := by
  refine sK (fun M h => tst_X4_setLimb h) (fun M0 => ?_)
  have n17 : (0 ≤ x1 ∧ x1 ≤ 7) → sT e b M0 d 1546 17 [] [some (.inr (.inr (.inl r))), some (.inl x1), some (.inr (.inl x2)), none] [] n (fun r n' _ => (SQn n (True)) r n') := by
    intro  y17_0
    refine sblk (hv := false) kbl_X4_setLimb kbs_X4_setLimb (pc := 17) (pe := 18) (rk := 9) (i := 1) rfl (by decide +kernel) ?_
    simp only [kb_X4_setLimb_17, s_re, LR, IR, true_and, and_true, Nat.reduceAdd, Nat.reduceSub, eq_self]
    exact fun _ _ _ _ => ⟨rfl, rfl, by first | trivial | omega⟩
  refine sblk (hv := false) kbl_X4_setLimb kbs_X4_setLimb (pc := 0) (pe := 17) (rk := 9) (i := 0) rfl (by decide +kernel) ?_
  simp only [kb_X4_setLimb_0, s_ild_1, s_if_lt, s_bi, s_ic_ge, s_ald_0, s_gf_6_0, s_lld_2, s_las, s_nil, LR, IR, true_and, and_true, Nat.reduceAdd, Nat.reduceSub, eq_self]
  refine ⟨by omega, fun h3_ => ?_, fun h3_ => ?_⟩
  · exact sT_w (n17 (by omega))
  refine ⟨by omega, fun h6_ => ?_, fun h6_ => ?_⟩
  · exact sT_w (n17 (by omega))
  refine ⟨by assumption, fun x8_ h8_ => ?_⟩
  refine ⟨by omega, aok_23 (by assumption) (by omega), ?_⟩
  exact sT_w (n17 (by omega))
theorem k_X4_toProduct {e : tE} {b : Nat} {d n : Nat} {r : Nat} {x1 : Nat} {x2 : Nat} (h0 : cl r 6) (h1 : cl x1 6) (h2 : cl x2 6) (hb : b < 2) (hd : 0 ≤ d) : sC e b d 1547 [.inr (.inr (.inl r)), .inr (.inr (.inl x1)), .inr (.inr (.inl x2))] n (SQn n (True)) := by
  refine sK (fun M h => tst_X4_toProduct h) (fun M0 => ?_)
  have n2 : ∀ (fu : Nat) (i3_2 : Int) (w4_2 : Option tV) (w5_2 : Option tV) (w6_2 : Option tV) (w7_2 : Option tV), 10 - i3_2 + 1 ≤ (fu : Int) → (0 ≤ i3_2 ∧ i3_2 ≤ 10) → sT e b M0 d 1547 2 [] [some (.inr (.inr (.inl r))), some (.inr (.inr (.inl x1))), some (.inr (.inr (.inl x2))), some (.inl i3_2), w4_2, w5_2, w6_2, w7_2] [] n (fun r n' _ => (SQn n (True)) r n') := by
    intro fu
    induction fu with
    | zero =>
      intro i3_2 w4_2 w5_2 w6_2 w7_2 hm y2_0
      exfalso; omega
    | succ fu ih =>
      intro i3_2 w4_2 w5_2 w6_2 w7_2 hm y2_0
      have ih2 := ih
      clear ih
      refine sblk (hv := false) kbl_X4_toProduct kbs_X4_toProduct (pc := 2) (pe := 21) (rk := 9) (i := 1) rfl (by decide +kernel) ?_
      simp only [kb_X4_toProduct_2, s_ild_3, s_bi, s_ic_ge, s_ald_0, s_gf_6_1, s_lc0, s_las, s_inc3, tkl_n, tkl_i, tkl_l, tkl_r, s_goto, LR, IR, true_and, and_true, Nat.reduceAdd, Nat.reduceSub, eq_self]
      refine ⟨by omega, fun h3_ => ?_, fun h3_ => ?_⟩
      · have n23 : ∀ (fu : Nat) (i3_23 : Int) (w4_23 : Option tV) (w5_23 : Option tV) (w6_23 : Option tV) (w7_23 : Option tV), 8 - i3_23 + 1 ≤ (fu : Int) → (0 ≤ i3_23 ∧ i3_23 ≤ 8) → sT e b M0 d 1547 23 [] [some (.inr (.inr (.inl r))), some (.inr (.inr (.inl x1))), some (.inr (.inr (.inl x2))), some (.inl i3_23), w4_23, w5_23, w6_23, w7_23] [] n (fun r n' _ => (SQn n (True)) r n') := by
          intro fu
          induction fu with
          | zero =>
            intro i3_23 w4_23 w5_23 w6_23 w7_23 hm y23_0
            exfalso; omega
          | succ fu ih =>
            intro i3_23 w4_23 w5_23 w6_23 w7_23 hm y23_0
            have ih23 := ih
            clear ih
            have n98 : ∀ (l4_98 : Int) (w6_98 : Option tV) (w7_98 : Option tV), (0 ≤ i3_23 ∧ i3_23 ≤ 7) → (-9223372036854775808 ≤ l4_98 ∧ l4_98 < 9223372036854775808) → sT e b M0 d 1547 98 [] [some (.inr (.inr (.inl r))), some (.inr (.inr (.inl x1))), some (.inr (.inr (.inl x2))), some (.inl i3_23), some (.inr (.inl l4_98)), none, w6_98, w7_98] [] n (fun r n' _ => (SQn n (True)) r n') := by
              intro l4_98 w6_98 w7_98 y98_0 y98_1
              refine sblk (hv := false) kbl_X4_toProduct kbs_X4_toProduct (pc := 98) (pe := 104) (rk := 9) (i := 7) rfl (by decide +kernel) ?_
              simp only [kb_X4_toProduct_98, s_inc3, tkl_n, tkl_i, tkl_l, tkl_r, s_goto, LR, IR, true_and, and_true, Nat.reduceAdd, Nat.reduceSub, eq_self]
              exact sT_w (ih23 _ _ _ _ _ (by omega) (by omega))
            have n56 : ∀ (l4_56 : Int) (w6_56 : Option tV) (w7_56 : Option tV) (is0_56 : Int), (0 ≤ i3_23 ∧ i3_23 ≤ 7) → (-9223372036854775808 ≤ l4_56 ∧ l4_56 < 9223372036854775808) → (0 ≤ is0_56 ∧ is0_56 ≤ 5) → 5 ≤ is0_56 + i3_23 → sT e b M0 d 1547 56 [] [some (.inr (.inr (.inl r))), some (.inr (.inr (.inl x1))), some (.inr (.inr (.inl x2))), some (.inl i3_23), some (.inr (.inl l4_56)), none, w6_56, w7_56] [.inl is0_56] n (fun r n' _ => (SQn n (True)) r n') := by
              intro l4_56 w6_56 w7_56 is0_56 y56_0 y56_1 y56_2 y56_3
              have n58 : ∀ (fu : Nat) (i6_58 : Int) (w7_58 : Option tV), 8 - i6_58 + 1 ≤ (fu : Int) → (0 ≤ i6_58 ∧ i6_58 ≤ 8) → 5 ≤ i6_58 + i3_23 → sT e b M0 d 1547 58 [] [some (.inr (.inr (.inl r))), some (.inr (.inr (.inl x1))), some (.inr (.inr (.inl x2))), some (.inl i3_23), some (.inr (.inl l4_56)), none, some (.inl i6_58), w7_58] [] n (fun r n' _ => (SQn n (True)) r n') := by
                intro fu
                induction fu with
                | zero =>
                  intro i6_58 w7_58 hm y58_0 y58_1
                  exfalso; omega
                | succ fu ih =>
                  intro i6_58 w7_58 hm y58_0 y58_1
                  have ih58 := ih
                  clear ih
                  refine sblk (hv := false) kbl_X4_toProduct kbs_X4_toProduct (pc := 58) (pe := 98) (rk := 9) (i := 6) rfl (by decide +kernel) ?_
                  simp only [kb_X4_toProduct_58, s_ild6, s_bi, s_ic_ge, s_ald_0, s_gf_6_1, s_ild_3, s_iadd, s_isub, s_ic, s_dup2l, s_dup2a, s_la, s_lax, forall_const, s_lld4, s_ald_2, s_gf_6_0, s_lmul, s_ladd, s_las, s_inc6, tkl_n, tkl_i, tkl_l, tkl_r, s_goto, LR, IR, true_and, and_true, Nat.reduceAdd, Nat.reduceSub, eq_self]
                  refine ⟨by omega, fun h8_ => ?_, fun h8_ => ?_⟩
                  · exact sT_w (n98 _ _ _ (by omega) (by omega))
                  refine ⟨by assumption, fun x10_ h10_ => ?_⟩
                  refine ⟨aok_24 (by assumption) (by omega), fun x19_ g19_ h19_ => ?_⟩
                  refine ⟨by assumption, fun x22_ h22_ => ?_⟩
                  refine ⟨aok_23 (by assumption) (by omega), fun x24_ g24_ h24_ => ?_⟩
                  intro x25_ h25_
                  intro x26_ h26_
                  refine ⟨by omega, aok_24 (by assumption) (by omega), ?_⟩
                  exact sT_w (ih58 _ _ (by omega) (by omega) (by omega))
              refine sblk (hv := false) kbl_X4_toProduct kbs_X4_toProduct (pc := 56) (pe := 58) (rk := 9) (i := 5) rfl (by decide +kernel) ?_
              simp only [kb_X4_toProduct_56, s_ist6, tkl_n, tkl_i, tkl_l, tkl_r, s_nil, LR, IR, true_and, and_true, Nat.reduceAdd, Nat.reduceSub, eq_self]
              exact sT_w (n58 4294967400 _ _ (by omega) (by omega) (by omega))
            refine sblk (hv := false) kbl_X4_toProduct kbs_X4_toProduct (pc := 23) (pe := 55) (rk := 9) (i := 3) rfl (by decide +kernel) ?_
            simp only [kb_X4_toProduct_23, s_ild_3, s_bi, s_ic_ge, s_ald_1, s_gf_6_0, s_la, s_lax, forall_const, s_lst4, tkl_n, tkl_i, tkl_l, tkl_r, s_lld4, s_lc0, s_lcmp, ne_eq, tlc_r, tlc_eq, tlc_lt, tlc_ge, tlc_gt, tlc_le, s_if_eq, s_ic, s_isub, s_goto, LR, IR, true_and, and_true, Nat.reduceAdd, Nat.reduceSub, eq_self]
            refine ⟨by omega, fun h33_ => ?_, fun h33_ => ?_⟩
            · have n118 : ∀ (fu : Nat) (l3_118 : Int) (i5_118 : Int) (w6_118 : Option tV) (w7_118 : Option tV), 8 - i5_118 + 1 ≤ (fu : Int) → (-9223372036854775808 ≤ l3_118 ∧ l3_118 < 9223372036854775808) → (0 ≤ i5_118 ∧ i5_118 ≤ 8) → sT e b M0 d 1547 118 [] [some (.inr (.inr (.inl r))), some (.inr (.inr (.inl x1))), some (.inr (.inr (.inl x2))), some (.inr (.inl l3_118)), none, some (.inl i5_118), w6_118, w7_118] [] n (fun r n' _ => (SQn n (True)) r n') := by
                intro fu
                induction fu with
                | zero =>
                  intro l3_118 i5_118 w6_118 w7_118 hm y118_0 y118_1
                  exfalso; omega
                | succ fu ih =>
                  intro l3_118 i5_118 w6_118 w7_118 hm y118_0 y118_1
                  have ih118 := ih
                  clear ih
                  refine sblk (hv := false) kbl_X4_toProduct kbs_X4_toProduct (pc := 118) (pe := 164) (rk := 9) (i := 9) rfl (by decide +kernel) ?_
                  simp only [kb_X4_toProduct_118, s_ild5, s_bi, s_ic_ge, s_ald_0, s_gf_6_1, s_ic, s_iadd, s_la, s_lax, forall_const, s_lld_3, s_ladd, s_lst6, tkl_n, tkl_i, tkl_l, tkl_r, s_gf_6_0, s_lld6, s_ld2, s_lrem, s_las, s_ldiv, s_lst_3, s_inc5, s_goto, LR, IR, true_and, and_true, Nat.reduceAdd, Nat.reduceSub, eq_self]
                  refine ⟨by omega, fun h36_ => ?_, fun h36_ => ?_⟩
                  · refine sT_w ?_
                    refine sblk (hv := false) kbl_X4_toProduct kbs_X4_toProduct (pc := 164) (pe := 165) (rk := 9) (i := 10) rfl (by decide +kernel) ?_
                    simp only [kb_X4_toProduct_164, s_re, LR, IR, true_and, and_true, Nat.reduceAdd, Nat.reduceSub, eq_self]
                    exact fun _ _ _ _ => ⟨rfl, rfl, by first | trivial | omega⟩
                  refine ⟨by assumption, fun x39_ h39_ => ?_⟩
                  refine ⟨aok_24 (by assumption) (by omega), fun x43_ g43_ h43_ => ?_⟩
                  intro x45_ h45_
                  refine ⟨by assumption, fun x48_ h48_ => ?_⟩
                  refine ⟨by omega, fun x52_ h52_ => ?_⟩
                  refine ⟨by omega, aok_23 (by assumption) (by omega), ?_⟩
                  refine ⟨by omega, fun x56_ h56_ y56_ => ?_⟩
                  clear y56_
                  exact sT_w (ih118 _ _ _ _ (by omega) (by omega) (by omega))
              refine sT_w ?_
              refine sblk (hv := false) kbl_X4_toProduct kbs_X4_toProduct (pc := 104) (pe := 118) (rk := 9) (i := 8) rfl (by decide +kernel) ?_
              simp only [kb_X4_toProduct_104, s_ald_0, s_gf_6_1, s_ic, s_la, s_lax, forall_const, s_ld2, s_ldiv, s_lst_3, tkl_n, tkl_i, tkl_l, tkl_r, s_ist5, s_nil, LR, IR, true_and, and_true, Nat.reduceAdd, Nat.reduceSub, eq_self]
              refine ⟨by assumption, fun x61_ h61_ => ?_⟩
              refine ⟨aok_24 (by assumption) (by omega), fun x63_ g63_ h63_ => ?_⟩
              refine ⟨by omega, fun x65_ h65_ y65_ => ?_⟩
              clear y65_
              exact sT_w (n118 4294967400 _ _ _ _ (by omega) (by omega) (by omega))
            refine ⟨by assumption, fun x70_ h70_ => ?_⟩
            refine ⟨aok_23 (by assumption) (by omega), fun x72_ g72_ h72_ => ?_⟩
            refine ⟨by omega, ?_⟩
            refine ⟨fun h77_ => ?_, fun h77_ => ?_⟩
            · exact sT_w (n98 _ _ _ (by omega) (by omega))
            refine ⟨by omega, fun h80_ => ?_, fun h80_ => ?_⟩
            · refine sT_w ?_
              refine sblk (hv := false) kbl_X4_toProduct kbs_X4_toProduct (pc := 55) (pe := 56) (rk := 9) (i := 4) rfl (by decide +kernel) ?_
              simp only [kb_X4_toProduct_55, s_ic, s_nil, LR, IR, true_and, and_true, Nat.reduceAdd, Nat.reduceSub, eq_self]
              exact sT_w (n56 _ _ _ _ (by omega) (by omega) (by omega) (by omega))
            exact sT_w (n56 _ _ _ _ (by omega) (by omega) (by omega) (by omega))
        refine sT_w ?_
        refine sblk (hv := false) kbl_X4_toProduct kbs_X4_toProduct (pc := 21) (pe := 23) (rk := 9) (i := 2) rfl (by decide +kernel) ?_
        simp only [kb_X4_toProduct_21, s_ic, s_ist_3, tkl_n, tkl_i, tkl_l, tkl_r, s_nil, LR, IR, true_and, and_true, Nat.reduceAdd, Nat.reduceSub, eq_self]
        exact sT_w (n23 4294967400 _ _ _ _ _ (by omega) (by omega))
      refine ⟨by assumption, fun x89_ h89_ => ?_⟩
      refine ⟨by omega, aok_24 (by assumption) (by omega), ?_⟩
      exact sT_w (ih2 _ _ _ _ _ (by omega) (by omega))
  refine sblk (hv := false) kbl_X4_toProduct kbs_X4_toProduct (pc := 0) (pe := 2) (rk := 9) (i := 0) rfl (by decide +kernel) ?_
  simp only [kb_X4_toProduct_0, s_ic, s_ist_3, tkl_n, tkl_i, tkl_l, tkl_r, s_nil, LR, IR, true_and, and_true, Nat.reduceAdd, Nat.reduceSub, eq_self]
  exact sT_w (n2 4294967400 _ _ _ _ _ (by omega) (by omega))
