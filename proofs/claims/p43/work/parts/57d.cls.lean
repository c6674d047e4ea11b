/-! THE CLASS: methods, printed by wip/p2/gen/sgen.py. -/
theorem k_X11_judge {e : tE} {b : Nat} {d n : Nat} {r : Nat} {x1 : Nat} {x2 : Nat} (h0 : cl r 13) (h1 : cl x1 7) (h2 : cl x2 4) (he : EO e) (hb : b = 0) (hd : 9 ≤ d) : sC e b d 3367 [.inr (.inr (.inl r)), .inr (.inr (.inl x1)), .inr (.inr (.inl x2))] n (SQi n (fun z => (32 ≤ z ∧ z ≤ 63))) := by
  refine sK (fun M h => tst_X11_judge h) (fun M0 => ?_)
  refine sblk (hv := false) kbl_X11_judge kbs_X11_judge (pc := 0) (pe := 23) (rk := 4) (i := 0) rfl (by decide +kernel) ?_
  simp only [kb_X11_judge_0, s_ald_0, s_gf_13_4, s_ald_2, s_iv2, tfr_0, tfr_1, tfr_2, tfr_3, tfr_4, s_ald_1, s_iv1, s_if_eq, s_bi, s_ire, trg, LR, IR, true_and, and_true, Nat.reduceAdd, Nat.reduceSub, eq_self]
  refine ⟨by assumption, fun x2_ h2_ => ?_⟩
  refine ⟨vok_of (s := 8) (by assumption) rfl, ?_⟩
  refine sc_n (D := 0) (fun d' hd' => k_X6_aim (by assumption) (by assumption) (by assumption) (by omega) hd') (by omega) ?_
  intro h5_
  try simp only [s_ald_0, s_gf_13_4, s_ald_1, s_iv1, tfr_0, tfr_1, tfr_2, tfr_3, tfr_4, s_if_eq, s_bi, s_ire, trg, LR, IR, true_and, and_true, Nat.reduceAdd, Nat.reduceSub, eq_self]
  refine ⟨by assumption, fun x7_ h7_ => ?_⟩
  refine ⟨vok_of (s := 8) (by assumption) rfl, ?_⟩
  refine sc_i (D := 8) (fun d' hd' => k_X6_makeValue (by assumption) (by assumption) he (by omega) hd') (by omega) ?_
  intro x9_ h9_
  try simp only [s_if_eq, s_bi, s_ire, trg, LR, IR, true_and, and_true, Nat.reduceAdd, Nat.reduceSub, eq_self]
  refine ⟨by omega, fun h10_ => ?_, fun h10_ => ?_⟩
  · refine sT_w ?_
    refine sblk (hv := false) kbl_X11_judge kbs_X11_judge (pc := 23) (pe := 39) (rk := 4) (i := 1) rfl (by decide +kernel) ?_
    simp only [kb_X11_judge_23, s_ald_0, s_gf_13_4, s_iv0, tfr_0, tfr_1, tfr_2, tfr_3, tfr_4, s_if_ne, s_bi, s_ire, trg, LR, IR, true_and, and_true, Nat.reduceAdd, Nat.reduceSub, eq_self]
    refine ⟨by assumption, fun x12_ h12_ => ?_⟩
    refine ⟨vok_of (s := 8) (by assumption) rfl, ?_⟩
    refine sc_r (D := 1) (fun d' hd' => k_X6_result (by assumption) hd') (by omega) ?_
    intro x13_ h13_
    try simp only [s_iv0, tfr_0, tfr_1, tfr_2, tfr_3, tfr_4, s_if_ne, s_bi, s_ire, trg, LR, IR, true_and, and_true, Nat.reduceAdd, Nat.reduceSub, eq_self]
    refine ⟨vok_of (s := 4) (by assumption) rfl, ?_⟩
    refine sc_i (D := 1) (fun d' hd' => k_X2_holdsZero (by assumption) hd') (by omega) ?_
    intro x14_ h14_
    try simp only [s_if_ne, s_bi, s_ire, trg, LR, IR, true_and, and_true, Nat.reduceAdd, Nat.reduceSub, eq_self]
    refine ⟨by omega, fun h15_ => ?_, fun h15_ => ?_⟩
    · have n63 : sT e b M0 d 3367 63 [] [some (.inr (.inr (.inl r))), some (.inr (.inr (.inl x1))), some (.inr (.inr (.inl x2)))] [] n (fun r n' _ => (SQi n (fun z => (32 ≤ z ∧ z ≤ 63))) r n') := by
        refine sblk (hv := false) kbl_X11_judge kbs_X11_judge (pc := 63) (pe := 66) (rk := 4) (i := 3) rfl (by decide +kernel) ?_
        simp only [kb_X11_judge_63, s_bi, s_ire, trg, LR, IR, true_and, and_true, Nat.reduceAdd, Nat.reduceSub, eq_self]
        exact ⟨by omega, fun _ _ _ _ => ⟨_, rfl, rfl, by omega⟩⟩
      refine sT_w ?_
      refine sblk (hv := false) kbl_X11_judge kbs_X11_judge (pc := 39) (pe := 63) (rk := 4) (i := 2) rfl (by decide +kernel) ?_
      simp only [kb_X11_judge_39, s_ald_0, s_gf_13_4, s_ald_1, s_iv1, tfr_0, tfr_1, tfr_2, tfr_3, tfr_4, s_if_ne, s_iv0, s_if_eq, s_nil, LR, IR, true_and, and_true, Nat.reduceAdd, Nat.reduceSub, eq_self]
      refine ⟨by assumption, fun x19_ h19_ => ?_⟩
      refine ⟨vok_of (s := 8) (by assumption) rfl, ?_⟩
      refine sc_i (D := 8) (fun d' hd' => k_X6_makeSlope (by assumption) (by assumption) he (by omega) hd') (by omega) ?_
      intro x21_ h21_
      try simp only [s_if_ne, s_ald_0, s_gf_13_4, s_iv0, tfr_0, tfr_1, tfr_2, tfr_3, tfr_4, s_if_eq, s_nil, LR, IR, true_and, and_true, Nat.reduceAdd, Nat.reduceSub, eq_self]
      refine ⟨by omega, fun h22_ => ?_, fun h22_ => ?_⟩
      · exact sT_w (n63)
      refine ⟨by assumption, fun x24_ h24_ => ?_⟩
      refine ⟨vok_of (s := 8) (by assumption) rfl, ?_⟩
      refine sc_r (D := 1) (fun d' hd' => k_X6_result (by assumption) hd') (by omega) ?_
      intro x25_ h25_
      try simp only [s_iv0, tfr_0, tfr_1, tfr_2, tfr_3, tfr_4, s_if_eq, s_nil, LR, IR, true_and, and_true, Nat.reduceAdd, Nat.reduceSub, eq_self]
      refine ⟨vok_of (s := 4) (by assumption) rfl, ?_⟩
      refine sc_i (D := 1) (fun d' hd' => k_X2_holdsZero (by assumption) hd') (by omega) ?_
      intro x26_ h26_
      try simp only [s_if_eq, s_nil, LR, IR, true_and, and_true, Nat.reduceAdd, Nat.reduceSub, eq_self]
      refine ⟨by omega, fun h27_ => ?_, fun h27_ => ?_⟩
      · refine sT_w ?_
        refine sblk (hv := false) kbl_X11_judge kbs_X11_judge (pc := 66) (pe := 110) (rk := 4) (i := 4) rfl (by decide +kernel) ?_
        simp only [kb_X11_judge_66, s_ald_0, s_gf_13_4, s_gf_13_13, s_iv2, tfr_0, tfr_1, tfr_2, tfr_3, tfr_4, s_ald_2, s_gf_4_0, s_ald_1, s_iv1, s_if_eq, s_bi, s_ire, trg, LR, IR, true_and, and_true, Nat.reduceAdd, Nat.reduceSub, eq_self]
        refine ⟨by assumption, fun x29_ h29_ => ?_⟩
        refine ⟨by assumption, fun x31_ h31_ => ?_⟩
        refine ⟨by assumption, fun x33_ h33_ => ?_⟩
        refine ⟨vok_of (s := 8) (by assumption) rfl, ?_⟩
        refine sc_n (D := 0) (fun d' hd' => k_X6_aim (by assumption) (by assumption) (by assumption) (by omega) hd') (by omega) ?_
        intro h34_
        try simp only [s_ald_0, s_gf_13_13, s_ald_2, s_gf_4_0, s_iv2, tfr_0, tfr_1, tfr_2, tfr_3, tfr_4, s_gf_13_4, s_ald_1, s_iv1, s_if_eq, s_bi, s_ire, trg, LR, IR, true_and, and_true, Nat.reduceAdd, Nat.reduceSub, eq_self]
        refine ⟨by assumption, fun x36_ h36_ => ?_⟩
        refine ⟨by assumption, fun x38_ h38_ => ?_⟩
        refine ⟨by assumption, fun x40_ h40_ => ?_⟩
        refine ⟨vok_of (s := 4) (by assumption) rfl, ?_⟩
        refine sc_n (D := 1) (fun d' hd' => k_X2_between (by assumption) (by assumption) (by assumption) (by omega) hd') (by omega) ?_
        intro h41_
        try simp only [s_ald_0, s_gf_13_4, s_ald_1, s_iv1, tfr_0, tfr_1, tfr_2, tfr_3, tfr_4, s_if_eq, s_bi, s_ire, trg, LR, IR, true_and, and_true, Nat.reduceAdd, Nat.reduceSub, eq_self]
        refine ⟨by assumption, fun x43_ h43_ => ?_⟩
        refine ⟨vok_of (s := 8) (by assumption) rfl, ?_⟩
        refine sc_i (D := 8) (fun d' hd' => k_X6_makeValue (by assumption) (by assumption) he (by omega) hd') (by omega) ?_
        intro x45_ h45_
        try simp only [s_if_eq, s_bi, s_ire, trg, LR, IR, true_and, and_true, Nat.reduceAdd, Nat.reduceSub, eq_self]
        refine ⟨by omega, fun h46_ => ?_, fun h46_ => ?_⟩
        · refine sT_w ?_
          refine sblk (hv := false) kbl_X11_judge kbs_X11_judge (pc := 110) (pe := 153) (rk := 4) (i := 5) rfl (by decide +kernel) ?_
          simp only [kb_X11_judge_110, s_ald_0, s_gf_13_14, s_gf_13_4, s_iv0, tfr_0, tfr_1, tfr_2, tfr_3, tfr_4, s_iv1, s_gf_13_13, s_ald_2, s_gf_4_1, s_iv2, s_ald_1, s_if_eq, s_bi, s_ire, trg, LR, IR, true_and, and_true, Nat.reduceAdd, Nat.reduceSub, eq_self]
          refine ⟨by assumption, fun x48_ h48_ => ?_⟩
          refine ⟨by assumption, fun x50_ h50_ => ?_⟩
          refine ⟨vok_of (s := 8) (by assumption) rfl, ?_⟩
          refine sc_r (D := 1) (fun d' hd' => k_X6_result (by assumption) hd') (by omega) ?_
          intro x51_ h51_
          try simp only [s_iv1, tfr_0, tfr_1, tfr_2, tfr_3, tfr_4, s_ald_0, s_gf_13_13, s_ald_2, s_gf_4_1, s_iv2, s_gf_13_4, s_ald_1, s_if_eq, s_bi, s_ire, trg, LR, IR, true_and, and_true, Nat.reduceAdd, Nat.reduceSub, eq_self]
          refine ⟨vok_of (s := 4) (by assumption) rfl, ?_⟩
          refine sc_n (D := 1) (fun d' hd' => k_X2_copy (by assumption) (by assumption) (by omega) hd') (by omega) ?_
          intro h52_
          try simp only [s_ald_0, s_gf_13_13, s_ald_2, s_gf_4_1, s_iv2, tfr_0, tfr_1, tfr_2, tfr_3, tfr_4, s_gf_13_4, s_ald_1, s_iv1, s_if_eq, s_bi, s_ire, trg, LR, IR, true_and, and_true, Nat.reduceAdd, Nat.reduceSub, eq_self]
          refine ⟨by assumption, fun x54_ h54_ => ?_⟩
          refine ⟨by assumption, fun x56_ h56_ => ?_⟩
          refine ⟨by assumption, fun x58_ h58_ => ?_⟩
          refine ⟨vok_of (s := 4) (by assumption) rfl, ?_⟩
          refine sc_n (D := 1) (fun d' hd' => k_X2_between (by assumption) (by assumption) (by assumption) (by omega) hd') (by omega) ?_
          intro h59_
          try simp only [s_ald_0, s_gf_13_4, s_ald_1, s_iv1, tfr_0, tfr_1, tfr_2, tfr_3, tfr_4, s_if_eq, s_bi, s_ire, trg, LR, IR, true_and, and_true, Nat.reduceAdd, Nat.reduceSub, eq_self]
          refine ⟨by assumption, fun x61_ h61_ => ?_⟩
          refine ⟨vok_of (s := 8) (by assumption) rfl, ?_⟩
          refine sc_i (D := 8) (fun d' hd' => k_X6_makeValue (by assumption) (by assumption) he (by omega) hd') (by omega) ?_
          intro x63_ h63_
          try simp only [s_if_eq, s_bi, s_ire, trg, LR, IR, true_and, and_true, Nat.reduceAdd, Nat.reduceSub, eq_self]
          refine ⟨by omega, fun h64_ => ?_, fun h64_ => ?_⟩
          · refine sT_w ?_
            refine sblk (hv := false) kbl_X11_judge kbs_X11_judge (pc := 153) (pe := 168) (rk := 4) (i := 6) rfl (by decide +kernel) ?_
            simp only [kb_X11_judge_153, s_ald_0, s_gf_13_14, s_gf_13_4, s_iv0, tfr_0, tfr_1, tfr_2, tfr_3, tfr_4, s_is2, s_ire, trg, LR, IR, true_and, and_true, Nat.reduceAdd, Nat.reduceSub, eq_self]
            refine ⟨by assumption, fun x66_ h66_ => ?_⟩
            refine ⟨by assumption, fun x68_ h68_ => ?_⟩
            refine ⟨vok_of (s := 8) (by assumption) rfl, ?_⟩
            refine sc_r (D := 1) (fun d' hd' => k_X6_result (by assumption) hd') (by omega) ?_
            intro x69_ h69_
            try simp only [s_is2, tfr_0, tfr_1, tfr_2, tfr_3, tfr_4, s_ire, trg, LR, IR, true_and, and_true, Nat.reduceAdd, Nat.reduceSub, eq_self]
            refine sc_i (D := 1) (fun d' hd' => k_X11_kindByEnds (by assumption) (by assumption) hd') (by omega) ?_
            intro x70_ h70_
            try simp only [s_ire, trg, LR, IR, true_and, and_true, Nat.reduceAdd, Nat.reduceSub, eq_self]
            exact ⟨by omega, fun _ _ _ _ => ⟨_, rfl, rfl, by omega⟩⟩
          exact ⟨by omega, fun _ _ _ _ => ⟨_, rfl, rfl, by omega⟩⟩
        exact ⟨by omega, fun _ _ _ _ => ⟨_, rfl, rfl, by omega⟩⟩
      exact sT_w (n63)
    exact ⟨by omega, fun _ _ _ _ => ⟨_, rfl, rfl, by omega⟩⟩
  exact ⟨by omega, fun _ _ _ _ => ⟨_, rfl, rfl, by omega⟩⟩
theorem k_X11_makeNarrowed {e : tE} {b : Nat} {d n : Nat} {r : Nat} {x1 : Nat} {x2 : Nat} (h0 : cl r 13) (h1 : cl x1 7) (h2 : cl x2 4) (he : EO e) (hb : b = 0) (hd : 9 ≤ d) : sC e b d 3373 [.inr (.inr (.inl r)), .inr (.inr (.inl x1)), .inr (.inr (.inl x2))] n (SQi n (fun z => (0 ≤ z ∧ z ≤ 2))) := by
  refine sK (fun M h => tst_X11_makeNarrowed h) (fun M0 => ?_)
  refine sblk (hv := false) kbl_X11_makeNarrowed kbs_X11_makeNarrowed (pc := 0) (pe := 46) (rk := 0) (i := 0) rfl (by decide +kernel) ?_
  simp only [kb_X11_makeNarrowed_0, s_ald_0, s_gf_13_11, s_ald_2, s_gf_13_4, s_iv0, tfr_0, tfr_1, tfr_2, tfr_3, tfr_4, s_iv2, s_popi, s_popr, s_ald_1, s_iv1, s_ist_3, tkl_n, tkl_i, tkl_l, tkl_r, s_ild_3, s_if_eq, s_ire, trg, LR, IR, true_and, and_true, Nat.reduceAdd, Nat.reduceSub, eq_self]
  refine ⟨by assumption, fun x2_ h2_ => ?_⟩
  refine ⟨by assumption, fun x5_ h5_ => ?_⟩
  refine ⟨vok_of (s := 8) (by assumption) rfl, ?_⟩
  refine sc_l (D := 0) (fun d' hd' => k_X6_unit (by assumption) hd') (by omega) ?_
  intro x6_ h6_
  try simp only [s_iv2, tfr_0, tfr_1, tfr_2, tfr_3, tfr_4, s_popi, s_popr, s_ald_0, s_gf_13_4, s_gf_13_11, s_ald_1, s_iv1, s_ist_3, tkl_n, tkl_i, tkl_l, tkl_r, s_ild_3, s_if_eq, s_ire, trg, LR, IR, true_and, and_true, Nat.reduceAdd, Nat.reduceSub, eq_self]
  refine ⟨vok_of (s := 4) (by assumption) rfl, ?_⟩
  refine sc_i (D := 2) (fun d' hd' => k_X2_toMiddle (by assumption) (by assumption) (by omega) (by omega) hd') (by omega) ?_
  intro x7_ h7_
  try simp only [s_popi, s_popr, s_ald_0, s_gf_13_4, s_gf_13_11, s_iv2, tfr_0, tfr_1, tfr_2, tfr_3, tfr_4, s_ald_1, s_iv1, s_ist_3, tkl_n, tkl_i, tkl_l, tkl_r, s_ild_3, s_if_eq, s_ire, trg, LR, IR, true_and, and_true, Nat.reduceAdd, Nat.reduceSub, eq_self]
  refine ⟨by assumption, fun x10_ h10_ => ?_⟩
  refine ⟨by assumption, fun x12_ h12_ => ?_⟩
  refine ⟨by assumption, fun x14_ h14_ => ?_⟩
  refine ⟨vok_of (s := 8) (by assumption) rfl, ?_⟩
  refine sc_n (D := 0) (fun d' hd' => k_X6_aim (by assumption) (by assumption) (by assumption) (by omega) hd') (by omega) ?_
  intro h15_
  try simp only [s_ald_0, s_gf_13_4, s_ald_1, s_iv1, tfr_0, tfr_1, tfr_2, tfr_3, tfr_4, s_ist_3, tkl_n, tkl_i, tkl_l, tkl_r, s_ild_3, s_if_eq, s_ire, trg, LR, IR, true_and, and_true, Nat.reduceAdd, Nat.reduceSub, eq_self]
  refine ⟨by assumption, fun x17_ h17_ => ?_⟩
  refine ⟨vok_of (s := 8) (by assumption) rfl, ?_⟩
  refine sc_i (D := 8) (fun d' hd' => k_X6_makeValue (by assumption) (by assumption) he (by omega) hd') (by omega) ?_
  intro x19_ h19_
  try simp only [s_ist_3, tkl_n, tkl_i, tkl_l, tkl_r, s_ild_3, s_if_eq, s_ire, trg, LR, IR, true_and, and_true, Nat.reduceAdd, Nat.reduceSub, eq_self]
  refine ⟨by omega, fun h22_ => ?_, fun h22_ => ?_⟩
  · refine sT_w ?_
    refine sblk (hv := false) kbl_X11_makeNarrowed kbs_X11_makeNarrowed (pc := 46) (pe := 84) (rk := 0) (i := 1) rfl (by decide +kernel) ?_
    simp only [kb_X11_makeNarrowed_46, s_ald_0, s_gf_13_12, s_gf_13_4, s_iv0, tfr_0, tfr_1, tfr_2, tfr_3, tfr_4, s_iv1, s_ald_2, s_iv2, s_ald_1, s_ist_3, tkl_n, tkl_i, tkl_l, tkl_r, s_ild_3, s_if_eq, s_ire, trg, LR, IR, true_and, and_true, Nat.reduceAdd, Nat.reduceSub, eq_self]
    refine ⟨by assumption, fun x24_ h24_ => ?_⟩
    refine ⟨by assumption, fun x26_ h26_ => ?_⟩
    refine ⟨vok_of (s := 8) (by assumption) rfl, ?_⟩
    refine sc_r (D := 1) (fun d' hd' => k_X6_result (by assumption) hd') (by omega) ?_
    intro x27_ h27_
    try simp only [s_iv1, tfr_0, tfr_1, tfr_2, tfr_3, tfr_4, s_ald_0, s_gf_13_4, s_ald_2, s_iv2, s_ald_1, s_ist_3, tkl_n, tkl_i, tkl_l, tkl_r, s_ild_3, s_if_eq, s_ire, trg, LR, IR, true_and, and_true, Nat.reduceAdd, Nat.reduceSub, eq_self]
    refine ⟨vok_of (s := 4) (by assumption) rfl, ?_⟩
    refine sc_n (D := 1) (fun d' hd' => k_X2_copy (by assumption) (by assumption) (by omega) hd') (by omega) ?_
    intro h28_
    try simp only [s_ald_0, s_gf_13_4, s_ald_2, s_iv2, tfr_0, tfr_1, tfr_2, tfr_3, tfr_4, s_ald_1, s_iv1, s_ist_3, tkl_n, tkl_i, tkl_l, tkl_r, s_ild_3, s_if_eq, s_ire, trg, LR, IR, true_and, and_true, Nat.reduceAdd, Nat.reduceSub, eq_self]
    refine ⟨by assumption, fun x30_ h30_ => ?_⟩
    refine ⟨vok_of (s := 8) (by assumption) rfl, ?_⟩
    refine sc_n (D := 0) (fun d' hd' => k_X6_aim (by assumption) (by assumption) (by assumption) (by omega) hd') (by omega) ?_
    intro h33_
    try simp only [s_ald_0, s_gf_13_4, s_ald_1, s_iv1, tfr_0, tfr_1, tfr_2, tfr_3, tfr_4, s_ist_3, tkl_n, tkl_i, tkl_l, tkl_r, s_ild_3, s_if_eq, s_ire, trg, LR, IR, true_and, and_true, Nat.reduceAdd, Nat.reduceSub, eq_self]
    refine ⟨by assumption, fun x35_ h35_ => ?_⟩
    refine ⟨vok_of (s := 8) (by assumption) rfl, ?_⟩
    refine sc_i (D := 8) (fun d' hd' => k_X6_makeSlope (by assumption) (by assumption) he (by omega) hd') (by omega) ?_
    intro x37_ h37_
    try simp only [s_ist_3, tkl_n, tkl_i, tkl_l, tkl_r, s_ild_3, s_if_eq, s_ire, trg, LR, IR, true_and, and_true, Nat.reduceAdd, Nat.reduceSub, eq_self]
    refine ⟨by omega, fun h40_ => ?_, fun h40_ => ?_⟩
    · have n169 : ∀ (i3_169 : Int) (is0_169 : Int), (0 ≤ i3_169 ∧ i3_169 ≤ 2) → (0 ≤ is0_169 ∧ is0_169 ≤ 2) → sT e b M0 d 3373 169 [] [some (.inr (.inr (.inl r))), some (.inr (.inr (.inl x1))), some (.inr (.inr (.inl x2))), some (.inl i3_169)] [.inl is0_169] n (fun r n' _ => (SQi n (fun z => (0 ≤ z ∧ z ≤ 2))) r n') := by
        intro i3_169 is0_169 y169_0 y169_1
        refine sblk (hv := false) kbl_X11_makeNarrowed kbs_X11_makeNarrowed (pc := 169) (pe := 170) (rk := 0) (i := 4) rfl (by decide +kernel) ?_
        simp only [kb_X11_makeNarrowed_169, s_ire, trg, LR, IR, true_and, and_true, Nat.reduceAdd, Nat.reduceSub, eq_self]
        exact fun _ _ _ _ => ⟨_, rfl, rfl, by omega⟩
      refine sT_w ?_
      refine sblk (hv := false) kbl_X11_makeNarrowed kbs_X11_makeNarrowed (pc := 84) (pe := 158) (rk := 0) (i := 2) rfl (by decide +kernel) ?_
      simp only [kb_X11_makeNarrowed_84, s_ald_0, s_gf_13_13, s_gf_13_4, s_iv0, tfr_0, tfr_1, tfr_2, tfr_3, tfr_4, s_iv1, s_gf_13_11, s_gf_13_12, s_bi, s_lc0, s_ic, s_iv3, s_ist_3, tkl_n, tkl_i, tkl_l, tkl_r, s_ild_3, s_if_eq, s_goto, LR, IR, true_and, and_true, Nat.reduceAdd, Nat.reduceSub, eq_self]
      refine ⟨by assumption, fun x43_ h43_ => ?_⟩
      refine ⟨by assumption, fun x45_ h45_ => ?_⟩
      refine ⟨vok_of (s := 8) (by assumption) rfl, ?_⟩
      refine sc_r (D := 1) (fun d' hd' => k_X6_result (by assumption) hd') (by omega) ?_
      intro x46_ h46_
      try simp only [s_iv1, tfr_0, tfr_1, tfr_2, tfr_3, tfr_4, s_ald_0, s_gf_13_4, s_iv0, s_gf_13_11, s_gf_13_12, s_gf_13_13, s_bi, s_lc0, s_ic, s_iv3, s_ist_3, tkl_n, tkl_i, tkl_l, tkl_r, s_ild_3, s_if_eq, s_goto, LR, IR, true_and, and_true, Nat.reduceAdd, Nat.reduceSub, eq_self]
      refine ⟨vok_of (s := 4) (by assumption) rfl, ?_⟩
      refine sc_n (D := 1) (fun d' hd' => k_X2_copy (by assumption) (by assumption) (by omega) hd') (by omega) ?_
      intro h47_
      try simp only [s_ald_0, s_gf_13_4, s_iv0, tfr_0, tfr_1, tfr_2, tfr_3, tfr_4, s_gf_13_11, s_iv1, s_gf_13_12, s_gf_13_13, s_bi, s_lc0, s_ic, s_iv3, s_ist_3, tkl_n, tkl_i, tkl_l, tkl_r, s_ild_3, s_if_eq, s_goto, LR, IR, true_and, and_true, Nat.reduceAdd, Nat.reduceSub, eq_self]
      refine ⟨by assumption, fun x49_ h49_ => ?_⟩
      refine ⟨vok_of (s := 8) (by assumption) rfl, ?_⟩
      refine sc_n (D := 0) (fun d' hd' => k_X6_clear (by assumption) (by omega) hd') (by omega) ?_
      intro h50_
      try simp only [s_ald_0, s_gf_13_4, s_gf_13_11, s_iv1, tfr_0, tfr_1, tfr_2, tfr_3, tfr_4, s_gf_13_12, s_gf_13_13, s_bi, s_lc0, s_ic, s_iv3, s_ist_3, tkl_n, tkl_i, tkl_l, tkl_r, s_ild_3, s_if_eq, s_goto, LR, IR, true_and, and_true, Nat.reduceAdd, Nat.reduceSub, eq_self]
      refine ⟨by assumption, fun x52_ h52_ => ?_⟩
      refine ⟨by assumption, fun x54_ h54_ => ?_⟩
      refine ⟨vok_of (s := 8) (by assumption) rfl, ?_⟩
      refine sc_n (D := 2) (fun d' hd' => k_X6_push (by assumption) (by assumption) (by omega) hd') (by omega) ?_
      intro h55_
      try simp only [s_ald_0, s_gf_13_4, s_gf_13_12, s_iv1, tfr_0, tfr_1, tfr_2, tfr_3, tfr_4, s_gf_13_13, s_bi, s_lc0, s_ic, s_iv3, s_ist_3, tkl_n, tkl_i, tkl_l, tkl_r, s_ild_3, s_if_eq, s_goto, LR, IR, true_and, and_true, Nat.reduceAdd, Nat.reduceSub, eq_self]
      refine ⟨by assumption, fun x57_ h57_ => ?_⟩
      refine ⟨by assumption, fun x59_ h59_ => ?_⟩
      refine ⟨vok_of (s := 8) (by assumption) rfl, ?_⟩
      refine sc_n (D := 2) (fun d' hd' => k_X6_push (by assumption) (by assumption) (by omega) hd') (by omega) ?_
      intro h60_
      try simp only [s_ald_0, s_gf_13_4, s_gf_13_13, s_iv1, tfr_0, tfr_1, tfr_2, tfr_3, tfr_4, s_bi, s_lc0, s_ic, s_iv3, s_ist_3, tkl_n, tkl_i, tkl_l, tkl_r, s_ild_3, s_if_eq, s_goto, LR, IR, true_and, and_true, Nat.reduceAdd, Nat.reduceSub, eq_self]
      refine ⟨by assumption, fun x62_ h62_ => ?_⟩
      refine ⟨by assumption, fun x64_ h64_ => ?_⟩
      refine ⟨vok_of (s := 8) (by assumption) rfl, ?_⟩
      refine sc_n (D := 2) (fun d' hd' => k_X6_push (by assumption) (by assumption) (by omega) hd') (by omega) ?_
      intro h65_
      try simp only [s_ald_0, s_gf_13_4, s_bi, s_lc0, s_ic, s_iv3, tfr_0, tfr_1, tfr_2, tfr_3, tfr_4, s_ist_3, tkl_n, tkl_i, tkl_l, tkl_r, s_ild_3, s_if_eq, s_goto, LR, IR, true_and, and_true, Nat.reduceAdd, Nat.reduceSub, eq_self]
      refine ⟨by assumption, fun x67_ h67_ => ?_⟩
      refine ⟨vok_of (s := 8) (by assumption) rfl, ?_⟩
      refine sc_i (D := 7) (fun d' hd' => k_X6_make (by assumption) (by omega) (by omega) (by omega) (by omega) he (by omega) hd') (by omega) ?_
      intro x71_ h71_
      try simp only [s_ist_3, tkl_n, tkl_i, tkl_l, tkl_r, s_ild_3, s_if_eq, s_goto, LR, IR, true_and, and_true, Nat.reduceAdd, Nat.reduceSub, eq_self]
      refine ⟨by omega, fun h74_ => ?_, fun h74_ => ?_⟩
      · refine sT_w ?_
        refine sblk (hv := false) kbl_X11_makeNarrowed kbs_X11_makeNarrowed (pc := 158) (pe := 169) (rk := 0) (i := 3) rfl (by decide +kernel) ?_
        simp only [kb_X11_makeNarrowed_158, s_ald_0, s_gf_13_4, s_bi, s_lc0, s_ic, s_iv3, tfr_0, tfr_1, tfr_2, tfr_3, tfr_4, s_nil, LR, IR, true_and, and_true, Nat.reduceAdd, Nat.reduceSub, eq_self]
        refine ⟨by assumption, fun x76_ h76_ => ?_⟩
        refine ⟨vok_of (s := 8) (by assumption) rfl, ?_⟩
        refine sc_i (D := 7) (fun d' hd' => k_X6_make (by assumption) (by omega) (by omega) (by omega) (by omega) he (by omega) hd') (by omega) ?_
        intro x80_ h80_
        try simp only [s_nil, LR, IR, true_and, and_true, Nat.reduceAdd, Nat.reduceSub, eq_self]
        exact sT_w (n169 _ _ (by omega) (by omega))
      exact sT_w (n169 _ _ (by omega) (by omega))
    exact fun _ _ _ _ => ⟨_, rfl, rfl, by omega⟩
  exact fun _ _ _ _ => ⟨_, rfl, rfl, by omega⟩
theorem k_X11_narrow {e : tE} {b : Nat} {d n : Nat} {r : Nat} {x1 : Int} {x2 : Int} {x3 : Int} (h0 : cl r 13) (h1 : (-2147483648 ≤ x1 ∧ x1 ≤ 2147483647)) (h2 : (-2147483648 ≤ x2 ∧ x2 ≤ 2147483647)) (h3 : (-2147483648 ≤ x3 ∧ x3 ≤ 2147483647)) (he : EO e) (hb : b = 0) (hd : 10 ≤ d) : sC e b d 3377 [.inr (.inr (.inl r)), .inl x1, .inl x2, .inl x3] n (SQx n (SQi n (fun z => (0 ≤ z ∧ z ≤ 1))) (fun s => s = "java/lang/ArithmeticException" ∨ s = "java/lang/IllegalStateException" ∨ s = "java/lang/IndexOutOfBoundsException" ∨ s = "java/lang/UnsupportedOperationException" ∨ s = "java/util/NoSuchElementException")) := by
  refine sK (fun M h => tst_X11_narrow h) (fun M0 => ?_)
  refine sblk (hv := false) kbl_X11_narrow kbs_X11_narrow (pc := 0) (pe := 91) (rk := 3) (i := 0) rfl (by decide +kernel) ?_
  simp only [kb_X11_narrow_0, s_ald_0, s_ild_1, s_iv1, tfr_0, tfr_1, tfr_2, tfr_3, tfr_4, s_ild_3, s_ild_2, s_gf_13_5, s_aa, s_gf_13_3, s_iv2, s_ist4, tkl_n, tkl_i, tkl_l, tkl_r, s_ild4, s_gf_13_11, s_gf_13_4, s_iv0, s_if_ne, s_new, LR, IR, true_and, and_true, Nat.reduceAdd, Nat.reduceSub, eq_self]
  refine ⟨vok_of (s := 13) (by assumption) rfl, ?_⟩
  refine sc_xn (D := 0) (fun d' hd' => k_X11_checkShelf (by assumption) (by omega) hd') (by omega) rfl ?_ (fun s hs _ => Or.inr ⟨s, rfl, rfl, (fun h => Or.inr (Or.inr (Or.inl (h)))) hs⟩)
  intro h3_
  try simp only [s_ald_0, s_ild_3, s_iv1, tfr_0, tfr_1, tfr_2, tfr_3, tfr_4, s_ild_2, s_gf_13_5, s_aa, s_gf_13_3, s_iv2, s_ist4, tkl_n, tkl_i, tkl_l, tkl_r, s_ild4, s_gf_13_11, s_gf_13_4, s_iv0, s_if_ne, s_new, LR, IR, true_and, and_true, Nat.reduceAdd, Nat.reduceSub, eq_self]
  refine ⟨vok_of (s := 13) (by assumption) rfl, ?_⟩
  refine sc_xn (D := 0) (fun d' hd' => k_X11_checkShelf (by assumption) (by omega) hd') (by omega) rfl ?_ (fun s hs _ => Or.inr ⟨s, rfl, rfl, (fun h => Or.inr (Or.inr (Or.inl (h)))) hs⟩)
  intro h6_
  try simp only [s_ald_0, s_ild_2, s_iv1, tfr_0, tfr_1, tfr_2, tfr_3, tfr_4, s_ild_3, s_gf_13_5, s_aa, s_gf_13_3, s_iv2, s_ist4, tkl_n, tkl_i, tkl_l, tkl_r, s_ild4, s_gf_13_11, s_gf_13_4, s_iv0, s_if_ne, s_new, LR, IR, true_and, and_true, Nat.reduceAdd, Nat.reduceSub, eq_self]
  refine ⟨vok_of (s := 13) (by assumption) rfl, ?_⟩
  refine sc_xn (D := 0) (fun d' hd' => k_X11_checkFormula (by assumption) (by omega) hd') (by omega) rfl ?_ (fun s hs _ => Or.inr ⟨s, rfl, rfl, (fun h => Or.inr (Or.inr (Or.inl (h)))) hs⟩)
  intro h9_
  try simp only [s_ald_0, s_ild_2, s_iv1, tfr_0, tfr_1, tfr_2, tfr_3, tfr_4, s_ild_3, s_gf_13_5, s_aa, s_gf_13_3, s_iv2, s_ist4, tkl_n, tkl_i, tkl_l, tkl_r, s_ild4, s_gf_13_11, s_gf_13_4, s_iv0, s_if_ne, s_new, LR, IR, true_and, and_true, Nat.reduceAdd, Nat.reduceSub, eq_self]
  refine ⟨vok_of (s := 13) (by assumption) rfl, ?_⟩
  refine sc_xn (D := 0) (fun d' hd' => k_X11_checkDefined (by assumption) (by omega) hd') (by omega) rfl ?_ (fun s hs _ => Or.inr ⟨s, rfl, rfl, (fun h => Or.inr (Or.inr (Or.inr (Or.inr (h))))) hs⟩)
  intro h12_
  try simp only [s_ald_0, s_ild_3, s_iv1, tfr_0, tfr_1, tfr_2, tfr_3, tfr_4, s_ild_2, s_gf_13_5, s_aa, s_gf_13_3, s_iv2, s_ist4, tkl_n, tkl_i, tkl_l, tkl_r, s_ild4, s_gf_13_11, s_gf_13_4, s_iv0, s_if_ne, s_new, LR, IR, true_and, and_true, Nat.reduceAdd, Nat.reduceSub, eq_self]
  refine ⟨vok_of (s := 13) (by assumption) rfl, ?_⟩
  refine sc_xn (D := 2) (fun d' hd' => k_X11_checkHeld (by assumption) (by omega) hd') (by omega) rfl ?_ (fun s hs _ => Or.inr ⟨s, rfl, rfl, (fun h => Or.inr (Or.inr (Or.inr (Or.inr (h))))) hs⟩)
  intro h15_
  try simp only [s_ald_0, s_ild_2, s_iv1, tfr_0, tfr_1, tfr_2, tfr_3, tfr_4, s_gf_13_5, s_aa, s_gf_13_3, s_ild_3, s_iv2, s_ist4, tkl_n, tkl_i, tkl_l, tkl_r, s_ild4, s_gf_13_11, s_gf_13_4, s_iv0, s_if_ne, s_new, LR, IR, true_and, and_true, Nat.reduceAdd, Nat.reduceSub, eq_self]
  refine ⟨vok_of (s := 13) (by assumption) rfl, ?_⟩
  refine sc_xn (D := 0) (fun d' hd' => k_X11_checkNoY (by assumption) (by omega) hd') (by omega) rfl ?_ (fun s hs _ => Or.inr ⟨s, rfl, rfl, (fun h => Or.inr (Or.inr (Or.inr (Or.inl (h))))) hs⟩)
  intro h18_
  try simp only [s_ald_0, s_gf_13_5, s_ild_2, s_aa, s_gf_13_3, s_ild_3, s_iv1, tfr_0, tfr_1, tfr_2, tfr_3, tfr_4, s_iv2, s_ist4, tkl_n, tkl_i, tkl_l, tkl_r, s_ild4, s_gf_13_11, s_gf_13_4, s_iv0, s_if_ne, s_new, LR, IR, true_and, and_true, Nat.reduceAdd, Nat.reduceSub, eq_self]
  refine ⟨by assumption, fun x21_ h21_ => ?_⟩
  refine Or.inr ⟨aok_27 (by assumption) (by omega), fun x23_ h23_ => ?_⟩
  refine ⟨by assumption, fun x25_ h25_ => ?_⟩
  refine ⟨vok_of (s := 11) (by assumption) rfl, ?_⟩
  refine sc_r (D := 1) (fun d' hd' => k_X9_box (by assumption) (by omega) hd') (by omega) ?_
  intro x27_ h27_
  try simp only [s_iv2, tfr_0, tfr_1, tfr_2, tfr_3, tfr_4, s_ist4, tkl_n, tkl_i, tkl_l, tkl_r, s_ald_0, s_ild4, s_iv1, s_gf_13_11, s_gf_13_3, s_ild_3, s_gf_13_4, s_iv0, s_if_ne, s_new, LR, IR, true_and, and_true, Nat.reduceAdd, Nat.reduceSub, eq_self]
  refine ⟨vok_of (s := 13) (by assumption) rfl, ?_⟩
  refine sc_i (D := 9) (fun d' hd' => k_X11_makeNarrowed (by assumption) (by assumption) (by assumption) he (by omega) hd') (by omega) ?_
  intro x28_ h28_
  try simp only [s_ist4, tkl_n, tkl_i, tkl_l, tkl_r, s_ald_0, s_ild4, s_iv1, tfr_0, tfr_1, tfr_2, tfr_3, tfr_4, s_gf_13_11, s_gf_13_3, s_ild_3, s_gf_13_4, s_iv0, s_if_ne, s_new, LR, IR, true_and, and_true, Nat.reduceAdd, Nat.reduceSub, eq_self]
  refine ⟨vok_of (s := 13) (by assumption) rfl, ?_⟩
  refine sc_xn (D := 0) (fun d' hd' => k_X11_checkStatus (by assumption) (by omega) hd') (by omega) rfl ?_ (fun s hs _ => Or.inr ⟨s, rfl, rfl, (fun h => h.elim (fun h => Or.inl (h.2)) (fun h => Or.inr (Or.inl (h.2)))) hs⟩)
  intro h32_
  try simp only [s_ald_0, s_gf_13_11, s_gf_13_3, s_ild_3, s_iv1, tfr_0, tfr_1, tfr_2, tfr_3, tfr_4, s_gf_13_4, s_iv0, s_if_ne, s_new, LR, IR, true_and, and_true, Nat.reduceAdd, Nat.reduceSub, eq_self]
  refine ⟨by assumption, fun x34_ h34_ => ?_⟩
  refine ⟨by assumption, fun x36_ h36_ => ?_⟩
  refine ⟨vok_of (s := 11) (by assumption) rfl, ?_⟩
  refine sc_r (D := 1) (fun d' hd' => k_X9_box (by assumption) (by omega) hd') (by omega) ?_
  intro x38_ h38_
  try simp only [s_iv1, tfr_0, tfr_1, tfr_2, tfr_3, tfr_4, s_ald_0, s_gf_13_11, s_gf_13_4, s_iv0, s_if_ne, s_new, LR, IR, true_and, and_true, Nat.reduceAdd, Nat.reduceSub, eq_self]
  refine ⟨vok_of (s := 4) (by assumption) rfl, ?_⟩
  refine sc_n (D := 1) (fun d' hd' => k_X2_copy (by assumption) (by assumption) (by omega) hd') (by omega) ?_
  intro h39_
  try simp only [s_ald_0, s_gf_13_11, s_gf_13_4, s_iv0, tfr_0, tfr_1, tfr_2, tfr_3, tfr_4, s_iv1, s_if_ne, s_new, LR, IR, true_and, and_true, Nat.reduceAdd, Nat.reduceSub, eq_self]
  refine ⟨by assumption, fun x41_ h41_ => ?_⟩
  refine ⟨by assumption, fun x43_ h43_ => ?_⟩
  refine ⟨vok_of (s := 8) (by assumption) rfl, ?_⟩
  refine sc_r (D := 1) (fun d' hd' => k_X6_result (by assumption) hd') (by omega) ?_
  intro x44_ h44_
  try simp only [s_iv1, tfr_0, tfr_1, tfr_2, tfr_3, tfr_4, s_if_ne, s_new, LR, IR, true_and, and_true, Nat.reduceAdd, Nat.reduceSub, eq_self]
  refine ⟨vok_of (s := 4) (by assumption) rfl, ?_⟩
  refine sc_i (D := 1) (fun d' hd' => k_X2_cutDownTo (by assumption) (by assumption) (by omega) hd') (by omega) ?_
  intro x45_ h45_
  try simp only [s_if_ne, s_new, LR, IR, true_and, and_true, Nat.reduceAdd, Nat.reduceSub, eq_self]
  refine ⟨by omega, fun h46_ => ?_, fun h46_ => ?_⟩
  · refine sT_w ?_
    refine sblk (hv := false) kbl_X11_narrow kbs_X11_narrow (pc := 99) (pe := 109) (rk := 3) (i := 2) rfl (by decide +kernel) ?_
    simp only [kb_X11_narrow_99, s_ald_0, s_ild_1, s_gf_13_11, s_iv2, tfr_0, tfr_1, tfr_2, tfr_3, tfr_4, s_ire, trg, LR, IR, true_and, and_true, Nat.reduceAdd, Nat.reduceSub, eq_self]
    refine ⟨by assumption, fun x50_ h50_ => ?_⟩
    refine ⟨vok_of (s := 13) (by assumption) rfl, ?_⟩
    refine sc_i (D := 3) (fun d' hd' => k_X11_fill (by assumption) (by omega) (by assumption) (by omega) hd') (by omega) ?_
    intro x51_ h51_
    try simp only [s_ire, trg, LR, IR, true_and, and_true, Nat.reduceAdd, Nat.reduceSub, eq_self]
    exact ⟨by omega, fun _ _ _ _ => Or.inl ⟨_, rfl, rfl, by omega⟩⟩
  exact fun _ _ _ _ => Or.inr ⟨_, rfl, rfl, Or.inr (Or.inl (rfl))⟩
theorem k_X11_slope {e : tE} {b : Nat} {d n : Nat} {r : Nat} {x1 : Int} {x2 : Int} {x3 : Int} {x4 : Int} (h0 : cl r 13) (h1 : (-2147483648 ≤ x1 ∧ x1 ≤ 2147483647)) (h2 : (-2147483648 ≤ x2 ∧ x2 ≤ 2147483647)) (h3 : (-2147483648 ≤ x3 ∧ x3 ≤ 2147483647)) (h4 : (-2147483648 ≤ x4 ∧ x4 ≤ 2147483647)) (he : EO e) (hb : b = 0) (hd : 9 ≤ d) : sC e b d 3389 [.inr (.inr (.inl r)), .inl x1, .inl x2, .inl x3, .inl x4] n (SQx n (SQi n (fun z => (0 ≤ z ∧ z ≤ 1))) (fun s => s = "java/lang/ArithmeticException" ∨ s = "java/lang/IllegalStateException" ∨ s = "java/lang/IndexOutOfBoundsException" ∨ s = "java/util/NoSuchElementException")) := by
  refine sK (fun M h => tst_X11_slope h) (fun M0 => ?_)
  refine sblk (hv := false) kbl_X11_slope kbs_X11_slope (pc := 0) (pe := 52) (rk := 3) (i := 0) rfl (by decide +kernel) ?_
  simp only [kb_X11_slope_0, s_ald_0, s_ild_1, s_ild_2, s_ild_3, s_ild4, s_iv4, tfr_0, tfr_1, tfr_2, tfr_3, tfr_4, s_gf_13_4, s_gf_13_3, s_iv1, s_iv2, s_gf_13_5, s_aa, s_ire, trg, LR, IR, true_and, and_true, Nat.reduceAdd, Nat.reduceSub, eq_self]
  refine ⟨vok_of (s := 13) (by assumption) rfl, ?_⟩
  refine sc_xn (D := 3) (fun d' hd' => k_X11_checkFormulaCall (by assumption) (by omega) (by omega) (by omega) (by omega) hd') (by omega) rfl ?_ (fun s hs _ => Or.inr ⟨s, rfl, rfl, (fun h => h.elim (fun h => Or.inr (Or.inr (Or.inl (h)))) (fun h => Or.inr (Or.inr (Or.inr (h))))) hs⟩)
  intro h6_
  try simp only [s_ald_0, s_gf_13_4, s_gf_13_3, s_ild_3, s_iv1, tfr_0, tfr_1, tfr_2, tfr_3, tfr_4, s_ild4, s_iv2, s_ild_1, s_gf_13_5, s_ild_2, s_aa, s_ire, trg, LR, IR, true_and, and_true, Nat.reduceAdd, Nat.reduceSub, eq_self]
  refine ⟨by assumption, fun x8_ h8_ => ?_⟩
  refine ⟨by assumption, fun x10_ h10_ => ?_⟩
  refine ⟨vok_of (s := 11) (by assumption) rfl, ?_⟩
  refine sc_r (D := 1) (fun d' hd' => k_X9_box (by assumption) (by omega) hd') (by omega) ?_
  intro x12_ h12_
  try simp only [s_ald_0, s_gf_13_3, s_ild4, s_iv1, tfr_0, tfr_1, tfr_2, tfr_3, tfr_4, s_iv2, s_ild_1, s_gf_13_4, s_gf_13_5, s_ild_2, s_aa, s_ire, trg, LR, IR, true_and, and_true, Nat.reduceAdd, Nat.reduceSub, eq_self]
  refine ⟨by assumption, fun x14_ h14_ => ?_⟩
  refine ⟨vok_of (s := 11) (by assumption) rfl, ?_⟩
  refine sc_r (D := 1) (fun d' hd' => k_X9_box (by assumption) (by omega) hd') (by omega) ?_
  intro x16_ h16_
  try simp only [s_iv2, tfr_0, tfr_1, tfr_2, tfr_3, tfr_4, s_ald_0, s_ild_1, s_gf_13_4, s_gf_13_5, s_ild_2, s_aa, s_iv1, s_ire, trg, LR, IR, true_and, and_true, Nat.reduceAdd, Nat.reduceSub, eq_self]
  refine ⟨vok_of (s := 8) (by assumption) rfl, ?_⟩
  refine sc_n (D := 0) (fun d' hd' => k_X6_aim (by assumption) (by assumption) (by assumption) (by omega) hd') (by omega) ?_
  intro h17_
  try simp only [s_ald_0, s_ild_1, s_gf_13_4, s_gf_13_5, s_ild_2, s_aa, s_iv1, tfr_0, tfr_1, tfr_2, tfr_3, tfr_4, s_iv2, s_ire, trg, LR, IR, true_and, and_true, Nat.reduceAdd, Nat.reduceSub, eq_self]
  refine ⟨by assumption, fun x21_ h21_ => ?_⟩
  refine ⟨by assumption, fun x23_ h23_ => ?_⟩
  refine Or.inr ⟨aok_27 (by assumption) (by omega), fun x25_ h25_ => ?_⟩
  refine ⟨vok_of (s := 8) (by assumption) rfl, ?_⟩
  refine sc_i (D := 8) (fun d' hd' => k_X6_makeSlope (by assumption) (by assumption) he (by omega) hd') (by omega) ?_
  intro x26_ h26_
  try simp only [s_iv2, tfr_0, tfr_1, tfr_2, tfr_3, tfr_4, s_ire, trg, LR, IR, true_and, and_true, Nat.reduceAdd, Nat.reduceSub, eq_self]
  refine ⟨vok_of (s := 13) (by assumption) rfl, ?_⟩
  refine sc_xi (D := 4) (fun d' hd' => k_X11_become (by assumption) (by omega) (by omega) (by omega) hd') (by omega) rfl ?_ (fun s hs _ => Or.inr ⟨s, rfl, rfl, (fun h => h.elim (fun h => Or.inl (h.2)) (fun h => Or.inr (Or.inl (h.2)))) hs⟩)
  intro x27_ h27_
  try simp only [s_ire, trg, LR, IR, true_and, and_true, Nat.reduceAdd, Nat.reduceSub, eq_self]
  exact ⟨by omega, fun _ _ _ _ => Or.inl ⟨_, rfl, rfl, by omega⟩⟩
theorem k_X11_zeros {e : tE} {b : Nat} {d n : Nat} {r : Nat} {x1 : Int} {x2 : Int} {x3 : Int} (h0 : cl r 13) (h1 : (-2147483648 ≤ x1 ∧ x1 ≤ 2147483647)) (h2 : (-2147483648 ≤ x2 ∧ x2 ≤ 2147483647)) (h3 : (-2147483648 ≤ x3 ∧ x3 ≤ 2147483647)) (he : EO e) (hb : b = 0) (hd : 10 ≤ d) : sC e b d 3400 [.inr (.inr (.inl r)), .inl x1, .inl x2, .inl x3] n (SQx n (SQi n (fun z => (0 ≤ z ∧ z ≤ 8))) (fun s => s = "java/lang/IllegalArgumentException" ∨ s = "java/lang/IndexOutOfBoundsException" ∨ s = "java/lang/UnsupportedOperationException" ∨ s = "java/util/NoSuchElementException")) := by
  refine sK (fun M h => tst_X11_zeros h) (fun M0 => ?_)
  have n64 : ∀ (fu : Nat) (i4_64 : Int) (w5_64 : Option tV) (w6_64 : Option tV), 19 - i4_64 + 1 ≤ (fu : Int) → (0 ≤ i4_64 ∧ i4_64 ≤ 19) → (0 ≤ x1 ∧ x1 ≤ 3) → sT e b M0 d 3400 64 [] [some (.inr (.inr (.inl r))), some (.inl x1), some (.inl x2), some (.inl x3), some (.inl i4_64), w5_64, w6_64] [] n (fun r n' _ => (SQx n (SQi n (fun z => (0 ≤ z ∧ z ≤ 8))) (fun s => s = "java/lang/IllegalArgumentException" ∨ s = "java/lang/IndexOutOfBoundsException" ∨ s = "java/lang/UnsupportedOperationException" ∨ s = "java/util/NoSuchElementException")) r n') := by
    intro fu
    induction fu with
    | zero =>
      intro i4_64 w5_64 w6_64 hm y64_0 y64_1
      exfalso; omega
    | succ fu ih =>
      intro i4_64 w5_64 w6_64 hm y64_0 y64_1
      have ih64 := ih
      clear ih
      have n253 : ∀ (w5_253 : Option tV) (w6_253 : Option tV), sT e b M0 d 3400 253 [] [some (.inr (.inr (.inl r))), some (.inl x1), some (.inl x2), some (.inl x3), some (.inl i4_64), w5_253, w6_253] [] n (fun r n' _ => (SQx n (SQi n (fun z => (0 ≤ z ∧ z ≤ 8))) (fun s => s = "java/lang/IllegalArgumentException" ∨ s = "java/lang/IndexOutOfBoundsException" ∨ s = "java/lang/UnsupportedOperationException" ∨ s = "java/util/NoSuchElementException")) r n') := by
        intro w5_253 w6_253 
        refine sblk (hv := false) kbl_X11_zeros kbs_X11_zeros (pc := 253) (pe := 261) (rk := 0) (i := 4) rfl (by decide +kernel) ?_
        simp only [kb_X11_zeros_253, s_ald_0, s_gf_13_7, s_gf_9_3, s_ire, trg, LR, IR, true_and, and_true, Nat.reduceAdd, Nat.reduceSub, eq_self]
        refine ⟨by assumption, fun x2_ h2_ => ?_⟩
        refine ⟨by assumption, fun x3_ h3_ g3_ k3_ => ?_⟩
        clear k3_
        exact fun _ _ _ _ => Or.inl ⟨_, rfl, rfl, by omega⟩
      have n247 : ∀ (i5_247 : Int) (i6_247 : Int), (0 ≤ i4_64 ∧ i4_64 ≤ 15) → (-2147483648 ≤ i5_247 ∧ i5_247 ≤ 2147483647) → (32 ≤ i6_247 ∧ i6_247 ≤ 63) → sT e b M0 d 3400 247 [] [some (.inr (.inr (.inl r))), some (.inl x1), some (.inl x2), some (.inl x3), some (.inl i4_64), some (.inl i5_247), some (.inl i6_247)] [] n (fun r n' _ => (SQx n (SQi n (fun z => (0 ≤ z ∧ z ≤ 8))) (fun s => s = "java/lang/IllegalArgumentException" ∨ s = "java/lang/IndexOutOfBoundsException" ∨ s = "java/lang/UnsupportedOperationException" ∨ s = "java/util/NoSuchElementException")) r n') := by
        intro i5_247 i6_247 y247_0 y247_1 y247_2
        refine sblk (hv := false) kbl_X11_zeros kbs_X11_zeros (pc := 247) (pe := 253) (rk := 0) (i := 3) rfl (by decide +kernel) ?_
        simp only [kb_X11_zeros_247, s_inc4, tkl_n, tkl_i, tkl_l, tkl_r, s_goto, LR, IR, true_and, and_true, Nat.reduceAdd, Nat.reduceSub, eq_self]
        exact sT_w (ih64 _ _ _ (by omega) (by omega) (by omega))
      have n227 : ∀ (i5_227 : Int) (i6_227 : Int), (0 ≤ i4_64 ∧ i4_64 ≤ 15) → (-2147483648 ≤ i5_227 ∧ i5_227 ≤ 2147483647) → (32 ≤ i6_227 ∧ i6_227 ≤ 63) → sT e b M0 d 3400 227 [] [some (.inr (.inr (.inl r))), some (.inl x1), some (.inl x2), some (.inl x3), some (.inl i4_64), some (.inl i5_227), some (.inl i6_227)] [] n (fun r n' _ => (SQx n (SQi n (fun z => (0 ≤ z ∧ z ≤ 8))) (fun s => s = "java/lang/IllegalArgumentException" ∨ s = "java/lang/IndexOutOfBoundsException" ∨ s = "java/lang/UnsupportedOperationException" ∨ s = "java/util/NoSuchElementException")) r n') := by
        intro i5_227 i6_227 y227_0 y227_1 y227_2
        refine sblk (hv := false) kbl_X11_zeros kbs_X11_zeros (pc := 227) (pe := 247) (rk := 0) (i := 2) rfl (by decide +kernel) ?_
        simp only [kb_X11_zeros_227, s_ild6, s_bi, s_ic_eq, s_ald_0, s_gf_13_7, s_gf_13_11, s_iv2, tfr_0, tfr_1, tfr_2, tfr_3, tfr_4, s_nil, LR, IR, true_and, and_true, Nat.reduceAdd, Nat.reduceSub, eq_self]
        refine ⟨by omega, fun h9_ => ?_, fun h9_ => ?_⟩
        · exact sT_w (n247 _ _ (by omega) (by omega) (by omega))
        refine ⟨by assumption, fun x11_ h11_ => ?_⟩
        refine ⟨by assumption, fun x13_ h13_ => ?_⟩
        refine ⟨vok_of (s := 9) (by assumption) rfl, ?_⟩
        refine sc_n (D := 2) (fun d' hd' => k_X7_append (by assumption) (by assumption) (by omega) (by omega) hd') (by omega) ?_
        intro h15_
        try simp only [s_nil, LR, IR, true_and, and_true, Nat.reduceAdd, Nat.reduceSub, eq_self]
        exact sT_w (n247 _ _ (by omega) (by omega) (by omega))
      refine sblk (hv := false) kbl_X11_zeros kbs_X11_zeros (pc := 64) (pe := 227) (rk := 0) (i := 1) rfl (by decide +kernel) ?_
      simp only [kb_X11_zeros_64, s_ild4, s_bi, s_ic_ge, s_ald_0, s_gf_13_8, s_gf_9_3, s_if_le, s_gf_13_11, s_iv1, tfr_0, tfr_1, tfr_2, tfr_3, tfr_4, s_ist5, tkl_n, tkl_i, tkl_l, tkl_r, s_gf_13_5, s_ild_1, s_aa, s_iv2, s_ist6, s_ild6, s_ic_ne, s_ild5, s_ild_3, s_gf_13_12, s_gf_13_4, s_iv0, s_if_eq, s_gf_13_15, s_gf_4_0, s_gf_4_1, s_ic, s_iadd, s_goto, LR, IR, true_and, and_true, Nat.reduceAdd, Nat.reduceSub, eq_self]
      refine ⟨by omega, fun h18_ => ?_, fun h18_ => ?_⟩
      · exact sT_w (n253 _ _)
      refine ⟨by assumption, fun x20_ h20_ => ?_⟩
      refine ⟨by assumption, fun x21_ h21_ g21_ k21_ => ?_⟩
      clear k21_
      refine ⟨by omega, fun h22_ => ?_, fun h22_ => ?_⟩
      · exact sT_w (n253 _ _)
      refine ⟨by assumption, fun x24_ h24_ => ?_⟩
      refine ⟨by assumption, fun x26_ h26_ => ?_⟩
      refine ⟨vok_of (s := 9) (by assumption) rfl, ?_⟩
      refine sc_i (D := 2) (fun d' hd' => k_X7_takeLast (by assumption) (by assumption) (by omega) hd') (by omega) ?_
      intro x27_ h27_
      try simp only [s_ist5, tkl_n, tkl_i, tkl_l, tkl_r, s_ald_0, s_gf_13_5, s_ild_1, s_aa, s_gf_13_11, s_iv2, tfr_0, tfr_1, tfr_2, tfr_3, tfr_4, s_ist6, s_ild6, s_bi, s_ic_ne, s_ild5, s_ild_3, s_ic_ge, s_gf_13_12, s_gf_13_4, s_iv0, s_if_eq, s_gf_13_15, s_gf_4_0, s_iv1, s_gf_4_1, s_gf_13_8, s_ic, s_iadd, s_goto, LR, IR, true_and, and_true, Nat.reduceAdd, Nat.reduceSub, eq_self]
      refine ⟨by assumption, fun x31_ h31_ => ?_⟩
      refine Or.inr ⟨aok_27 (by assumption) (by omega), fun x33_ h33_ => ?_⟩
      refine ⟨by assumption, fun x35_ h35_ => ?_⟩
      refine ⟨vok_of (s := 13) (by assumption) rfl, ?_⟩
      refine sc_i (D := 9) (fun d' hd' => k_X11_judge (by assumption) (by assumption) (by assumption) he (by omega) hd') (by omega) ?_
      intro x36_ h36_
      try simp only [s_ist6, tkl_n, tkl_i, tkl_l, tkl_r, s_ild6, s_bi, s_ic_ne, s_ild5, s_ild_3, s_ic_ge, s_ald_0, s_gf_13_12, s_gf_13_11, s_gf_13_4, s_iv0, tfr_0, tfr_1, tfr_2, tfr_3, tfr_4, s_iv2, s_if_eq, s_gf_13_15, s_gf_4_0, s_iv1, s_gf_4_1, s_gf_13_8, s_ic, s_iadd, s_goto, LR, IR, true_and, and_true, Nat.reduceAdd, Nat.reduceSub, eq_self]
      refine ⟨by omega, fun h40_ => ?_, fun h40_ => ?_⟩
      · exact sT_w (n227 _ _ (by omega) (by omega) (by omega))
      refine ⟨by omega, fun h43_ => ?_, fun h43_ => ?_⟩
      · exact sT_w (n227 _ _ (by omega) (by omega) (by omega))
      refine ⟨by assumption, fun x45_ h45_ => ?_⟩
      refine ⟨by assumption, fun x47_ h47_ => ?_⟩
      refine ⟨by assumption, fun x49_ h49_ => ?_⟩
      refine ⟨vok_of (s := 8) (by assumption) rfl, ?_⟩
      refine sc_l (D := 0) (fun d' hd' => k_X6_unit (by assumption) hd') (by omega) ?_
      intro x50_ h50_
      try simp only [s_iv2, tfr_0, tfr_1, tfr_2, tfr_3, tfr_4, s_if_eq, s_ald_0, s_gf_13_15, s_gf_13_12, s_gf_4_0, s_iv1, s_gf_13_11, s_gf_4_1, s_gf_13_8, s_ild5, s_ic, s_iadd, s_goto, LR, IR, true_and, and_true, Nat.reduceAdd, Nat.reduceSub, eq_self]
      refine ⟨vok_of (s := 4) (by assumption) rfl, ?_⟩
      refine sc_i (D := 2) (fun d' hd' => k_X2_toMiddle (by assumption) (by assumption) (by omega) (by omega) hd') (by omega) ?_
      intro x51_ h51_
      try simp only [s_if_eq, s_ald_0, s_gf_13_15, s_gf_13_12, s_gf_4_0, s_iv1, tfr_0, tfr_1, tfr_2, tfr_3, tfr_4, s_gf_13_11, s_gf_4_1, s_iv2, s_gf_13_8, s_ild5, s_ic, s_iadd, s_goto, LR, IR, true_and, and_true, Nat.reduceAdd, Nat.reduceSub, eq_self]
      refine ⟨by omega, fun h52_ => ?_, fun h52_ => ?_⟩
      · exact sT_w (n227 _ _ (by omega) (by omega) (by omega))
      refine ⟨by assumption, fun x54_ h54_ => ?_⟩
      refine ⟨by assumption, fun x56_ h56_ => ?_⟩
      refine ⟨by assumption, fun x57_ h57_ => ?_⟩
      refine ⟨vok_of (s := 3) (by assumption) rfl, ?_⟩
      refine sc_n (D := 0) (fun d' hd' => k_X1_copy (by assumption) (by assumption) (by omega) hd') (by omega) ?_
      intro h58_
      try simp only [s_ald_0, s_gf_13_12, s_gf_13_15, s_gf_13_11, s_gf_4_1, s_iv2, tfr_0, tfr_1, tfr_2, tfr_3, tfr_4, s_gf_13_8, s_ild5, s_ic, s_iadd, s_gf_4_0, s_goto, LR, IR, true_and, and_true, Nat.reduceAdd, Nat.reduceSub, eq_self]
      refine ⟨by assumption, fun x60_ h60_ => ?_⟩
      refine ⟨by assumption, fun x62_ h62_ => ?_⟩
      refine ⟨by assumption, fun x64_ h64_ => ?_⟩
      refine ⟨by assumption, fun x65_ h65_ => ?_⟩
      refine ⟨vok_of (s := 4) (by assumption) rfl, ?_⟩
      refine sc_n (D := 1) (fun d' hd' => k_X2_between (by assumption) (by assumption) (by assumption) (by omega) hd') (by omega) ?_
      intro h66_
      try simp only [s_ald_0, s_gf_13_8, s_gf_13_12, s_ild5, s_ic, s_iadd, s_iv2, tfr_0, tfr_1, tfr_2, tfr_3, tfr_4, s_gf_13_11, s_gf_4_0, s_gf_13_15, s_goto, LR, IR, true_and, and_true, Nat.reduceAdd, Nat.reduceSub, eq_self]
      refine ⟨by assumption, fun x68_ h68_ => ?_⟩
      refine ⟨by assumption, fun x70_ h70_ => ?_⟩
      refine ⟨vok_of (s := 9) (by assumption) rfl, ?_⟩
      refine sc_n (D := 2) (fun d' hd' => k_X7_append (by assumption) (by assumption) (by omega) (by omega) hd') (by omega) ?_
      intro h74_
      try simp only [s_ald_0, s_gf_13_12, s_gf_13_11, s_gf_4_0, s_gf_13_15, s_iv2, tfr_0, tfr_1, tfr_2, tfr_3, tfr_4, s_gf_13_8, s_ild5, s_ic, s_iadd, s_goto, LR, IR, true_and, and_true, Nat.reduceAdd, Nat.reduceSub, eq_self]
      refine ⟨by assumption, fun x76_ h76_ => ?_⟩
      refine ⟨by assumption, fun x78_ h78_ => ?_⟩
      refine ⟨by assumption, fun x79_ h79_ => ?_⟩
      refine ⟨by assumption, fun x81_ h81_ => ?_⟩
      refine ⟨vok_of (s := 4) (by assumption) rfl, ?_⟩
      refine sc_n (D := 1) (fun d' hd' => k_X2_between (by assumption) (by assumption) (by assumption) (by omega) hd') (by omega) ?_
      intro h82_
      try simp only [s_ald_0, s_gf_13_8, s_gf_13_12, s_ild5, s_ic, s_iadd, s_iv2, tfr_0, tfr_1, tfr_2, tfr_3, tfr_4, s_goto, LR, IR, true_and, and_true, Nat.reduceAdd, Nat.reduceSub, eq_self]
      refine ⟨by assumption, fun x84_ h84_ => ?_⟩
      refine ⟨by assumption, fun x86_ h86_ => ?_⟩
      refine ⟨vok_of (s := 9) (by assumption) rfl, ?_⟩
      refine sc_n (D := 2) (fun d' hd' => k_X7_append (by assumption) (by assumption) (by omega) (by omega) hd') (by omega) ?_
      intro h90_
      try simp only [s_goto, LR, IR, true_and, and_true, Nat.reduceAdd, Nat.reduceSub, eq_self]
      exact sT_w (n247 _ _ (by omega) (by omega) (by omega))
  refine sblk (hv := false) kbl_X11_zeros kbs_X11_zeros (pc := 0) (pe := 64) (rk := 0) (i := 0) rfl (by decide +kernel) ?_
  simp only [kb_X11_zeros_0, s_ald_0, s_ild_2, s_iv1, tfr_0, tfr_1, tfr_2, tfr_3, tfr_4, s_ild_1, s_ild_3, s_ic, s_iv2, s_gf_13_7, s_iv0, s_gf_13_8, s_gf_13_3, s_ist4, tkl_n, tkl_i, tkl_l, tkl_r, s_nil, LR, IR, true_and, and_true, Nat.reduceAdd, Nat.reduceSub, eq_self]
  refine ⟨vok_of (s := 13) (by assumption) rfl, ?_⟩
  refine sc_xn (D := 0) (fun d' hd' => k_X11_checkShelf (by assumption) (by omega) hd') (by omega) rfl ?_ (fun s hs _ => Or.inr ⟨s, rfl, rfl, (fun h => Or.inr (Or.inl (h))) hs⟩)
  intro h94_
  try simp only [s_ald_0, s_ild_1, s_iv1, tfr_0, tfr_1, tfr_2, tfr_3, tfr_4, s_ild_3, s_ic, s_iv2, s_ild_2, s_gf_13_7, s_iv0, s_gf_13_8, s_gf_13_3, s_ist4, tkl_n, tkl_i, tkl_l, tkl_r, s_nil, LR, IR, true_and, and_true, Nat.reduceAdd, Nat.reduceSub, eq_self]
  refine ⟨vok_of (s := 13) (by assumption) rfl, ?_⟩
  refine sc_xn (D := 0) (fun d' hd' => k_X11_checkFormula (by assumption) (by omega) hd') (by omega) rfl ?_ (fun s hs _ => Or.inr ⟨s, rfl, rfl, (fun h => Or.inr (Or.inl (h))) hs⟩)
  intro h97_
  try simp only [s_ald_0, s_ild_3, s_ic, s_iv2, tfr_0, tfr_1, tfr_2, tfr_3, tfr_4, s_ild_1, s_iv1, s_ild_2, s_gf_13_7, s_iv0, s_gf_13_8, s_gf_13_3, s_ist4, tkl_n, tkl_i, tkl_l, tkl_r, s_nil, LR, IR, true_and, and_true, Nat.reduceAdd, Nat.reduceSub, eq_self]
  refine ⟨vok_of (s := 13) (by assumption) rfl, ?_⟩
  refine sc_xn (D := 0) (fun d' hd' => k_X11_checkCuts (by assumption) (by omega) (by omega) hd') (by omega) rfl ?_ (fun s hs _ => Or.inr ⟨s, rfl, rfl, (fun h => Or.inl (h)) hs⟩)
  intro h101_
  try simp only [s_ald_0, s_ild_1, s_iv1, tfr_0, tfr_1, tfr_2, tfr_3, tfr_4, s_ild_2, s_gf_13_7, s_iv0, s_gf_13_8, s_gf_13_3, s_ic, s_iv2, s_ist4, tkl_n, tkl_i, tkl_l, tkl_r, s_nil, LR, IR, true_and, and_true, Nat.reduceAdd, Nat.reduceSub, eq_self]
  refine ⟨vok_of (s := 13) (by assumption) rfl, ?_⟩
  refine sc_xn (D := 0) (fun d' hd' => k_X11_checkDefined (by assumption) (by omega) hd') (by omega) rfl ?_ (fun s hs _ => Or.inr ⟨s, rfl, rfl, (fun h => Or.inr (Or.inr (Or.inr (h)))) hs⟩)
  intro h104_
  try simp only [s_ald_0, s_ild_2, s_iv1, tfr_0, tfr_1, tfr_2, tfr_3, tfr_4, s_ild_1, s_gf_13_7, s_iv0, s_gf_13_8, s_gf_13_3, s_ic, s_iv2, s_ist4, tkl_n, tkl_i, tkl_l, tkl_r, s_nil, LR, IR, true_and, and_true, Nat.reduceAdd, Nat.reduceSub, eq_self]
  refine ⟨vok_of (s := 13) (by assumption) rfl, ?_⟩
  refine sc_xn (D := 2) (fun d' hd' => k_X11_checkHeld (by assumption) (by omega) hd') (by omega) rfl ?_ (fun s hs _ => Or.inr ⟨s, rfl, rfl, (fun h => Or.inr (Or.inr (Or.inr (h)))) hs⟩)
  intro h107_
  try simp only [s_ald_0, s_ild_1, s_iv1, tfr_0, tfr_1, tfr_2, tfr_3, tfr_4, s_gf_13_7, s_iv0, s_gf_13_8, s_gf_13_3, s_ild_2, s_ic, s_iv2, s_ist4, tkl_n, tkl_i, tkl_l, tkl_r, s_nil, LR, IR, true_and, and_true, Nat.reduceAdd, Nat.reduceSub, eq_self]
  refine ⟨vok_of (s := 13) (by assumption) rfl, ?_⟩
  refine sc_xn (D := 0) (fun d' hd' => k_X11_checkNoY (by assumption) (by omega) hd') (by omega) rfl ?_ (fun s hs _ => Or.inr ⟨s, rfl, rfl, (fun h => Or.inr (Or.inr (Or.inl (h)))) hs⟩)
  intro h110_
  try simp only [s_ald_0, s_gf_13_7, s_iv0, tfr_0, tfr_1, tfr_2, tfr_3, tfr_4, s_gf_13_8, s_gf_13_3, s_ild_2, s_iv1, s_ic, s_iv2, s_ist4, tkl_n, tkl_i, tkl_l, tkl_r, s_nil, LR, IR, true_and, and_true, Nat.reduceAdd, Nat.reduceSub, eq_self]
  refine ⟨by assumption, fun x112_ h112_ => ?_⟩
  refine ⟨vok_of (s := 9) (by assumption) rfl, ?_⟩
  refine sc_n (D := 0) (fun d' hd' => k_X7_clear (by assumption) (by omega) hd') (by omega) ?_
  intro h113_
  try simp only [s_ald_0, s_gf_13_8, s_iv0, tfr_0, tfr_1, tfr_2, tfr_3, tfr_4, s_gf_13_3, s_ild_2, s_iv1, s_ic, s_iv2, s_ist4, tkl_n, tkl_i, tkl_l, tkl_r, s_nil, LR, IR, true_and, and_true, Nat.reduceAdd, Nat.reduceSub, eq_self]
  refine ⟨by assumption, fun x115_ h115_ => ?_⟩
  refine ⟨vok_of (s := 9) (by assumption) rfl, ?_⟩
  refine sc_n (D := 0) (fun d' hd' => k_X7_clear (by assumption) (by omega) hd') (by omega) ?_
  intro h116_
  try simp only [s_ald_0, s_gf_13_8, s_gf_13_3, s_ild_2, s_iv1, tfr_0, tfr_1, tfr_2, tfr_3, tfr_4, s_ic, s_iv2, s_ist4, tkl_n, tkl_i, tkl_l, tkl_r, s_nil, LR, IR, true_and, and_true, Nat.reduceAdd, Nat.reduceSub, eq_self]
  refine ⟨by assumption, fun x118_ h118_ => ?_⟩
  refine ⟨by assumption, fun x120_ h120_ => ?_⟩
  refine ⟨vok_of (s := 11) (by assumption) rfl, ?_⟩
  refine sc_r (D := 1) (fun d' hd' => k_X9_box (by assumption) (by omega) hd') (by omega) ?_
  intro x122_ h122_
  try simp only [s_ic, s_iv2, tfr_0, tfr_1, tfr_2, tfr_3, tfr_4, s_ist4, tkl_n, tkl_i, tkl_l, tkl_r, s_nil, LR, IR, true_and, and_true, Nat.reduceAdd, Nat.reduceSub, eq_self]
  refine ⟨vok_of (s := 9) (by assumption) rfl, ?_⟩
  refine sc_n (D := 2) (fun d' hd' => k_X7_append (by assumption) (by assumption) (by omega) (by omega) hd') (by omega) ?_
  intro h124_
  try simp only [s_ic, s_ist4, tkl_n, tkl_i, tkl_l, tkl_r, s_nil, LR, IR, true_and, and_true, Nat.reduceAdd, Nat.reduceSub, eq_self]
  exact sT_w (n64 4294967400 _ _ _ (by omega) (by omega) (by omega))
