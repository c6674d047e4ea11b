/-! THE CLASS: methods, printed by wip/p2/gen/sgen.py. -/
theorem k_X9_holds {e : tE} {b : Nat} {d n : Nat} {r : Nat} {x1 : Int} (h0 : cl r 11) (h1 : (-2147483648 ≤ x1 ∧ x1 ≤ 2147483647)) (hd : 1 ≤ d) : sC e b d 2819 [.inr (.inr (.inl r)), .inl x1] n (SQi n (fun z => (0 ≤ z ∧ z ≤ 1) ∧ (z = 1 → (0 ≤ x1 ∧ x1 ≤ 9)))) := by
  refine sK (fun M h => tst_X9_holds h) (fun M0 => ?_)
  have n22 : ∀ (is0_22 : Int), (0 ≤ is0_22 ∧ is0_22 ≤ 1) → (is0_22 = 1 → 0 ≤ x1 ∧ x1 ≤ 9) → sT e b M0 d 2819 22 [] [some (.inr (.inr (.inl r))), some (.inl x1)] [.inl is0_22] n (fun r n' _ => (SQi n (fun z => (0 ≤ z ∧ z ≤ 1) ∧ (z = 1 → (0 ≤ x1 ∧ x1 ≤ 9)))) r n') := by
    intro is0_22 y22_0 y22_1
    refine sblk (hv := false) kbl_X9_holds kbs_X9_holds (pc := 22) (pe := 23) (rk := 3) (i := 2) rfl (by decide +kernel) ?_
    simp only [kb_X9_holds_22, s_ire, trg, LR, IR, true_and, and_true, Nat.reduceAdd, Nat.reduceSub, eq_self]
    exact ⟨by omega, fun _ _ _ _ => ⟨_, rfl, rfl, by omega⟩⟩
  have n21 : sT e b M0 d 2819 21 [] [some (.inr (.inr (.inl r))), some (.inl x1)] [] n (fun r n' _ => (SQi n (fun z => (0 ≤ z ∧ z ≤ 1) ∧ (z = 1 → (0 ≤ x1 ∧ x1 ≤ 9)))) r n') := by
    refine sblk (hv := false) kbl_X9_holds kbs_X9_holds (pc := 21) (pe := 22) (rk := 3) (i := 1) rfl (by decide +kernel) ?_
    simp only [kb_X9_holds_21, s_ic, s_nil, LR, IR, true_and, and_true, Nat.reduceAdd, Nat.reduceSub, eq_self]
    exact sT_w (n22 _ (by omega) (by omega))
  refine sblk (hv := false) kbl_X9_holds kbs_X9_holds (pc := 0) (pe := 21) (rk := 3) (i := 0) rfl (by decide +kernel) ?_
  simp only [kb_X9_holds_0, s_ald_0, s_ild_1, s_iv1, tfr_0, tfr_1, tfr_2, tfr_3, tfr_4, s_if_eq, s_gf_11_1, s_ba, s_ic, s_goto, LR, IR, true_and, and_true, Nat.reduceAdd, Nat.reduceSub, eq_self]
  refine ⟨vok_of (s := 11) (by assumption) rfl, ?_⟩
  refine sc_i (D := 0) (fun d' hd' => k_X9_isShelf (by assumption) (by omega) hd') (by omega) ?_
  intro x5_ h5_
  try simp only [s_if_eq, s_ald_0, s_gf_11_1, s_ild_1, s_ba, s_ic, s_goto, LR, IR, true_and, and_true, Nat.reduceAdd, Nat.reduceSub, eq_self]
  refine ⟨by omega, fun h6_ => ?_, fun h6_ => ?_⟩
  · exact sT_w (n21)
  refine ⟨by assumption, fun x8_ h8_ => ?_⟩
  refine ⟨aok_17 (by assumption) (by omega), fun x10_ g10_ => ?_⟩
  have h10_ := arg_17 (by assumption) g10_
  clear g10_
  refine ⟨by omega, fun h11_ => ?_, fun h11_ => ?_⟩
  · exact sT_w (n21)
  exact sT_w (n22 _ (by omega) (by omega))
theorem k_X11_checkHeld {e : tE} {b : Nat} {d n : Nat} {r : Nat} {x1 : Int} (h0 : cl r 13) (h1 : (-2147483648 ≤ x1 ∧ x1 ≤ 2147483647)) (hd : 2 ≤ d) : sC e b d 3340 [.inr (.inr (.inl r)), .inl x1] n (SQx n (SQn n ((0 ≤ x1 ∧ x1 ≤ 9))) (fun s => s = "java/util/NoSuchElementException")) := by
  refine sK (fun M h => tst_X11_checkHeld h) (fun M0 => ?_)
  refine sblk (hv := false) kbl_X11_checkHeld kbs_X11_checkHeld (pc := 0) (pe := 14) (rk := 9) (i := 0) rfl (by decide +kernel) ?_
  simp only [kb_X11_checkHeld_0, s_ald_0, s_gf_13_3, s_ild_1, s_iv1, tfr_0, tfr_1, tfr_2, tfr_3, tfr_4, s_if_ne, s_new, LR, IR, true_and, and_true, Nat.reduceAdd, Nat.reduceSub, eq_self]
  refine ⟨by assumption, fun x2_ h2_ => ?_⟩
  refine ⟨vok_of (s := 11) (by assumption) rfl, ?_⟩
  refine sc_i (D := 1) (fun d' hd' => k_X9_holds (by assumption) (by omega) hd') (by omega) ?_
  intro x4_ h4_
  try simp only [s_if_ne, s_new, LR, IR, true_and, and_true, Nat.reduceAdd, Nat.reduceSub, eq_self]
  refine ⟨by omega, fun h5_ => ?_, fun h5_ => ?_⟩
  · refine sT_w ?_
    refine sblk (hv := false) kbl_X11_checkHeld kbs_X11_checkHeld (pc := 22) (pe := 23) (rk := 9) (i := 2) rfl (by decide +kernel) ?_
    simp only [kb_X11_checkHeld_22, s_re, LR, IR, true_and, and_true, Nat.reduceAdd, Nat.reduceSub, eq_self]
    exact fun _ _ _ _ => Or.inl ⟨rfl, rfl, by first | trivial | omega⟩
  exact fun _ _ _ _ => Or.inr ⟨_, rfl, rfl, rfl⟩
theorem k_X11_checkShelf {e : tE} {b : Nat} {d n : Nat} {r : Nat} {x1 : Int} (h0 : cl r 13) (h1 : (-2147483648 ≤ x1 ∧ x1 ≤ 2147483647)) (hd : 0 ≤ d) : sC e b d 3344 [.inr (.inr (.inl r)), .inl x1] n (SQx n (SQn n ((0 ≤ x1 ∧ x1 ≤ 9))) (fun s => s = "java/lang/IndexOutOfBoundsException")) := by
  refine sK (fun M h => tst_X11_checkShelf h) (fun M0 => ?_)
  have n10 : sT e b M0 d 3344 10 [] [some (.inr (.inr (.inl r))), some (.inl x1)] [] n (fun r n' _ => (SQx n (SQn n ((0 ≤ x1 ∧ x1 ≤ 9))) (fun s => s = "java/lang/IndexOutOfBoundsException")) r n') := by
    refine sblk (hv := false) kbl_X11_checkShelf kbs_X11_checkShelf (pc := 10) (pe := 13) (rk := 9) (i := 1) rfl (by decide +kernel) ?_
    simp only [kb_X11_checkShelf_10, s_new, LR, IR, true_and, and_true, Nat.reduceAdd, Nat.reduceSub, eq_self]
    exact fun _ _ _ _ => Or.inr ⟨_, rfl, rfl, rfl⟩
  refine sblk (hv := false) kbl_X11_checkShelf kbs_X11_checkShelf (pc := 0) (pe := 10) (rk := 9) (i := 0) rfl (by decide +kernel) ?_
  simp only [kb_X11_checkShelf_0, s_ild_1, s_if_lt, s_bi, s_ic_lt, s_nil, LR, IR, true_and, and_true, Nat.reduceAdd, Nat.reduceSub, eq_self]
  refine ⟨by omega, fun h3_ => ?_, fun h3_ => ?_⟩
  · exact sT_w (n10)
  refine ⟨by omega, fun h6_ => ?_, fun h6_ => ?_⟩
  · refine sT_w ?_
    refine sblk (hv := false) kbl_X11_checkShelf kbs_X11_checkShelf (pc := 21) (pe := 22) (rk := 9) (i := 3) rfl (by decide +kernel) ?_
    simp only [kb_X11_checkShelf_21, s_re, LR, IR, true_and, and_true, Nat.reduceAdd, Nat.reduceSub, eq_self]
    exact fun _ _ _ _ => Or.inl ⟨rfl, rfl, by first | trivial | omega⟩
  exact sT_w (n10)
theorem k_X11_checkShelves {e : tE} {b : Nat} {d n : Nat} {r : Nat} {x1 : Int} {x2 : Int} {x3 : Int} (h0 : cl r 13) (h1 : (-2147483648 ≤ x1 ∧ x1 ≤ 2147483647)) (h2 : (-2147483648 ≤ x2 ∧ x2 ≤ 2147483647)) (h3 : (-2147483648 ≤ x3 ∧ x3 ≤ 2147483647)) (hd : 1 ≤ d) : sC e b d 3345 [.inr (.inr (.inl r)), .inl x1, .inl x2, .inl x3] n (SQx n (SQn n ((0 ≤ x1 ∧ x1 ≤ 9) ∧ (0 ≤ x2 ∧ x2 ≤ 9) ∧ (0 ≤ x3 ∧ x3 ≤ 9))) (fun s => s = "java/lang/IndexOutOfBoundsException")) := by
  refine sK (fun M h => tst_X11_checkShelves h) (fun M0 => ?_)
  refine sblk (hv := false) kbl_X11_checkShelves kbs_X11_checkShelves (pc := 0) (pe := 16) (rk := 9) (i := 0) rfl (by decide +kernel) ?_
  simp only [kb_X11_checkShelves_0, s_ald_0, s_ild_1, s_iv1, tfr_0, tfr_1, tfr_2, tfr_3, tfr_4, s_ild_2, s_ild_3, s_re, LR, IR, true_and, and_true, Nat.reduceAdd, Nat.reduceSub, eq_self]
  refine ⟨vok_of (s := 13) (by assumption) rfl, ?_⟩
  refine sc_xn (D := 0) (fun d' hd' => k_X11_checkShelf (by assumption) (by omega) hd') (by omega) rfl ?_ (fun s hs _ => Or.inr ⟨s, rfl, rfl, (fun h => h) hs⟩)
  intro h3_
  try simp only [s_ald_0, s_ild_2, s_iv1, tfr_0, tfr_1, tfr_2, tfr_3, tfr_4, s_ild_3, s_re, LR, IR, true_and, and_true, Nat.reduceAdd, Nat.reduceSub, eq_self]
  refine ⟨vok_of (s := 13) (by assumption) rfl, ?_⟩
  refine sc_xn (D := 0) (fun d' hd' => k_X11_checkShelf (by assumption) (by omega) hd') (by omega) rfl ?_ (fun s hs _ => Or.inr ⟨s, rfl, rfl, (fun h => h) hs⟩)
  intro h6_
  try simp only [s_ald_0, s_ild_3, s_iv1, tfr_0, tfr_1, tfr_2, tfr_3, tfr_4, s_re, LR, IR, true_and, and_true, Nat.reduceAdd, Nat.reduceSub, eq_self]
  refine ⟨vok_of (s := 13) (by assumption) rfl, ?_⟩
  refine sc_xn (D := 0) (fun d' hd' => k_X11_checkShelf (by assumption) (by omega) hd') (by omega) rfl ?_ (fun s hs _ => Or.inr ⟨s, rfl, rfl, (fun h => h) hs⟩)
  intro h9_
  try simp only [s_re, LR, IR, true_and, and_true, Nat.reduceAdd, Nat.reduceSub, eq_self]
  exact fun _ _ _ _ => Or.inl ⟨rfl, rfl, by first | trivial | omega⟩
theorem k_X11_checkCuts {e : tE} {b : Nat} {d n : Nat} {r : Nat} {x1 : Int} {x2 : Int} (h0 : cl r 13) (h1 : (-2147483648 ≤ x1 ∧ x1 ≤ 2147483647)) (h2 : (2 ≤ x2 ∧ x2 ≤ 3)) (hd : 0 ≤ d) : sC e b d 3336 [.inr (.inr (.inl r)), .inl x1, .inl x2] n (SQx n (SQn n (0 ≤ x1 ∧ x1 ≤ x2)) (fun s => s = "java/lang/IllegalArgumentException")) := by
  refine sK (fun M h => tst_X11_checkCuts h) (fun M0 => ?_)
  have n9 : (2 ≤ x2 ∧ x2 ≤ 3) → sT e b M0 d 3336 9 [] [some (.inr (.inr (.inl r))), some (.inl x1), some (.inl x2)] [] n (fun r n' _ => (SQx n (SQn n (0 ≤ x1 ∧ x1 ≤ x2)) (fun s => s = "java/lang/IllegalArgumentException")) r n') := by
    intro  y9_0
    refine sblk (hv := false) kbl_X11_checkCuts kbs_X11_checkCuts (pc := 9) (pe := 12) (rk := 9) (i := 1) rfl (by decide +kernel) ?_
    simp only [kb_X11_checkCuts_9, s_new, LR, IR, true_and, and_true, Nat.reduceAdd, Nat.reduceSub, eq_self]
    exact fun _ _ _ _ => Or.inr ⟨_, rfl, rfl, rfl⟩
  refine sblk (hv := false) kbl_X11_checkCuts kbs_X11_checkCuts (pc := 0) (pe := 9) (rk := 9) (i := 0) rfl (by decide +kernel) ?_
  simp only [kb_X11_checkCuts_0, s_ild_1, s_if_lt, s_ild_2, s_ic_le, s_nil, LR, IR, true_and, and_true, Nat.reduceAdd, Nat.reduceSub, eq_self]
  refine ⟨by omega, fun h3_ => ?_, fun h3_ => ?_⟩
  · exact sT_w (n9 (by omega))
  refine ⟨by omega, fun h6_ => ?_, fun h6_ => ?_⟩
  · refine sT_w ?_
    refine sblk (hv := false) kbl_X11_checkCuts kbs_X11_checkCuts (pc := 20) (pe := 21) (rk := 9) (i := 3) rfl (by decide +kernel) ?_
    simp only [kb_X11_checkCuts_20, s_re, LR, IR, true_and, and_true, Nat.reduceAdd, Nat.reduceSub, eq_self]
    exact fun _ _ _ _ => Or.inl ⟨rfl, rfl, by first | trivial | omega⟩
  exact sT_w (n9 (by omega))
theorem k_X11_checkDefined {e : tE} {b : Nat} {d n : Nat} {r : Nat} {x1 : Int} (h0 : cl r 13) (h1 : (0 ≤ x1 ∧ x1 ≤ 3)) (hd : 0 ≤ d) : sC e b d 3337 [.inr (.inr (.inl r)), .inl x1] n (SQx n (SQn n (True)) (fun s => s = "java/util/NoSuchElementException")) := by
  refine sK (fun M h => tst_X11_checkDefined h) (fun M0 => ?_)
  refine sblk (hv := false) kbl_X11_checkDefined kbs_X11_checkDefined (pc := 0) (pe := 15) (rk := 9) (i := 0) rfl (by decide +kernel) ?_
  simp only [kb_X11_checkDefined_0, s_ald_0, s_gf_13_5, s_ild_1, s_aa, s_gf_7_6, s_if_ne, s_new, LR, IR, true_and, and_true, Nat.reduceAdd, Nat.reduceSub, eq_self]
  refine ⟨by assumption, fun x2_ h2_ => ?_⟩
  refine Or.inr ⟨aok_27 (by assumption) (by omega), fun x4_ h4_ => ?_⟩
  refine ⟨by assumption, fun x5_ h5_ g5_ k5_ => ?_⟩
  clear k5_
  refine ⟨by omega, fun h6_ => ?_, fun h6_ => ?_⟩
  · refine sT_w ?_
    refine sblk (hv := false) kbl_X11_checkDefined kbs_X11_checkDefined (pc := 23) (pe := 24) (rk := 9) (i := 2) rfl (by decide +kernel) ?_
    simp only [kb_X11_checkDefined_23, s_re, LR, IR, true_and, and_true, Nat.reduceAdd, Nat.reduceSub, eq_self]
    exact fun _ _ _ _ => Or.inl ⟨rfl, rfl, by first | trivial | omega⟩
  exact fun _ _ _ _ => Or.inr ⟨_, rfl, rfl, rfl⟩
theorem k_X11_checkFormula {e : tE} {b : Nat} {d n : Nat} {r : Nat} {x1 : Int} (h0 : cl r 13) (h1 : (-2147483648 ≤ x1 ∧ x1 ≤ 2147483647)) (hd : 0 ≤ d) : sC e b d 3338 [.inr (.inr (.inl r)), .inl x1] n (SQx n (SQn n ((0 ≤ x1 ∧ x1 ≤ 3))) (fun s => s = "java/lang/IndexOutOfBoundsException")) := by
  refine sK (fun M h => tst_X11_checkFormula h) (fun M0 => ?_)
  have n9 : sT e b M0 d 3338 9 [] [some (.inr (.inr (.inl r))), some (.inl x1)] [] n (fun r n' _ => (SQx n (SQn n ((0 ≤ x1 ∧ x1 ≤ 3))) (fun s => s = "java/lang/IndexOutOfBoundsException")) r n') := by
    refine sblk (hv := false) kbl_X11_checkFormula kbs_X11_checkFormula (pc := 9) (pe := 12) (rk := 9) (i := 1) rfl (by decide +kernel) ?_
    simp only [kb_X11_checkFormula_9, s_new, LR, IR, true_and, and_true, Nat.reduceAdd, Nat.reduceSub, eq_self]
    exact fun _ _ _ _ => Or.inr ⟨_, rfl, rfl, rfl⟩
  refine sblk (hv := false) kbl_X11_checkFormula kbs_X11_checkFormula (pc := 0) (pe := 9) (rk := 9) (i := 0) rfl (by decide +kernel) ?_
  simp only [kb_X11_checkFormula_0, s_ild_1, s_if_lt, s_ic, s_ic_lt, s_nil, LR, IR, true_and, and_true, Nat.reduceAdd, Nat.reduceSub, eq_self]
  refine ⟨by omega, fun h3_ => ?_, fun h3_ => ?_⟩
  · exact sT_w (n9)
  refine ⟨by omega, fun h6_ => ?_, fun h6_ => ?_⟩
  · refine sT_w ?_
    refine sblk (hv := false) kbl_X11_checkFormula kbs_X11_checkFormula (pc := 20) (pe := 21) (rk := 9) (i := 3) rfl (by decide +kernel) ?_
    simp only [kb_X11_checkFormula_20, s_re, LR, IR, true_and, and_true, Nat.reduceAdd, Nat.reduceSub, eq_self]
    exact fun _ _ _ _ => Or.inl ⟨rfl, rfl, by first | trivial | omega⟩
  exact sT_w (n9)
theorem k_X11_checkNoY {e : tE} {b : Nat} {d n : Nat} {r : Nat} {x1 : Int} (h0 : cl r 13) (h1 : (0 ≤ x1 ∧ x1 ≤ 3)) (hd : 0 ≤ d) : sC e b d 3341 [.inr (.inr (.inl r)), .inl x1] n (SQx n (SQn n (True)) (fun s => s = "java/lang/UnsupportedOperationException")) := by
  refine sK (fun M h => tst_X11_checkNoY h) (fun M0 => ?_)
  refine sblk (hv := false) kbl_X11_checkNoY kbs_X11_checkNoY (pc := 0) (pe := 15) (rk := 9) (i := 0) rfl (by decide +kernel) ?_
  simp only [kb_X11_checkNoY_0, s_ald_0, s_gf_13_5, s_ild_1, s_aa, s_gf_7_5, s_if_eq, s_new, LR, IR, true_and, and_true, Nat.reduceAdd, Nat.reduceSub, eq_self]
  refine ⟨by assumption, fun x2_ h2_ => ?_⟩
  refine Or.inr ⟨aok_27 (by assumption) (by omega), fun x4_ h4_ => ?_⟩
  refine ⟨by assumption, fun x5_ h5_ g5_ k5_ => ?_⟩
  clear k5_
  refine ⟨by omega, fun h6_ => ?_, fun h6_ => ?_⟩
  · refine sT_w ?_
    refine sblk (hv := false) kbl_X11_checkNoY kbs_X11_checkNoY (pc := 23) (pe := 24) (rk := 9) (i := 2) rfl (by decide +kernel) ?_
    simp only [kb_X11_checkNoY_23, s_re, LR, IR, true_and, and_true, Nat.reduceAdd, Nat.reduceSub, eq_self]
    exact fun _ _ _ _ => Or.inl ⟨rfl, rfl, by first | trivial | omega⟩
  exact fun _ _ _ _ => Or.inr ⟨_, rfl, rfl, rfl⟩
theorem k_X11_checkBoundsCall {e : tE} {b : Nat} {d n : Nat} {r : Nat} {x1 : Int} {x2 : Int} {x3 : Int} {x4 : Int} (h0 : cl r 13) (h1 : (-2147483648 ≤ x1 ∧ x1 ≤ 2147483647)) (h2 : (-2147483648 ≤ x2 ∧ x2 ≤ 2147483647)) (h3 : (-2147483648 ≤ x3 ∧ x3 ≤ 2147483647)) (h4 : (-2147483648 ≤ x4 ∧ x4 ≤ 2147483647)) (hd : 3 ≤ d) : sC e b d 3335 [.inr (.inr (.inl r)), .inl x1, .inl x2, .inl x3, .inl x4] n (SQx n (SQn n ((0 ≤ x1 ∧ x1 ≤ 9) ∧ (0 ≤ x2 ∧ x2 ≤ 3) ∧ (0 ≤ x3 ∧ x3 ≤ 9) ∧ (0 ≤ x4 ∧ x4 ≤ 3))) (fun s => s = "java/lang/IllegalArgumentException" ∨ s = "java/lang/IndexOutOfBoundsException" ∨ s = "java/lang/UnsupportedOperationException" ∨ s = "java/util/NoSuchElementException")) := by
  refine sK (fun M h => tst_X11_checkBoundsCall h) (fun M0 => ?_)
  refine sblk (hv := false) kbl_X11_checkBoundsCall kbs_X11_checkBoundsCall (pc := 0) (pe := 38) (rk := 9) (i := 0) rfl (by decide +kernel) ?_
  simp only [kb_X11_checkBoundsCall_0, s_ald_0, s_ild_1, s_iv1, tfr_0, tfr_1, tfr_2, tfr_3, tfr_4, s_ild_3, s_ild_2, s_ild4, s_ic, s_iv2, s_re, LR, IR, true_and, and_true, Nat.reduceAdd, Nat.reduceSub, eq_self]
  refine ⟨vok_of (s := 13) (by assumption) rfl, ?_⟩
  refine sc_xn (D := 0) (fun d' hd' => k_X11_checkShelf (by assumption) (by omega) hd') (by omega) rfl ?_ (fun s hs _ => Or.inr ⟨s, rfl, rfl, (fun h => Or.inr (Or.inl (h))) hs⟩)
  intro h3_
  try simp only [s_ald_0, s_ild_3, s_iv1, tfr_0, tfr_1, tfr_2, tfr_3, tfr_4, s_ild_2, s_ild4, s_ic, s_iv2, s_re, LR, IR, true_and, and_true, Nat.reduceAdd, Nat.reduceSub, eq_self]
  refine ⟨vok_of (s := 13) (by assumption) rfl, ?_⟩
  refine sc_xn (D := 0) (fun d' hd' => k_X11_checkShelf (by assumption) (by omega) hd') (by omega) rfl ?_ (fun s hs _ => Or.inr ⟨s, rfl, rfl, (fun h => Or.inr (Or.inl (h))) hs⟩)
  intro h6_
  try simp only [s_ald_0, s_ild_2, s_iv1, tfr_0, tfr_1, tfr_2, tfr_3, tfr_4, s_ild4, s_ic, s_iv2, s_ild_3, s_re, LR, IR, true_and, and_true, Nat.reduceAdd, Nat.reduceSub, eq_self]
  refine ⟨vok_of (s := 13) (by assumption) rfl, ?_⟩
  refine sc_xn (D := 0) (fun d' hd' => k_X11_checkFormula (by assumption) (by omega) hd') (by omega) rfl ?_ (fun s hs _ => Or.inr ⟨s, rfl, rfl, (fun h => Or.inr (Or.inl (h))) hs⟩)
  intro h9_
  try simp only [s_ald_0, s_ild4, s_ic, s_iv2, tfr_0, tfr_1, tfr_2, tfr_3, tfr_4, s_ild_2, s_iv1, s_ild_3, s_re, LR, IR, true_and, and_true, Nat.reduceAdd, Nat.reduceSub, eq_self]
  refine ⟨vok_of (s := 13) (by assumption) rfl, ?_⟩
  refine sc_xn (D := 0) (fun d' hd' => k_X11_checkCuts (by assumption) (by omega) (by omega) hd') (by omega) rfl ?_ (fun s hs _ => Or.inr ⟨s, rfl, rfl, (fun h => Or.inl (h)) hs⟩)
  intro h13_
  try simp only [s_ald_0, s_ild_2, s_iv1, tfr_0, tfr_1, tfr_2, tfr_3, tfr_4, s_ild_3, s_re, LR, IR, true_and, and_true, Nat.reduceAdd, Nat.reduceSub, eq_self]
  refine ⟨vok_of (s := 13) (by assumption) rfl, ?_⟩
  refine sc_xn (D := 0) (fun d' hd' => k_X11_checkDefined (by assumption) (by omega) hd') (by omega) rfl ?_ (fun s hs _ => Or.inr ⟨s, rfl, rfl, (fun h => Or.inr (Or.inr (Or.inr (h)))) hs⟩)
  intro h16_
  try simp only [s_ald_0, s_ild_3, s_iv1, tfr_0, tfr_1, tfr_2, tfr_3, tfr_4, s_ild_2, s_re, LR, IR, true_and, and_true, Nat.reduceAdd, Nat.reduceSub, eq_self]
  refine ⟨vok_of (s := 13) (by assumption) rfl, ?_⟩
  refine sc_xn (D := 2) (fun d' hd' => k_X11_checkHeld (by assumption) (by omega) hd') (by omega) rfl ?_ (fun s hs _ => Or.inr ⟨s, rfl, rfl, (fun h => Or.inr (Or.inr (Or.inr (h)))) hs⟩)
  intro h19_
  try simp only [s_ald_0, s_ild_2, s_iv1, tfr_0, tfr_1, tfr_2, tfr_3, tfr_4, s_re, LR, IR, true_and, and_true, Nat.reduceAdd, Nat.reduceSub, eq_self]
  refine ⟨vok_of (s := 13) (by assumption) rfl, ?_⟩
  refine sc_xn (D := 0) (fun d' hd' => k_X11_checkNoY (by assumption) (by omega) hd') (by omega) rfl ?_ (fun s hs _ => Or.inr ⟨s, rfl, rfl, (fun h => Or.inr (Or.inr (Or.inl (h)))) hs⟩)
  intro h22_
  try simp only [s_re, LR, IR, true_and, and_true, Nat.reduceAdd, Nat.reduceSub, eq_self]
  exact fun _ _ _ _ => Or.inl ⟨rfl, rfl, by first | trivial | omega⟩
theorem k_X6_aim {e : tE} {b : Nat} {d n : Nat} {r : Nat} {x1 : Nat} {x2 : Nat} (h0 : cl r 8) (h1 : cl x1 4) (h2 : cl x2 4) (hb : b < 2) (hd : 0 ≤ d) : sC e b d 2050 [.inr (.inr (.inl r)), .inr (.inr (.inl x1)), .inr (.inr (.inl x2))] n (SQn n (True)) := by
  refine sK (fun M h => tst_X6_aim h) (fun M0 => ?_)
  refine sblk (hv := false) kbl_X6_aim kbs_X6_aim (pc := 0) (pe := 11) (rk := 9) (i := 0) rfl (by decide +kernel) ?_
  simp only [kb_X6_aim_0, s_ald_0, s_ald_1, s_pf_8_3, s_ald_2, s_pf_8_4, s_re, LR, IR, true_and, and_true, Nat.reduceAdd, Nat.reduceSub, eq_self]
  refine ⟨by omega, by assumption, by assumption, ?_⟩
  refine ⟨by omega, by assumption, by assumption, ?_⟩
  exact fun _ _ _ _ => ⟨rfl, rfl, by first | trivial | omega⟩
theorem k_X5_within {e : tE} {b : Nat} {d n : Nat} {r : Nat} {x1 : Int} (h0 : cl r 7) (h1 : (-2147483648 ≤ x1 ∧ x1 ≤ 2147483647)) (hd : 0 ≤ d) : sC e b d 1814 [.inr (.inr (.inl r)), .inl x1] n (SQi n (fun z => (0 ≤ z ∧ z ≤ 59))) := by
  refine sK (fun M h => tst_X5_within h) (fun M0 => ?_)
  have n15 : ∀ (is0_15 : Int), (0 ≤ is0_15 ∧ is0_15 ≤ 59) → sT e b M0 d 1814 15 [] [some (.inr (.inr (.inl r))), some (.inl x1)] [.inl is0_15] n (fun r n' _ => (SQi n (fun z => (0 ≤ z ∧ z ≤ 59))) r n') := by
    intro is0_15 y15_0
    refine sblk (hv := false) kbl_X5_within kbs_X5_within (pc := 15) (pe := 16) (rk := 0) (i := 3) rfl (by decide +kernel) ?_
    simp only [kb_X5_within_15, s_ire, trg, LR, IR, true_and, and_true, Nat.reduceAdd, Nat.reduceSub, eq_self]
    exact fun _ _ _ _ => ⟨_, rfl, rfl, by omega⟩
  have n10 : sT e b M0 d 1814 10 [] [some (.inr (.inr (.inl r))), some (.inl x1)] [] n (fun r n' _ => (SQi n (fun z => (0 ≤ z ∧ z ≤ 59))) r n') := by
    refine sblk (hv := false) kbl_X5_within kbs_X5_within (pc := 10) (pe := 14) (rk := 0) (i := 1) rfl (by decide +kernel) ?_
    simp only [kb_X5_within_10, s_ic, s_goto, LR, IR, true_and, and_true, Nat.reduceAdd, Nat.reduceSub, eq_self]
    exact sT_w (n15 _ (by omega))
  refine sblk (hv := false) kbl_X5_within kbs_X5_within (pc := 0) (pe := 10) (rk := 0) (i := 0) rfl (by decide +kernel) ?_
  simp only [kb_X5_within_0, s_ild_1, s_if_lt, s_bi, s_ic_lt, s_nil, LR, IR, true_and, and_true, Nat.reduceAdd, Nat.reduceSub, eq_self]
  refine ⟨by omega, fun h5_ => ?_, fun h5_ => ?_⟩
  · exact sT_w (n10)
  refine ⟨by omega, fun h8_ => ?_, fun h8_ => ?_⟩
  · refine sT_w ?_
    refine sblk (hv := false) kbl_X5_within kbs_X5_within (pc := 14) (pe := 15) (rk := 0) (i := 2) rfl (by decide +kernel) ?_
    simp only [kb_X5_within_14, s_ild_1, s_nil, LR, IR, true_and, and_true, Nat.reduceAdd, Nat.reduceSub, eq_self]
    exact sT_w (n15 _ (by omega))
  exact sT_w (n10)
theorem k_X5_actAt {e : tE} {b : Nat} {d n : Nat} {r : Nat} {x1 : Int} (h0 : cl r 7) (h1 : (-2147483648 ≤ x1 ∧ x1 ≤ 2147483647)) (hd : 1 ≤ d) : sC e b d 1793 [.inr (.inr (.inl r)), .inl x1] n (SQi n (fun z => (0 ≤ z ∧ z ≤ 65535))) := by
  refine sK (fun M h => tst_X5_actAt h) (fun M0 => ?_)
  refine sblk (hv := false) kbl_X5_actAt kbs_X5_actAt (pc := 0) (pe := 11) (rk := 4) (i := 0) rfl (by decide +kernel) ?_
  simp only [kb_X5_actAt_0, s_ald_0, s_gf_7_0, s_ild_1, s_iv1, tfr_0, tfr_1, tfr_2, tfr_3, tfr_4, s_ca, s_ire, trg, LR, IR, true_and, and_true, Nat.reduceAdd, Nat.reduceSub, eq_self]
  refine ⟨by assumption, fun x2_ h2_ => ?_⟩
  refine ⟨vok_of (s := 7) (by assumption) rfl, ?_⟩
  refine sc_i (D := 0) (fun d' hd' => k_X5_within (by assumption) (by omega) hd') (by omega) ?_
  intro x5_ h5_
  try simp only [s_ca, s_ire, trg, LR, IR, true_and, and_true, Nat.reduceAdd, Nat.reduceSub, eq_self]
  refine ⟨aok_42 (by assumption) (by omega), fun x6_ g6_ => ?_⟩
  have h6_ := arg_42 (by assumption) g6_
  clear g6_
  exact ⟨by omega, fun _ _ _ _ => ⟨_, rfl, rfl, by omega⟩⟩
theorem k_X5_numberAt {e : tE} {b : Nat} {d n : Nat} {r : Nat} {x1 : Int} (h0 : cl r 7) (h1 : (-2147483648 ≤ x1 ∧ x1 ≤ 2147483647)) (hd : 1 ≤ d) : sC e b d 1802 [.inr (.inr (.inl r)), .inl x1] n (SQl n (fun z => (-9223372036854775808 ≤ z ∧ z < 9223372036854775808))) := by
  refine sK (fun M h => tst_X5_numberAt h) (fun M0 => ?_)
  refine sblk (hv := false) kbl_X5_numberAt kbs_X5_numberAt (pc := 0) (pe := 11) (rk := 1) (i := 0) rfl (by decide +kernel) ?_
  simp only [kb_X5_numberAt_0, s_ald_0, s_gf_7_1, s_ild_1, s_iv1, tfr_0, tfr_1, tfr_2, tfr_3, tfr_4, s_la, s_lax, forall_const, s_lre, LR, IR, true_and, and_true, Nat.reduceAdd, Nat.reduceSub, eq_self]
  refine ⟨by assumption, fun x2_ h2_ => ?_⟩
  refine ⟨vok_of (s := 7) (by assumption) rfl, ?_⟩
  refine sc_i (D := 0) (fun d' hd' => k_X5_within (by assumption) (by omega) hd') (by omega) ?_
  intro x5_ h5_
  try simp only [s_la, s_lax, forall_const, s_lre, LR, IR, true_and, and_true, Nat.reduceAdd, Nat.reduceSub, eq_self]
  refine ⟨aok_28 (by assumption) (by omega), fun x6_ g6_ h6_ => ?_⟩
  exact fun _ _ _ _ => ⟨_, rfl, rfl, by omega⟩
theorem k_X5_scaleAt {e : tE} {b : Nat} {d n : Nat} {r : Nat} {x1 : Int} (h0 : cl r 7) (h1 : (-2147483648 ≤ x1 ∧ x1 ≤ 2147483647)) (hd : 1 ≤ d) : sC e b d 1807 [.inr (.inr (.inl r)), .inl x1] n (SQi n (fun z => (-65536 ≤ z ∧ z ≤ 2147483647))) := by
  refine sK (fun M h => tst_X5_scaleAt h) (fun M0 => ?_)
  refine sblk (hv := false) kbl_X5_scaleAt kbs_X5_scaleAt (pc := 0) (pe := 11) (rk := 0) (i := 0) rfl (by decide +kernel) ?_
  simp only [kb_X5_scaleAt_0, s_ald_0, s_gf_7_2, s_ild_1, s_iv1, tfr_0, tfr_1, tfr_2, tfr_3, tfr_4, s_ia, s_iax, s_ire, trg, LR, IR, true_and, and_true, Nat.reduceAdd, Nat.reduceSub, eq_self]
  refine ⟨by assumption, fun x2_ h2_ => ?_⟩
  refine ⟨vok_of (s := 7) (by assumption) rfl, ?_⟩
  refine sc_i (D := 0) (fun d' hd' => k_X5_within (by assumption) (by omega) hd') (by omega) ?_
  intro x5_ h5_
  try simp only [s_ia, s_iax, s_ire, trg, LR, IR, true_and, and_true, Nat.reduceAdd, Nat.reduceSub, eq_self]
  refine ⟨aok_43 (by assumption) (by omega), fun x6_ g6_ => ?_⟩
  have h6_ := arg_43 (by assumption) g6_
  clear g6_
  exact fun _ _ _ _ => ⟨_, rfl, rfl, by omega⟩
theorem k_X6_unit {e : tE} {b : Nat} {d n : Nat} {r : Nat} (h0 : cl r 8) (hd : 0 ≤ d) : sC e b d 2064 [.inr (.inr (.inl r))] n (SQl n (fun z => (-9223372036854775808 ≤ z ∧ z < 9223372036854775808))) := by
  refine sK (fun M h => tst_X6_unit h) (fun M0 => ?_)
  refine sblk (hv := false) kbl_X6_unit kbs_X6_unit (pc := 0) (pe := 8) (rk := 1) (i := 0) rfl (by decide +kernel) ?_
  simp only [kb_X6_unit_0, s_ald_0, s_gf_8_0, s_gf_2_5, s_lre, LR, IR, true_and, and_true, Nat.reduceAdd, Nat.reduceSub, eq_self]
  refine ⟨by assumption, fun x2_ h2_ => ?_⟩
  refine ⟨by assumption, fun x3_ h3_ => ?_⟩
  exact fun _ _ _ _ => ⟨_, rfl, rfl, by omega⟩
theorem k_X7_within {e : tE} {b : Nat} {d n : Nat} {r : Nat} {x1 : Int} (h0 : cl r 9) (h1 : (-2147483648 ≤ x1 ∧ x1 ≤ 2147483647)) (hd : 0 ≤ d) : sC e b d 2312 [.inr (.inr (.inl r)), .inl x1] n (SQi n (fun z => (0 ≤ z ∧ z ≤ 7))) := by
  refine sK (fun M h => tst_X7_within h) (fun M0 => ?_)
  have n15 : ∀ (is0_15 : Int), (0 ≤ is0_15 ∧ is0_15 ≤ 7) → sT e b M0 d 2312 15 [] [some (.inr (.inr (.inl r))), some (.inl x1)] [.inl is0_15] n (fun r n' _ => (SQi n (fun z => (0 ≤ z ∧ z ≤ 7))) r n') := by
    intro is0_15 y15_0
    refine sblk (hv := false) kbl_X7_within kbs_X7_within (pc := 15) (pe := 16) (rk := 0) (i := 3) rfl (by decide +kernel) ?_
    simp only [kb_X7_within_15, s_ire, trg, LR, IR, true_and, and_true, Nat.reduceAdd, Nat.reduceSub, eq_self]
    exact fun _ _ _ _ => ⟨_, rfl, rfl, by omega⟩
  have n10 : sT e b M0 d 2312 10 [] [some (.inr (.inr (.inl r))), some (.inl x1)] [] n (fun r n' _ => (SQi n (fun z => (0 ≤ z ∧ z ≤ 7))) r n') := by
    refine sblk (hv := false) kbl_X7_within kbs_X7_within (pc := 10) (pe := 14) (rk := 0) (i := 1) rfl (by decide +kernel) ?_
    simp only [kb_X7_within_10, s_ic, s_goto, LR, IR, true_and, and_true, Nat.reduceAdd, Nat.reduceSub, eq_self]
    exact sT_w (n15 _ (by omega))
  refine sblk (hv := false) kbl_X7_within kbs_X7_within (pc := 0) (pe := 10) (rk := 0) (i := 0) rfl (by decide +kernel) ?_
  simp only [kb_X7_within_0, s_ild_1, s_if_lt, s_bi, s_ic_lt, s_nil, LR, IR, true_and, and_true, Nat.reduceAdd, Nat.reduceSub, eq_self]
  refine ⟨by omega, fun h5_ => ?_, fun h5_ => ?_⟩
  · exact sT_w (n10)
  refine ⟨by omega, fun h8_ => ?_, fun h8_ => ?_⟩
  · refine sT_w ?_
    refine sblk (hv := false) kbl_X7_within kbs_X7_within (pc := 14) (pe := 15) (rk := 0) (i := 2) rfl (by decide +kernel) ?_
    simp only [kb_X7_within_14, s_ild_1, s_nil, LR, IR, true_and, and_true, Nat.reduceAdd, Nat.reduceSub, eq_self]
    exact sT_w (n15 _ (by omega))
  exact sT_w (n10)
theorem k_X7_box {e : tE} {b : Nat} {d n : Nat} {r : Nat} {x1 : Int} (h0 : cl r 9) (h1 : (-2147483648 ≤ x1 ∧ x1 ≤ 2147483647)) (hd : 1 ≤ d) : sC e b d 2306 [.inr (.inr (.inl r)), .inl x1] n (SQr n (fun z => cl z 4)) := by
  refine sK (fun M h => tst_X7_box h) (fun M0 => ?_)
  refine sblk (hv := false) kbl_X7_box kbs_X7_box (pc := 0) (pe := 11) (rk := 2) (i := 0) rfl (by decide +kernel) ?_
  simp only [kb_X7_box_0, s_ald_0, s_gf_9_0, s_ild_1, s_iv1, tfr_0, tfr_1, tfr_2, tfr_3, tfr_4, s_aa, s_are, LR, IR, true_and, and_true, Nat.reduceAdd, Nat.reduceSub, eq_self]
  refine ⟨by assumption, fun x2_ h2_ => ?_⟩
  refine ⟨vok_of (s := 9) (by assumption) rfl, ?_⟩
  refine sc_i (D := 0) (fun d' hd' => k_X7_within (by assumption) (by omega) hd') (by omega) ?_
  intro x5_ h5_
  try simp only [s_aa, s_are, LR, IR, true_and, and_true, Nat.reduceAdd, Nat.reduceSub, eq_self]
  refine Or.inl ⟨aok_29 (by assumption) (by omega), fun x6_ h6_ => ?_⟩
  exact fun _ _ _ _ => ⟨_, rfl, rfl, by assumption⟩
theorem k_X1_halve {e : tE} {b : Nat} {d n : Nat} {r : Nat} (h0 : cl r 3) (hb : b < 2 ∨ b = 3) (hd : 1 ≤ d) : sC e b d 772 [.inr (.inr (.inl r))] n (SQn n (True)) := by
  refine sK (fun M h => tst_X1_halve h) (fun M0 => ?_)
  refine sblk (hv := false) kbl_X1_halve kbs_X1_halve (pc := 0) (pe := 44) (rk := 9) (i := 0) rfl (by decide +kernel) ?_
  simp only [kb_X1_halve_0, s_ald_0, s_gf_3_0, s_ld2, s_is2, tfr_0, tfr_1, tfr_2, tfr_3, tfr_4, s_lst_1, tkl_n, tkl_i, tkl_l, tkl_r, s_gf_3_1, s_lld_1, s_lmul, s_lsub, s_ladd, s_ldiv, s_pf_3_1, s_pf_3_0, s_re, LR, IR, true_and, and_true, Nat.reduceAdd, Nat.reduceSub, eq_self]
  refine ⟨by assumption, fun x2_ h2_ => ?_⟩
  refine sc_l (D := 0) (fun d' hd' => k_J9_floorDiv_f86c9 (by omega) (by omega) hd') (by omega) ?_
  intro x4_ h4_
  try simp only [s_lst_1, tkl_n, tkl_i, tkl_l, tkl_r, s_ald_0, s_gf_3_1, s_gf_3_0, s_ld2, s_lld_1, s_lmul, s_lsub, s_ladd, s_ldiv, s_pf_3_1, s_pf_3_0, s_re, LR, IR, true_and, and_true, Nat.reduceAdd, Nat.reduceSub, eq_self]
  refine ⟨by assumption, fun x8_ h8_ => ?_⟩
  refine ⟨by assumption, fun x10_ h10_ => ?_⟩
  intro x13_ h13_
  intro x14_ h14_
  intro x16_ h16_
  intro x17_ h17_
  refine ⟨by omega, fun x19_ h19_ y19_ => ?_⟩
  clear y19_
  refine ⟨by omega, by assumption, ?_⟩
  refine ⟨by omega, by assumption, ?_⟩
  exact fun _ _ _ _ => ⟨rfl, rfl, by first | trivial | omega⟩
theorem k_X2_toMiddle {e : tE} {b : Nat} {d n : Nat} {r : Nat} {x1 : Nat} {x2 : Int} (h0 : cl r 4) (h1 : cl x1 4) (h2 : (-9223372036854775808 ≤ x2 ∧ x2 < 9223372036854775808)) (hb : b < 2 ∨ b = 3) (hd : 2 ≤ d) : sC e b d 1035 [.inr (.inr (.inl r)), .inr (.inr (.inl x1)), .inr (.inl x2)] n (SQi n (fun z => (0 ≤ z ∧ z ≤ 1))) := by
  refine sK (fun M h => tst_X2_toMiddle h) (fun M0 => ?_)
  have n59 : ∀ (i4_59 : Int), (0 ≤ i4_59 ∧ i4_59 ≤ 1) → sT e b M0 d 1035 59 [] [some (.inr (.inr (.inl r))), some (.inr (.inr (.inl x1))), some (.inr (.inl x2)), none, some (.inl i4_59)] [] n (fun r n' _ => (SQi n (fun z => (0 ≤ z ∧ z ≤ 1))) r n') := by
    intro i4_59 y59_0
    refine sblk (hv := false) kbl_X2_toMiddle kbs_X2_toMiddle (pc := 59) (pe := 73) (rk := 3) (i := 1) rfl (by decide +kernel) ?_
    simp only [kb_X2_toMiddle_59, s_ald_0, s_gf_4_1, s_gf_4_0, s_iv1, tfr_0, tfr_1, tfr_2, tfr_3, tfr_4, s_ild4, s_ire, trg, LR, IR, true_and, and_true, Nat.reduceAdd, Nat.reduceSub, eq_self]
    refine ⟨by assumption, fun x2_ h2_ => ?_⟩
    refine ⟨by assumption, fun x4_ h4_ => ?_⟩
    refine ⟨vok_of (s := 3) (by assumption) rfl, ?_⟩
    refine sc_n (D := 0) (fun d' hd' => k_X1_copy (by assumption) (by assumption) (by omega) hd') (by omega) ?_
    intro h5_
    try simp only [s_ild4, s_ire, trg, LR, IR, true_and, and_true, Nat.reduceAdd, Nat.reduceSub, eq_self]
    exact ⟨by omega, fun _ _ _ _ => ⟨_, rfl, rfl, by omega⟩⟩
  refine sblk (hv := false) kbl_X2_toMiddle kbs_X2_toMiddle (pc := 0) (pe := 59) (rk := 3) (i := 0) rfl (by decide +kernel) ?_
  simp only [kb_X2_toMiddle_0, s_ald_0, s_gf_4_0, s_ald_1, s_gf_4_1, s_iv2, tfr_0, tfr_1, tfr_2, tfr_3, tfr_4, s_iv0, s_lld_2, s_iv1, s_ist4, tkl_n, tkl_i, tkl_l, tkl_r, s_ild4, s_if_ne, s_nil, LR, IR, true_and, and_true, Nat.reduceAdd, Nat.reduceSub, eq_self]
  refine ⟨by assumption, fun x9_ h9_ => ?_⟩
  refine ⟨by assumption, fun x11_ h11_ => ?_⟩
  refine ⟨by assumption, fun x13_ h13_ => ?_⟩
  refine ⟨vok_of (s := 3) (by assumption) rfl, ?_⟩
  refine sc_n (D := 0) (fun d' hd' => k_X1_toSum (by assumption) (by assumption) (by assumption) (by omega) hd') (by omega) ?_
  intro h14_
  try simp only [s_ald_0, s_gf_4_0, s_iv0, tfr_0, tfr_1, tfr_2, tfr_3, tfr_4, s_lld_2, s_iv1, s_ald_1, s_ist4, tkl_n, tkl_i, tkl_l, tkl_r, s_ild4, s_if_ne, s_nil, LR, IR, true_and, and_true, Nat.reduceAdd, Nat.reduceSub, eq_self]
  refine ⟨by assumption, fun x16_ h16_ => ?_⟩
  refine ⟨vok_of (s := 3) (by assumption) rfl, ?_⟩
  refine sc_n (D := 1) (fun d' hd' => k_X1_halve (by assumption) (by omega) hd') (by omega) ?_
  intro h17_
  try simp only [s_ald_0, s_gf_4_0, s_lld_2, s_iv1, tfr_0, tfr_1, tfr_2, tfr_3, tfr_4, s_ald_1, s_ist4, tkl_n, tkl_i, tkl_l, tkl_r, s_ild4, s_if_ne, s_nil, LR, IR, true_and, and_true, Nat.reduceAdd, Nat.reduceSub, eq_self]
  refine ⟨by assumption, fun x19_ h19_ => ?_⟩
  refine ⟨vok_of (s := 3) (by assumption) rfl, ?_⟩
  refine sc_n (D := 0) (fun d' hd' => k_X1_roundDown (by assumption) (by omega) (by omega) hd') (by omega) ?_
  intro h21_
  try simp only [s_ald_1, s_gf_4_0, s_ald_0, s_iv1, tfr_0, tfr_1, tfr_2, tfr_3, tfr_4, s_ist4, tkl_n, tkl_i, tkl_l, tkl_r, s_ild4, s_if_ne, s_nil, LR, IR, true_and, and_true, Nat.reduceAdd, Nat.reduceSub, eq_self]
  refine ⟨by assumption, fun x23_ h23_ => ?_⟩
  refine ⟨by assumption, fun x25_ h25_ => ?_⟩
  refine ⟨vok_of (s := 3) (by assumption) rfl, ?_⟩
  refine sc_i (D := 0) (fun d' hd' => k_X1_isBelow (by assumption) (by assumption) hd') (by omega) ?_
  intro x26_ h26_
  try simp only [s_ist4, tkl_n, tkl_i, tkl_l, tkl_r, s_ild4, s_if_ne, s_ald_0, s_gf_4_0, s_ald_1, s_iv1, tfr_0, tfr_1, tfr_2, tfr_3, tfr_4, s_nil, LR, IR, true_and, and_true, Nat.reduceAdd, Nat.reduceSub, eq_self]
  refine ⟨by omega, fun h29_ => ?_, fun h29_ => ?_⟩
  · exact sT_w (n59 _ (by omega))
  refine ⟨by assumption, fun x31_ h31_ => ?_⟩
  refine ⟨by assumption, fun x33_ h33_ => ?_⟩
  refine ⟨vok_of (s := 3) (by assumption) rfl, ?_⟩
  refine sc_n (D := 0) (fun d' hd' => k_X1_copy (by assumption) (by assumption) (by omega) hd') (by omega) ?_
  intro h34_
  try simp only [s_nil, LR, IR, true_and, and_true, Nat.reduceAdd, Nat.reduceSub, eq_self]
  exact sT_w (n59 _ (by omega))
theorem k_X7_append {e : tE} {b : Nat} {d n : Nat} {r : Nat} {x1 : Nat} {x2 : Int} (h0 : cl r 9) (h1 : cl x1 4) (h2 : (-2147483648 ≤ x2 ∧ x2 ≤ 2147483647)) (hb : b < 2) (hd : 2 ≤ d) : sC e b d 2305 [.inr (.inr (.inl r)), .inr (.inr (.inl x1)), .inl x2] n (SQn n (True)) := by
  refine sK (fun M h => tst_X7_append h) (fun M0 => ?_)
  have n42 : sT e b M0 d 2305 42 [] [some (.inr (.inr (.inl r))), some (.inr (.inr (.inl x1))), some (.inl x2)] [] n (fun r n' _ => (SQn n (True)) r n') := by
    refine sblk (hv := false) kbl_X7_append kbs_X7_append (pc := 42) (pe := 43) (rk := 9) (i := 1) rfl (by decide +kernel) ?_
    simp only [kb_X7_append_42, s_re, LR, IR, true_and, and_true, Nat.reduceAdd, Nat.reduceSub, eq_self]
    exact fun _ _ _ _ => ⟨rfl, rfl, by first | trivial | omega⟩
  refine sblk (hv := false) kbl_X7_append kbs_X7_append (pc := 0) (pe := 42) (rk := 9) (i := 0) rfl (by decide +kernel) ?_
  simp only [kb_X7_append_0, s_ald_0, s_gf_9_3, s_bi, s_ic_ge, s_gf_9_0, s_aa, s_ald_1, s_iv1, tfr_0, tfr_1, tfr_2, tfr_3, tfr_4, s_gf_9_1, s_ild_2, s_ias, s_dupi, s_dupr, s_ic, s_iadd, s_pf_9_3, s_nil, LR, IR, true_and, and_true, Nat.reduceAdd, Nat.reduceSub, eq_self]
  refine ⟨by assumption, fun x3_ h3_ g3_ k3_ => ?_⟩
  simp (disch := decide) only [gk, gd, eq_self, true_imp_iff, false_imp_iff, and_true, true_and, Nat.reduceEqDiff, reduceIte, reduceCtorEq, ne_eq, not_false_eq_true] at k3_
  refine ⟨by omega, fun h5_ => ?_, fun h5_ => ?_⟩
  · exact sT_w (n42)
  refine ⟨by assumption, fun x7_ h7_ => ?_⟩
  refine ⟨by assumption, fun x9_ h9_ g9_ k9_ => ?_⟩
  simp (disch := decide) only [gk, gd, eq_self, true_imp_iff, false_imp_iff, and_true, true_and, Nat.reduceEqDiff, reduceIte, reduceCtorEq, ne_eq, not_false_eq_true] at k9_
  refine Or.inl ⟨aok_29 (by assumption) (by omega), fun x10_ h10_ => ?_⟩
  refine ⟨vok_of (s := 4) (by assumption) rfl, ?_⟩
  refine s3_n (D := 1) (fun d' hd' => k_X2_copy (by assumption) (by assumption) (by omega) hd') (by omega) (by omega) (by repeat' first | exact trivial | exact ne3 (by assumption) (by decide) | refine ⟨?_, ?_⟩) ?_
  intro h12_
  try simp only [s_ald_0, s_gf_9_1, s_gf_9_3, s_ild_2, s_ias, s_dupi, s_dupr, s_ic, s_iadd, s_pf_9_3, s_nil, LR, IR, true_and, and_true, Nat.reduceAdd, Nat.reduceSub, eq_self]
  refine ⟨by assumption, fun x14_ h14_ => ?_⟩
  refine ⟨by assumption, fun x16_ h16_ g16_ k16_ => ?_⟩
  simp (disch := decide) only [gk, gd, eq_self, true_imp_iff, false_imp_iff, and_true, true_and, Nat.reduceEqDiff, reduceIte, reduceCtorEq, ne_eq, not_false_eq_true] at k16_
  refine ⟨by omega, aok_30 (by assumption) (by omega), ars_30 (by assumption) (by omega), n26_30 (by assumption), ?_⟩
  refine ⟨by assumption, fun x21_ h21_ g21_ k21_ => ?_⟩
  simp (disch := decide) only [gk, gd, eq_self, true_imp_iff, false_imp_iff, and_true, true_and, Nat.reduceEqDiff, reduceIte, reduceCtorEq, ne_eq, not_false_eq_true] at k21_
  refine ⟨by omega, by assumption, by omega, ?_⟩
  exact sT_w (n42)
theorem k_X7_clear {e : tE} {b : Nat} {d n : Nat} {r : Nat} (h0 : cl r 9) (hb : b < 2) (hd : 0 ≤ d) : sC e b d 2307 [.inr (.inr (.inl r))] n (SQn n (True)) := by
  refine sK (fun M h => tst_X7_clear h) (fun M0 => ?_)
  refine sblk (hv := false) kbl_X7_clear kbs_X7_clear (pc := 0) (pe := 6) (rk := 9) (i := 0) rfl (by decide +kernel) ?_
  simp only [kb_X7_clear_0, s_ald_0, s_ic, s_pf_9_3, s_re, LR, IR, true_and, and_true, Nat.reduceAdd, Nat.reduceSub, eq_self]
  refine ⟨by omega, by assumption, by omega, ?_⟩
  exact fun _ _ _ _ => ⟨rfl, rfl, by first | trivial | omega⟩
theorem k_X11_checkFormulaCall {e : tE} {b : Nat} {d n : Nat} {r : Nat} {x1 : Int} {x2 : Int} {x3 : Int} {x4 : Int} (h0 : cl r 13) (h1 : (-2147483648 ≤ x1 ∧ x1 ≤ 2147483647)) (h2 : (-2147483648 ≤ x2 ∧ x2 ≤ 2147483647)) (h3 : (-2147483648 ≤ x3 ∧ x3 ≤ 2147483647)) (h4 : (-2147483648 ≤ x4 ∧ x4 ≤ 2147483647)) (hd : 3 ≤ d) : sC e b d 3339 [.inr (.inr (.inl r)), .inl x1, .inl x2, .inl x3, .inl x4] n (SQx n (SQn n ((0 ≤ x1 ∧ x1 ≤ 9) ∧ (0 ≤ x2 ∧ x2 ≤ 3) ∧ (0 ≤ x3 ∧ x3 ≤ 9) ∧ (0 ≤ x4 ∧ x4 ≤ 9))) (fun s => s = "java/lang/IndexOutOfBoundsException" ∨ s = "java/util/NoSuchElementException")) := by
  refine sK (fun M h => tst_X11_checkFormulaCall h) (fun M0 => ?_)
  refine sblk (hv := false) kbl_X11_checkFormulaCall kbs_X11_checkFormulaCall (pc := 0) (pe := 30) (rk := 9) (i := 0) rfl (by decide +kernel) ?_
  simp only [kb_X11_checkFormulaCall_0, s_ald_0, s_ild_1, s_ild_3, s_ild4, s_iv3, tfr_0, tfr_1, tfr_2, tfr_3, tfr_4, s_ild_2, s_iv1, s_re, LR, IR, true_and, and_true, Nat.reduceAdd, Nat.reduceSub, eq_self]
  refine ⟨vok_of (s := 13) (by assumption) rfl, ?_⟩
  refine sc_xn (D := 1) (fun d' hd' => k_X11_checkShelves (by assumption) (by omega) (by omega) (by omega) hd') (by omega) rfl ?_ (fun s hs _ => Or.inr ⟨s, rfl, rfl, (fun h => Or.inl (h)) hs⟩)
  intro h5_
  try simp only [s_ald_0, s_ild_2, s_iv1, tfr_0, tfr_1, tfr_2, tfr_3, tfr_4, s_ild_3, s_ild4, s_re, LR, IR, true_and, and_true, Nat.reduceAdd, Nat.reduceSub, eq_self]
  refine ⟨vok_of (s := 13) (by assumption) rfl, ?_⟩
  refine sc_xn (D := 0) (fun d' hd' => k_X11_checkFormula (by assumption) (by omega) hd') (by omega) rfl ?_ (fun s hs _ => Or.inr ⟨s, rfl, rfl, (fun h => Or.inl (h)) hs⟩)
  intro h8_
  try simp only [s_ald_0, s_ild_2, s_iv1, tfr_0, tfr_1, tfr_2, tfr_3, tfr_4, s_ild_3, s_ild4, s_re, LR, IR, true_and, and_true, Nat.reduceAdd, Nat.reduceSub, eq_self]
  refine ⟨vok_of (s := 13) (by assumption) rfl, ?_⟩
  refine sc_xn (D := 0) (fun d' hd' => k_X11_checkDefined (by assumption) (by omega) hd') (by omega) rfl ?_ (fun s hs _ => Or.inr ⟨s, rfl, rfl, (fun h => Or.inr (h)) hs⟩)
  intro h11_
  try simp only [s_ald_0, s_ild_3, s_iv1, tfr_0, tfr_1, tfr_2, tfr_3, tfr_4, s_ild4, s_re, LR, IR, true_and, and_true, Nat.reduceAdd, Nat.reduceSub, eq_self]
  refine ⟨vok_of (s := 13) (by assumption) rfl, ?_⟩
  refine sc_xn (D := 2) (fun d' hd' => k_X11_checkHeld (by assumption) (by omega) hd') (by omega) rfl ?_ (fun s hs _ => Or.inr ⟨s, rfl, rfl, (fun h => Or.inr (h)) hs⟩)
  intro h14_
  try simp only [s_ald_0, s_ild4, s_iv1, tfr_0, tfr_1, tfr_2, tfr_3, tfr_4, s_re, LR, IR, true_and, and_true, Nat.reduceAdd, Nat.reduceSub, eq_self]
  refine ⟨vok_of (s := 13) (by assumption) rfl, ?_⟩
  refine sc_xn (D := 2) (fun d' hd' => k_X11_checkHeld (by assumption) (by omega) hd') (by omega) rfl ?_ (fun s hs _ => Or.inr ⟨s, rfl, rfl, (fun h => Or.inr (h)) hs⟩)
  intro h17_
  try simp only [s_re, LR, IR, true_and, and_true, Nat.reduceAdd, Nat.reduceSub, eq_self]
  exact fun _ _ _ _ => Or.inl ⟨rfl, rfl, by first | trivial | omega⟩
theorem k_X11_checkPair {e : tE} {b : Nat} {d n : Nat} {r : Nat} {x1 : Int} {x2 : Int} (h0 : cl r 13) (h1 : (-2147483648 ≤ x1 ∧ x1 ≤ 2147483647)) (h2 : (-2147483648 ≤ x2 ∧ x2 ≤ 2147483647)) (hd : 3 ≤ d) : sC e b d 3342 [.inr (.inr (.inl r)), .inl x1, .inl x2] n (SQx n (SQn n ((0 ≤ x1 ∧ x1 ≤ 9) ∧ (0 ≤ x2 ∧ x2 ≤ 9))) (fun s => s = "java/lang/IndexOutOfBoundsException" ∨ s = "java/util/NoSuchElementException")) := by
  refine sK (fun M h => tst_X11_checkPair h) (fun M0 => ?_)
  refine sblk (hv := false) kbl_X11_checkPair kbs_X11_checkPair (pc := 0) (pe := 21) (rk := 9) (i := 0) rfl (by decide +kernel) ?_
  simp only [kb_X11_checkPair_0, s_ald_0, s_ild_1, s_iv1, tfr_0, tfr_1, tfr_2, tfr_3, tfr_4, s_ild_2, s_re, LR, IR, true_and, and_true, Nat.reduceAdd, Nat.reduceSub, eq_self]
  refine ⟨vok_of (s := 13) (by assumption) rfl, ?_⟩
  refine sc_xn (D := 0) (fun d' hd' => k_X11_checkShelf (by assumption) (by omega) hd') (by omega) rfl ?_ (fun s hs _ => Or.inr ⟨s, rfl, rfl, (fun h => Or.inl (h)) hs⟩)
  intro h3_
  try simp only [s_ald_0, s_ild_2, s_iv1, tfr_0, tfr_1, tfr_2, tfr_3, tfr_4, s_ild_1, s_re, LR, IR, true_and, and_true, Nat.reduceAdd, Nat.reduceSub, eq_self]
  refine ⟨vok_of (s := 13) (by assumption) rfl, ?_⟩
  refine sc_xn (D := 0) (fun d' hd' => k_X11_checkShelf (by assumption) (by omega) hd') (by omega) rfl ?_ (fun s hs _ => Or.inr ⟨s, rfl, rfl, (fun h => Or.inl (h)) hs⟩)
  intro h6_
  try simp only [s_ald_0, s_ild_1, s_iv1, tfr_0, tfr_1, tfr_2, tfr_3, tfr_4, s_ild_2, s_re, LR, IR, true_and, and_true, Nat.reduceAdd, Nat.reduceSub, eq_self]
  refine ⟨vok_of (s := 13) (by assumption) rfl, ?_⟩
  refine sc_xn (D := 2) (fun d' hd' => k_X11_checkHeld (by assumption) (by omega) hd') (by omega) rfl ?_ (fun s hs _ => Or.inr ⟨s, rfl, rfl, (fun h => Or.inr (h)) hs⟩)
  intro h9_
  try simp only [s_ald_0, s_ild_2, s_iv1, tfr_0, tfr_1, tfr_2, tfr_3, tfr_4, s_re, LR, IR, true_and, and_true, Nat.reduceAdd, Nat.reduceSub, eq_self]
  refine ⟨vok_of (s := 13) (by assumption) rfl, ?_⟩
  refine sc_xn (D := 2) (fun d' hd' => k_X11_checkHeld (by assumption) (by omega) hd') (by omega) rfl ?_ (fun s hs _ => Or.inr ⟨s, rfl, rfl, (fun h => Or.inr (h)) hs⟩)
  intro h12_
  try simp only [s_re, LR, IR, true_and, and_true, Nat.reduceAdd, Nat.reduceSub, eq_self]
  exact fun _ _ _ _ => Or.inl ⟨rfl, rfl, by first | trivial | omega⟩
theorem k_X11_checkPiece {e : tE} {b : Nat} {d n : Nat} {r : Nat} {x1 : Int} (h0 : cl r 13) (h1 : (-2147483648 ≤ x1 ∧ x1 ≤ 2147483647)) (hd : 0 ≤ d) : sC e b d 3343 [.inr (.inr (.inl r)), .inl x1] n (SQx n (SQn n (0 ≤ x1 ∧ x1 ≤ 7)) (fun s => s = "java/util/NoSuchElementException")) := by
  refine sK (fun M h => tst_X11_checkPiece h) (fun M0 => ?_)
  have n15 : sT e b M0 d 3343 15 [] [some (.inr (.inr (.inl r))), some (.inl x1)] [] n (fun r n' _ => (SQx n (SQn n (0 ≤ x1 ∧ x1 ≤ 7)) (fun s => s = "java/util/NoSuchElementException")) r n') := by
    refine sblk (hv := false) kbl_X11_checkPiece kbs_X11_checkPiece (pc := 15) (pe := 18) (rk := 9) (i := 1) rfl (by decide +kernel) ?_
    simp only [kb_X11_checkPiece_15, s_new, LR, IR, true_and, and_true, Nat.reduceAdd, Nat.reduceSub, eq_self]
    exact fun _ _ _ _ => Or.inr ⟨_, rfl, rfl, rfl⟩
  refine sblk (hv := false) kbl_X11_checkPiece kbs_X11_checkPiece (pc := 0) (pe := 15) (rk := 9) (i := 0) rfl (by decide +kernel) ?_
  simp only [kb_X11_checkPiece_0, s_ild_1, s_if_lt, s_ald_0, s_gf_13_7, s_gf_9_3, s_ic_lt, s_nil, LR, IR, true_and, and_true, Nat.reduceAdd, Nat.reduceSub, eq_self]
  refine ⟨by omega, fun h3_ => ?_, fun h3_ => ?_⟩
  · exact sT_w (n15)
  refine ⟨by assumption, fun x6_ h6_ => ?_⟩
  refine ⟨by assumption, fun x7_ h7_ g7_ k7_ => ?_⟩
  clear k7_
  refine ⟨by omega, fun h8_ => ?_, fun h8_ => ?_⟩
  · refine sT_w ?_
    refine sblk (hv := false) kbl_X11_checkPiece kbs_X11_checkPiece (pc := 26) (pe := 27) (rk := 9) (i := 3) rfl (by decide +kernel) ?_
    simp only [kb_X11_checkPiece_26, s_re, LR, IR, true_and, and_true, Nat.reduceAdd, Nat.reduceSub, eq_self]
    exact fun _ _ _ _ => Or.inl ⟨rfl, rfl, by first | trivial | omega⟩
  exact sT_w (n15)
theorem k_X10_addedTo {e : tE} {b : Nat} {d n : Nat} {r : Nat} {x1 : Int} (h0 : cl r 12) (h1 : (-9223372036854775808 ≤ x1 ∧ x1 < 9223372036854775808)) (hd : 0 ≤ d) : sC e b d 3073 [.inr (.inr (.inl r)), .inr (.inl x1)] n (SQl n (fun z => (-9223372036854775808 ≤ z ∧ z < 9223372036854775808))) := by
  refine sK (fun M h => tst_X10_addedTo h) (fun M0 => ?_)
  have n5 : ∀ (fu : Nat) (l3_5 : Int) (i5_5 : Int), 60 - i5_5 + 1 ≤ (fu : Int) → (-9223372036854775808 ≤ l3_5 ∧ l3_5 < 9223372036854775808) → (0 ≤ i5_5 ∧ i5_5 ≤ 60) → sT e b M0 d 3073 5 [] [some (.inr (.inr (.inl r))), some (.inr (.inl x1)), none, some (.inr (.inl l3_5)), none, some (.inl i5_5)] [] n (fun r n' _ => (SQl n (fun z => (-9223372036854775808 ≤ z ∧ z < 9223372036854775808))) r n') := by
    intro fu
    induction fu with
    | zero =>
      intro l3_5 i5_5 hm y5_0 y5_1
      exfalso; omega
    | succ fu ih =>
      intro l3_5 i5_5 hm y5_0 y5_1
      have ih5 := ih
      clear ih
      refine sblk (hv := false) kbl_X10_addedTo kbs_X10_addedTo (pc := 5) (pe := 35) (rk := 1) (i := 1) rfl (by decide +kernel) ?_
      simp only [kb_X10_addedTo_5, s_ild5, s_ald_0, s_gf_12_1, s_ic_ge, s_lld_3, s_ld2, s_lmul, s_gf_12_0, s_ca, s_i2l, s_ladd, s_lst_3, tkl_n, tkl_i, tkl_l, tkl_r, s_inc5, s_goto, LR, IR, true_and, and_true, Nat.reduceAdd, Nat.reduceSub, eq_self]
      refine ⟨by assumption, fun x3_ h3_ g3_ k3_ => ?_⟩
      clear k3_
      refine ⟨by omega, fun h4_ => ?_, fun h4_ => ?_⟩
      · refine sT_w ?_
        refine sblk (hv := false) kbl_X10_addedTo kbs_X10_addedTo (pc := 35) (pe := 37) (rk := 1) (i := 2) rfl (by decide +kernel) ?_
        simp only [kb_X10_addedTo_35, s_lld_3, s_lre, LR, IR, true_and, and_true, Nat.reduceAdd, Nat.reduceSub, eq_self]
        exact fun _ _ _ _ => ⟨_, rfl, rfl, by omega⟩
      intro x9_ h9_
      refine ⟨by assumption, fun x11_ h11_ => ?_⟩
      refine ⟨aok_15 (by assumption) (by omega), fun x13_ g13_ => ?_⟩
      have h13_ := arg_15 (by assumption) g13_
      clear g13_
      refine ⟨by omega, ?_⟩
      intro x15_ h15_
      exact sT_w (ih5 _ _ (by omega) (by omega) (by omega))
  refine sblk (hv := false) kbl_X10_addedTo kbs_X10_addedTo (pc := 0) (pe := 5) (rk := 1) (i := 0) rfl (by decide +kernel) ?_
  simp only [kb_X10_addedTo_0, s_lld_1, s_lst_3, tkl_n, tkl_i, tkl_l, tkl_r, s_ic, s_ist5, s_nil, LR, IR, true_and, and_true, Nat.reduceAdd, Nat.reduceSub, eq_self]
  exact sT_w (n5 4294967400 _ _ (by omega) (by omega) (by omega))
theorem k_X10_append {e : tE} {b : Nat} {d n : Nat} {r : Nat} {x1 : Int} (h0 : cl r 12) (h1 : (0 ≤ x1 ∧ x1 ≤ 65535)) (hb : b < 2) (hd : 0 ≤ d) : sC e b d 3074 [.inr (.inr (.inl r)), .inl x1] n (SQn n (True)) := by
  refine sK (fun M h => tst_X10_append h) (fun M0 => ?_)
  have n29 : (0 ≤ x1 ∧ x1 ≤ 65535) → sT e b M0 d 3074 29 [] [some (.inr (.inr (.inl r))), some (.inl x1)] [] n (fun r n' _ => (SQn n (True)) r n') := by
    intro  y29_0
    refine sblk (hv := false) kbl_X10_append kbs_X10_append (pc := 29) (pe := 30) (rk := 9) (i := 1) rfl (by decide +kernel) ?_
    simp only [kb_X10_append_29, s_re, LR, IR, true_and, and_true, Nat.reduceAdd, Nat.reduceSub, eq_self]
    exact fun _ _ _ _ => ⟨rfl, rfl, by first | trivial | omega⟩
  refine sblk (hv := false) kbl_X10_append kbs_X10_append (pc := 0) (pe := 29) (rk := 9) (i := 0) rfl (by decide +kernel) ?_
  simp only [kb_X10_append_0, s_ald_0, s_gf_12_1, s_bi, s_ic_ge, s_gf_12_0, s_ild_1, s_cas, s_dupi, s_dupr, s_ic, s_iadd, s_pf_12_1, s_nil, LR, IR, true_and, and_true, Nat.reduceAdd, Nat.reduceSub, eq_self]
  refine ⟨by assumption, fun x3_ h3_ g3_ k3_ => ?_⟩
  simp (disch := decide) only [gk, gd, eq_self, true_imp_iff, false_imp_iff, and_true, true_and, Nat.reduceEqDiff, reduceIte, reduceCtorEq, ne_eq, not_false_eq_true] at k3_
  refine ⟨by omega, fun h5_ => ?_, fun h5_ => ?_⟩
  · exact sT_w (n29 (by omega))
  refine ⟨by assumption, fun x7_ h7_ => ?_⟩
  refine ⟨by assumption, fun x9_ h9_ g9_ k9_ => ?_⟩
  simp (disch := decide) only [gk, gd, eq_self, true_imp_iff, false_imp_iff, and_true, true_and, Nat.reduceEqDiff, reduceIte, reduceCtorEq, ne_eq, not_false_eq_true] at k9_
  refine ⟨by omega, aok_15 (by assumption) (by omega), ars_15 (by assumption) (by omega), n26_15 (by assumption), ?_⟩
  refine ⟨by assumption, fun x14_ h14_ g14_ k14_ => ?_⟩
  simp (disch := decide) only [gk, gd, eq_self, true_imp_iff, false_imp_iff, and_true, true_and, Nat.reduceEqDiff, reduceIte, reduceCtorEq, ne_eq, not_false_eq_true] at k14_
  refine ⟨by omega, by assumption, by omega, ?_⟩
  exact sT_w (n29 (by omega))
theorem k_X10_clear {e : tE} {b : Nat} {d n : Nat} {r : Nat} (h0 : cl r 12) (hb : b < 2) (hd : 0 ≤ d) : sC e b d 3076 [.inr (.inr (.inl r))] n (SQn n (True)) := by
  refine sK (fun M h => tst_X10_clear h) (fun M0 => ?_)
  refine sblk (hv := false) kbl_X10_clear kbs_X10_clear (pc := 0) (pe := 6) (rk := 9) (i := 0) rfl (by decide +kernel) ?_
  simp only [kb_X10_clear_0, s_ald_0, s_ic, s_pf_12_1, s_re, LR, IR, true_and, and_true, Nat.reduceAdd, Nat.reduceSub, eq_self]
  refine ⟨by omega, by assumption, by omega, ?_⟩
  exact fun _ _ _ _ => ⟨rfl, rfl, by first | trivial | omega⟩
theorem k_X10_write {e : tE} {b : Nat} {d n : Nat} {r : Nat} {x1 : Nat} (h0 : cl r 12) (h1 : cl x1 3) (hb : b < 2) (hd : 1 ≤ d) : sC e b d 3079 [.inr (.inr (.inl r)), .inr (.inr (.inl x1))] n (SQn n (True)) := by
  refine sK (fun M h => tst_X10_write h) (fun M0 => ?_)
  have n63 : ∀ (l2_63 : Int) (l4_63 : Int) (w6_63 : Option tV) (w7_63 : Option tV), (-9223372036854775808 ≤ l2_63 ∧ l2_63 < 9223372036854775808) → (-9223372036854775808 ≤ l4_63 ∧ l4_63 < 9223372036854775808) → sT e b M0 d 3079 63 [] [some (.inr (.inr (.inl r))), some (.inr (.inr (.inl x1))), some (.inr (.inl l2_63)), none, some (.inr (.inl l4_63)), none, w6_63, w7_63] [] n (fun r n' _ => (SQn n (True)) r n') := by
    intro l2_63 l4_63 w6_63 w7_63 y63_0 y63_1
    have n66 : ∀ (fu : Nat) (i6_66 : Int) (w7_66 : Option tV), 19 - i6_66 + 1 ≤ (fu : Int) → (1 ≤ i6_66 ∧ i6_66 ≤ 19) → sT e b M0 d 3079 66 [] [some (.inr (.inr (.inl r))), some (.inr (.inr (.inl x1))), some (.inr (.inl l2_63)), none, some (.inr (.inl l4_63)), none, some (.inl i6_66), w7_66] [] n (fun r n' _ => (SQn n (True)) r n') := by
      intro fu
      induction fu with
      | zero =>
        intro i6_66 w7_66 hm y66_0
        exfalso; omega
      | succ fu ih =>
        intro i6_66 w7_66 hm y66_0
        have ih66 := ih
        clear ih
        have n90 : ∀ (i6_90 : Int) (w7_90 : Option tV), (1 ≤ i6_90 ∧ i6_90 ≤ 19) → sT e b M0 d 3079 90 [] [some (.inr (.inr (.inl r))), some (.inr (.inr (.inl x1))), some (.inr (.inl l2_63)), none, some (.inr (.inl l4_63)), none, some (.inl i6_90), w7_90] [] n (fun r n' _ => (SQn n (True)) r n') := by
          intro i6_90 w7_90 y90_0
          have n96 : ∀ (fu : Nat) (i7_96 : Int), i7_96 + 1 + 1 ≤ (fu : Int) → (-1 ≤ i7_96 ∧ i7_96 ≤ 18) → sT e b M0 d 3079 96 [] [some (.inr (.inr (.inl r))), some (.inr (.inr (.inl x1))), some (.inr (.inl l2_63)), none, some (.inr (.inl l4_63)), none, some (.inl i6_90), some (.inl i7_96)] [] n (fun r n' _ => (SQn n (True)) r n') := by
            intro fu
            induction fu with
            | zero =>
              intro i7_96 hm y96_0
              exfalso; omega
            | succ fu ih =>
              intro i7_96 hm y96_0
              have ih96 := ih
              clear ih
              refine sblk (hv := false) kbl_X10_write kbs_X10_write (pc := 96) (pe := 129) (rk := 9) (i := 8) rfl (by decide +kernel) ?_
              simp only [kb_X10_write_96, s_ild7, s_if_lt, s_ald_0, s_ld2, s_lld_2, s_gs, s_la, s_lax, forall_const, s_ldiv, s_lrem, s_ladd, s_l2i, s_i2c, s_iv1, tfr_0, tfr_1, tfr_2, tfr_3, tfr_4, s_inc7, tkl_n, tkl_i, tkl_l, tkl_r, s_goto, LR, IR, true_and, and_true, Nat.reduceAdd, Nat.reduceSub, eq_self]
              refine ⟨by omega, fun h2_ => ?_, fun h2_ => ?_⟩
              · have n142 : (-1 ≤ i7_96 ∧ i7_96 ≤ -1) → sT e b M0 d 3079 142 [] [some (.inr (.inr (.inl r))), some (.inr (.inr (.inl x1))), some (.inr (.inl l2_63)), none, some (.inr (.inl l4_63)), none, some (.inl i6_90), some (.inl i7_96)] [] n (fun r n' _ => (SQn n (True)) r n') := by
                  intro  y142_0
                  have n146 : ∀ (fu : Nat) (l4_146 : Int) (i7_146 : Int), i7_146 + 1 + 1 ≤ (fu : Int) → (-9223372036854775808 ≤ l4_146 ∧ l4_146 < 9223372036854775808) → (-1 ≤ i7_146 ∧ i7_146 ≤ 9) → sT e b M0 d 3079 146 [] [some (.inr (.inr (.inl r))), some (.inr (.inr (.inl x1))), some (.inr (.inl l2_63)), none, some (.inr (.inl l4_146)), none, some (.inl i6_90), some (.inl i7_146)] [] n (fun r n' _ => (SQn n (True)) r n') := by
                    intro fu
                    induction fu with
                    | zero =>
                      intro l4_146 i7_146 hm y146_0 y146_1
                      exfalso; omega
                    | succ fu ih =>
                      intro l4_146 i7_146 hm y146_0 y146_1
                      have ih146 := ih
                      clear ih
                      have n194 : ∀ (l4_194 : Int) (i7_194 : Int), (-9223372036854775808 ≤ l4_194 ∧ l4_194 < 9223372036854775808) → (-1 ≤ i7_194 ∧ i7_194 ≤ 9) → sT e b M0 d 3079 194 [] [some (.inr (.inr (.inl r))), some (.inr (.inr (.inl x1))), some (.inr (.inl l2_63)), none, some (.inr (.inl l4_194)), none, some (.inl i6_90), some (.inl i7_194)] [] n (fun r n' _ => (SQn n (True)) r n') := by
                        intro l4_194 i7_194 y194_0 y194_1
                        refine sblk (hv := false) kbl_X10_write kbs_X10_write (pc := 194) (pe := 195) (rk := 9) (i := 12) rfl (by decide +kernel) ?_
                        simp only [kb_X10_write_194, s_re, LR, IR, true_and, and_true, Nat.reduceAdd, Nat.reduceSub, eq_self]
                        exact fun _ _ _ _ => ⟨rfl, rfl, by first | trivial | omega⟩
                      refine sblk (hv := false) kbl_X10_write kbs_X10_write (pc := 146) (pe := 194) (rk := 9) (i := 11) rfl (by decide +kernel) ?_
                      simp only [kb_X10_write_146, s_ild7, s_if_lt, s_lld4, s_lc0, s_lcmp, ne_eq, tlc_r, tlc_eq, tlc_lt, tlc_ge, tlc_gt, tlc_le, s_if_le, s_ald_0, s_ld2, s_gs, s_la, s_lax, forall_const, s_ldiv, s_ladd, s_l2i, s_i2c, s_iv1, tfr_0, tfr_1, tfr_2, tfr_3, tfr_4, s_lrem, s_lst4, tkl_n, tkl_i, tkl_l, tkl_r, s_inc7, s_goto, LR, IR, true_and, and_true, Nat.reduceAdd, Nat.reduceSub, eq_self]
                      refine ⟨by omega, fun h5_ => ?_, fun h5_ => ?_⟩
                      · exact sT_w (n194 _ _ (by omega) (by omega))
                      refine ⟨by omega, ?_⟩
                      refine ⟨fun h9_ => ?_, fun h9_ => ?_⟩
                      · exact sT_w (n194 _ _ (by omega) (by omega))
                      refine ⟨by omega, fun x15_ h15_ g15_ => ?_⟩
                      refine ⟨by omega, fun x16_ h16_ y16_ => ?_⟩
                      clear y16_
                      intro x17_ h17_
                      intro x18_ h18_ g18_
                      refine ⟨vok_of (s := 12) (by assumption) rfl, ?_⟩
                      refine sc_n (D := 0) (fun d' hd' => k_X10_append (by assumption) (by omega) (by omega) hd') (by omega) ?_
                      intro h20_
                      try simp only [s_lld4, s_gs, s_ild7, s_la, s_lax, forall_const, s_lrem, s_lst4, tkl_n, tkl_i, tkl_l, tkl_r, s_inc7, s_goto, LR, IR, true_and, and_true, Nat.reduceAdd, Nat.reduceSub, eq_self]
                      refine ⟨by omega, fun x24_ h24_ g24_ => ?_⟩
                      refine ⟨by omega, fun x25_ h25_ => ?_⟩
                      exact sT_w (ih146 _ _ (by omega) (by omega) (by omega))
                  refine sblk (hv := false) kbl_X10_write kbs_X10_write (pc := 142) (pe := 146) (rk := 9) (i := 10) rfl (by decide +kernel) ?_
                  simp only [kb_X10_write_142, s_bi, s_ist7, tkl_n, tkl_i, tkl_l, tkl_r, s_nil, LR, IR, true_and, and_true, Nat.reduceAdd, Nat.reduceSub, eq_self]
                  exact sT_w (n146 4294967400 _ _ (by omega) (by omega) (by omega))
                refine sT_w ?_
                refine sblk (hv := false) kbl_X10_write kbs_X10_write (pc := 129) (pe := 142) (rk := 9) (i := 9) rfl (by decide +kernel) ?_
                simp only [kb_X10_write_129, s_lld4, s_lc0, s_lcmp, ne_eq, tlc_r, tlc_eq, tlc_lt, tlc_ge, tlc_gt, tlc_le, s_if_le, s_ald_0, s_bi, s_iv1, tfr_0, tfr_1, tfr_2, tfr_3, tfr_4, s_nil, LR, IR, true_and, and_true, Nat.reduceAdd, Nat.reduceSub, eq_self]
                refine ⟨by omega, ?_⟩
                refine ⟨fun h34_ => ?_, fun h34_ => ?_⟩
                · exact sT_w (n142 (by omega))
                refine ⟨vok_of (s := 12) (by assumption) rfl, ?_⟩
                refine sc_n (D := 0) (fun d' hd' => k_X10_append (by assumption) (by omega) (by omega) hd') (by omega) ?_
                intro h37_
                try simp only [s_nil, LR, IR, true_and, and_true, Nat.reduceAdd, Nat.reduceSub, eq_self]
                exact sT_w (n142 (by omega))
              refine ⟨by omega, fun x43_ h43_ g43_ => ?_⟩
              refine ⟨by omega, fun x44_ h44_ y44_ => ?_⟩
              clear y44_
              refine ⟨by omega, fun x46_ h46_ => ?_⟩
              intro x47_ h47_
              intro x48_ h48_ g48_
              refine ⟨vok_of (s := 12) (by assumption) rfl, ?_⟩
              refine sc_n (D := 0) (fun d' hd' => k_X10_append (by assumption) (by omega) (by omega) hd') (by omega) ?_
              intro h50_
              try simp only [s_inc7, tkl_n, tkl_i, tkl_l, tkl_r, s_goto, LR, IR, true_and, and_true, Nat.reduceAdd, Nat.reduceSub, eq_self]
              exact sT_w (ih96 _ (by omega) (by omega))
          refine sblk (hv := false) kbl_X10_write kbs_X10_write (pc := 90) (pe := 96) (rk := 9) (i := 7) rfl (by decide +kernel) ?_
          simp only [kb_X10_write_90, s_ild6, s_ic, s_isub, s_ist7, tkl_n, tkl_i, tkl_l, tkl_r, s_nil, LR, IR, true_and, and_true, Nat.reduceAdd, Nat.reduceSub, eq_self]
          exact sT_w (n96 4294967400 _ (by omega) (by omega))
        refine sblk (hv := false) kbl_X10_write kbs_X10_write (pc := 66) (pe := 90) (rk := 9) (i := 6) rfl (by decide +kernel) ?_
        simp only [kb_X10_write_66, s_ild6, s_bi, s_ic_ge, s_lld_2, s_gs, s_la, s_lax, forall_const, s_lcmp, ne_eq, tlc_r, tlc_eq, tlc_lt, tlc_ge, tlc_gt, tlc_le, s_if_lt, s_inc6, tkl_n, tkl_i, tkl_l, tkl_r, s_goto, LR, IR, true_and, and_true, Nat.reduceAdd, Nat.reduceSub, eq_self]
        refine ⟨by omega, fun h59_ => ?_, fun h59_ => ?_⟩
        · exact sT_w (n90 _ _ (by omega))
        refine ⟨by omega, fun x63_ h63_ g63_ => ?_⟩
        refine ⟨by omega, ?_⟩
        refine ⟨fun h65_ => ?_, fun h65_ => ?_⟩
        · exact sT_w (n90 _ _ (by omega))
        exact sT_w (ih66 _ _ (by omega) (by omega))
    refine sblk (hv := false) kbl_X10_write kbs_X10_write (pc := 63) (pe := 66) (rk := 9) (i := 5) rfl (by decide +kernel) ?_
    simp only [kb_X10_write_63, s_ic, s_ist6, tkl_n, tkl_i, tkl_l, tkl_r, s_nil, LR, IR, true_and, and_true, Nat.reduceAdd, Nat.reduceSub, eq_self]
    exact sT_w (n66 4294967400 _ _ (by omega) (by omega))
  have n43 : ∀ (l2_43 : Int) (l4_43 : Int) (w6_43 : Option tV) (w7_43 : Option tV) (ls0_43 : Int), (-9223372036854775808 ≤ l2_43 ∧ l2_43 < 9223372036854775808) → (-9223372036854775808 ≤ l4_43 ∧ l4_43 < 9223372036854775808) → (-9223372036854775808 ≤ ls0_43 ∧ ls0_43 < 9223372036854775808) → sT e b M0 d 3079 43 [] [some (.inr (.inr (.inl r))), some (.inr (.inr (.inl x1))), some (.inr (.inl l2_43)), none, some (.inr (.inl l4_43)), none, w6_43, w7_43] [.inr (.inl ls0_43)] n (fun r n' _ => (SQn n (True)) r n') := by
    intro l2_43 l4_43 w6_43 w7_43 ls0_43 y43_0 y43_1 y43_2
    have n61 : ∀ (l2_61 : Int) (w6_61 : Option tV) (w7_61 : Option tV) (ls0_61 : Int), (-9223372036854775808 ≤ l2_61 ∧ l2_61 < 9223372036854775808) → (-9223372036854775808 ≤ ls0_61 ∧ ls0_61 < 9223372036854775808) → sT e b M0 d 3079 61 [] [some (.inr (.inr (.inl r))), some (.inr (.inr (.inl x1))), some (.inr (.inl l2_61)), none, some (.inr (.inl l4_43)), none, w6_61, w7_61] [.inr (.inl ls0_61)] n (fun r n' _ => (SQn n (True)) r n') := by
      intro l2_61 w6_61 w7_61 ls0_61 y61_0 y61_1
      refine sblk (hv := false) kbl_X10_write kbs_X10_write (pc := 61) (pe := 63) (rk := 9) (i := 4) rfl (by decide +kernel) ?_
      simp only [kb_X10_write_61, s_lst4, tkl_n, tkl_i, tkl_l, tkl_r, s_nil, LR, IR, true_and, and_true, Nat.reduceAdd, Nat.reduceSub, eq_self]
      exact sT_w (n63 _ _ _ _ (by omega) (by omega))
    refine sblk (hv := false) kbl_X10_write kbs_X10_write (pc := 43) (pe := 55) (rk := 9) (i := 2) rfl (by decide +kernel) ?_
    simp only [kb_X10_write_43, s_lst_2, tkl_n, tkl_i, tkl_l, tkl_r, s_lld4, s_lc0, s_lcmp, ne_eq, tlc_r, tlc_eq, tlc_lt, tlc_ge, tlc_gt, tlc_le, s_if_ne, s_goto, LR, IR, true_and, and_true, Nat.reduceAdd, Nat.reduceSub, eq_self]
    refine ⟨by omega, ?_⟩
    refine ⟨fun h75_ => ?_, fun h75_ => ?_⟩
    · refine sT_w ?_
      refine sblk (hv := false) kbl_X10_write kbs_X10_write (pc := 55) (pe := 61) (rk := 9) (i := 3) rfl (by decide +kernel) ?_
      simp only [kb_X10_write_55, s_ld2, s_lld4, s_lsub, s_nil, LR, IR, true_and, and_true, Nat.reduceAdd, Nat.reduceSub, eq_self]
      intro x78_ h78_
      exact sT_w (n61 _ _ _ _ (by omega) (by omega))
    exact sT_w (n61 _ _ _ _ (by omega) (by omega))
  refine sblk (hv := false) kbl_X10_write kbs_X10_write (pc := 0) (pe := 39) (rk := 9) (i := 0) rfl (by decide +kernel) ?_
  simp only [kb_X10_write_0, s_ald_0, s_iv0, tfr_0, tfr_1, tfr_2, tfr_3, tfr_4, s_ald_1, s_gf_3_0, s_lst_2, tkl_n, tkl_i, tkl_l, tkl_r, s_gf_3_1, s_lst4, s_lld_2, s_lc0, s_lcmp, ne_eq, tlc_r, tlc_eq, tlc_lt, tlc_ge, tlc_gt, tlc_le, s_if_ge, s_bi, s_iv1, s_lld4, s_if_ne, s_lneg, s_goto, LR, IR, true_and, and_true, Nat.reduceAdd, Nat.reduceSub, eq_self]
  refine ⟨vok_of (s := 12) (by assumption) rfl, ?_⟩
  refine sc_n (D := 0) (fun d' hd' => k_X10_clear (by assumption) (by omega) hd') (by omega) ?_
  intro h82_
  try simp only [s_ald_1, s_gf_3_0, s_lst_2, tkl_n, tkl_i, tkl_l, tkl_r, s_gf_3_1, s_lst4, s_lld_2, s_lc0, s_lcmp, ne_eq, tlc_r, tlc_eq, tlc_lt, tlc_ge, tlc_gt, tlc_le, s_if_ge, s_ald_0, s_bi, s_iv1, tfr_0, tfr_1, tfr_2, tfr_3, tfr_4, s_lld4, s_if_ne, s_lneg, s_goto, LR, IR, true_and, and_true, Nat.reduceAdd, Nat.reduceSub, eq_self]
  refine ⟨by assumption, fun x84_ h84_ => ?_⟩
  refine ⟨by assumption, fun x87_ h87_ => ?_⟩
  refine ⟨by omega, ?_⟩
  refine ⟨fun h92_ => ?_, fun h92_ => ?_⟩
  · exact sT_w (n63 _ _ _ _ (by omega) (by omega))
  refine ⟨vok_of (s := 12) (by assumption) rfl, ?_⟩
  refine sc_n (D := 0) (fun d' hd' => k_X10_append (by assumption) (by omega) (by omega) hd') (by omega) ?_
  intro h95_
  try simp only [s_lld4, s_lc0, s_lcmp, ne_eq, tlc_r, tlc_eq, tlc_lt, tlc_ge, tlc_gt, tlc_le, s_if_ne, s_lld_2, s_lneg, s_goto, LR, IR, true_and, and_true, Nat.reduceAdd, Nat.reduceSub, eq_self]
  refine ⟨by omega, ?_⟩
  refine ⟨fun h99_ => ?_, fun h99_ => ?_⟩
  · refine sT_w ?_
    refine sblk (hv := false) kbl_X10_write kbs_X10_write (pc := 39) (pe := 43) (rk := 9) (i := 1) rfl (by decide +kernel) ?_
    simp only [kb_X10_write_39, s_lld_2, s_lneg, s_lc1, s_lsub, s_nil, LR, IR, true_and, and_true, Nat.reduceAdd, Nat.reduceSub, eq_self]
    intro x101_ h101_
    intro x103_ h103_
    exact sT_w (n43 _ _ _ _ _ (by omega) (by omega) (by omega))
  intro x105_ h105_
  exact sT_w (n43 _ _ _ _ _ (by omega) (by omega) (by omega))
theorem k_X11_checksum {e : tE} {b : Nat} {d n : Nat} {r : Nat} (h0 : cl r 13) (hb : b < 2) (hd : 2 ≤ d) : sC e b d 3347 [.inr (.inr (.inl r))] n (SQl n (fun z => (-9223372036854775808 ≤ z ∧ z < 9223372036854775808))) := by
  refine sK (fun M h => tst_X11_checksum h) (fun M0 => ?_)
  have n12 : ∀ (fu : Nat) (l1_12 : Int) (i3_12 : Int), 10 - i3_12 + 1 ≤ (fu : Int) → (-9223372036854775808 ≤ l1_12 ∧ l1_12 < 9223372036854775808) → (0 ≤ i3_12 ∧ i3_12 ≤ 10) → sT e b M0 d 3347 12 [] [some (.inr (.inr (.inl r))), some (.inr (.inl l1_12)), none, some (.inl i3_12)] [] n (fun r n' _ => (SQl n (fun z => (-9223372036854775808 ≤ z ∧ z < 9223372036854775808))) r n') := by
    intro fu
    induction fu with
    | zero =>
      intro l1_12 i3_12 hm y12_0 y12_1
      exfalso; omega
    | succ fu ih =>
      intro l1_12 i3_12 hm y12_0 y12_1
      have ih12 := ih
      clear ih
      have n98 : ∀ (l1_98 : Int), (-9223372036854775808 ≤ l1_98 ∧ l1_98 < 9223372036854775808) → (0 ≤ i3_12 ∧ i3_12 ≤ 9) → sT e b M0 d 3347 98 [] [some (.inr (.inr (.inl r))), some (.inr (.inl l1_98)), none, some (.inl i3_12)] [] n (fun r n' _ => (SQl n (fun z => (-9223372036854775808 ≤ z ∧ z < 9223372036854775808))) r n') := by
        intro l1_98 y98_0 y98_1
        refine sblk (hv := false) kbl_X11_checksum kbs_X11_checksum (pc := 98) (pe := 104) (rk := 1) (i := 3) rfl (by decide +kernel) ?_
        simp only [kb_X11_checksum_98, s_inc3, tkl_n, tkl_i, tkl_l, tkl_r, s_goto, LR, IR, true_and, and_true, Nat.reduceAdd, Nat.reduceSub, eq_self]
        exact sT_w (ih12 _ _ (by omega) (by omega) (by omega))
      refine sblk (hv := false) kbl_X11_checksum kbs_X11_checksum (pc := 12) (pe := 92) (rk := 1) (i := 1) rfl (by decide +kernel) ?_
      simp only [kb_X11_checksum_12, s_ild_3, s_bi, s_ic_ge, s_ald_0, s_gf_13_3, s_iv1, tfr_0, tfr_1, tfr_2, tfr_3, tfr_4, s_if_eq, s_gf_13_2, s_gf_4_0, s_lld_1, s_ld2, s_lmul, s_lc1, s_ladd, s_lst_1, tkl_n, tkl_i, tkl_l, tkl_r, s_gf_4_1, s_goto, LR, IR, true_and, and_true, Nat.reduceAdd, Nat.reduceSub, eq_self]
      refine ⟨by omega, fun h5_ => ?_, fun h5_ => ?_⟩
      · refine sT_w ?_
        refine sblk (hv := false) kbl_X11_checksum kbs_X11_checksum (pc := 104) (pe := 113) (rk := 1) (i := 4) rfl (by decide +kernel) ?_
        simp only [kb_X11_checksum_104, s_ald_0, s_gf_13_1, s_lld_1, s_iv1, tfr_0, tfr_1, tfr_2, tfr_3, tfr_4, s_lre, LR, IR, true_and, and_true, Nat.reduceAdd, Nat.reduceSub, eq_self]
        refine ⟨by assumption, fun x7_ h7_ => ?_⟩
        refine ⟨vok_of (s := 12) (by assumption) rfl, ?_⟩
        refine sc_l (D := 0) (fun d' hd' => k_X10_addedTo (by assumption) (by omega) hd') (by omega) ?_
        intro x9_ h9_
        try simp only [s_lre, LR, IR, true_and, and_true, Nat.reduceAdd, Nat.reduceSub, eq_self]
        exact fun _ _ _ _ => ⟨_, rfl, rfl, by omega⟩
      refine ⟨by assumption, fun x12_ h12_ => ?_⟩
      refine ⟨vok_of (s := 11) (by assumption) rfl, ?_⟩
      refine sc_i (D := 1) (fun d' hd' => k_X9_holds (by assumption) (by omega) hd') (by omega) ?_
      intro x14_ h14_
      try simp only [s_if_eq, s_ald_0, s_gf_13_2, s_gf_13_3, s_ild_3, s_iv1, tfr_0, tfr_1, tfr_2, tfr_3, tfr_4, s_gf_4_0, s_lld_1, s_ld2, s_lmul, s_lc1, s_ladd, s_lst_1, tkl_n, tkl_i, tkl_l, tkl_r, s_gf_4_1, s_goto, LR, IR, true_and, and_true, Nat.reduceAdd, Nat.reduceSub, eq_self]
      refine ⟨by omega, fun h15_ => ?_, fun h15_ => ?_⟩
      · refine sT_w ?_
        refine sblk (hv := false) kbl_X11_checksum kbs_X11_checksum (pc := 92) (pe := 98) (rk := 1) (i := 2) rfl (by decide +kernel) ?_
        simp only [kb_X11_checksum_92, s_lld_1, s_ld2, s_lmul, s_lst_1, tkl_n, tkl_i, tkl_l, tkl_r, s_nil, LR, IR, true_and, and_true, Nat.reduceAdd, Nat.reduceSub, eq_self]
        intro x18_ h18_
        exact sT_w (n98 _ (by omega) (by omega))
      refine ⟨by assumption, fun x21_ h21_ => ?_⟩
      refine ⟨by assumption, fun x23_ h23_ => ?_⟩
      refine ⟨vok_of (s := 11) (by assumption) rfl, ?_⟩
      refine sc_r (D := 1) (fun d' hd' => k_X9_box (by assumption) (by omega) hd') (by omega) ?_
      intro x25_ h25_
      try simp only [s_gf_4_0, s_iv1, tfr_0, tfr_1, tfr_2, tfr_3, tfr_4, s_ald_0, s_gf_13_2, s_lld_1, s_ld2, s_lmul, s_lc1, s_ladd, s_lst_1, tkl_n, tkl_i, tkl_l, tkl_r, s_gf_13_3, s_ild_3, s_gf_4_1, s_goto, LR, IR, true_and, and_true, Nat.reduceAdd, Nat.reduceSub, eq_self]
      refine ⟨by assumption, fun x26_ h26_ => ?_⟩
      refine ⟨vok_of (s := 12) (by assumption) rfl, ?_⟩
      refine sc_n (D := 1) (fun d' hd' => k_X10_write (by assumption) (by assumption) (by omega) hd') (by omega) ?_
      intro h27_
      try simp only [s_ald_0, s_gf_13_2, s_lld_1, s_ld2, s_lmul, s_lc1, s_ladd, s_iv1, tfr_0, tfr_1, tfr_2, tfr_3, tfr_4, s_lst_1, tkl_n, tkl_i, tkl_l, tkl_r, s_gf_13_3, s_ild_3, s_gf_4_1, s_goto, LR, IR, true_and, and_true, Nat.reduceAdd, Nat.reduceSub, eq_self]
      refine ⟨by assumption, fun x29_ h29_ => ?_⟩
      intro x32_ h32_
      intro x34_ h34_
      refine ⟨vok_of (s := 12) (by assumption) rfl, ?_⟩
      refine sc_l (D := 0) (fun d' hd' => k_X10_addedTo (by assumption) (by omega) hd') (by omega) ?_
      intro x35_ h35_
      try simp only [s_lst_1, tkl_n, tkl_i, tkl_l, tkl_r, s_ald_0, s_gf_13_2, s_gf_13_3, s_ild_3, s_iv1, tfr_0, tfr_1, tfr_2, tfr_3, tfr_4, s_gf_4_1, s_lld_1, s_goto, LR, IR, true_and, and_true, Nat.reduceAdd, Nat.reduceSub, eq_self]
      refine ⟨by assumption, fun x38_ h38_ => ?_⟩
      refine ⟨by assumption, fun x40_ h40_ => ?_⟩
      refine ⟨vok_of (s := 11) (by assumption) rfl, ?_⟩
      refine sc_r (D := 1) (fun d' hd' => k_X9_box (by assumption) (by omega) hd') (by omega) ?_
      intro x42_ h42_
      try simp only [s_gf_4_1, s_iv1, tfr_0, tfr_1, tfr_2, tfr_3, tfr_4, s_ald_0, s_gf_13_2, s_lld_1, s_lst_1, tkl_n, tkl_i, tkl_l, tkl_r, s_goto, LR, IR, true_and, and_true, Nat.reduceAdd, Nat.reduceSub, eq_self]
      refine ⟨by assumption, fun x43_ h43_ => ?_⟩
      refine ⟨vok_of (s := 12) (by assumption) rfl, ?_⟩
      refine sc_n (D := 1) (fun d' hd' => k_X10_write (by assumption) (by assumption) (by omega) hd') (by omega) ?_
      intro h44_
      try simp only [s_ald_0, s_gf_13_2, s_lld_1, s_iv1, tfr_0, tfr_1, tfr_2, tfr_3, tfr_4, s_lst_1, tkl_n, tkl_i, tkl_l, tkl_r, s_goto, LR, IR, true_and, and_true, Nat.reduceAdd, Nat.reduceSub, eq_self]
      refine ⟨by assumption, fun x46_ h46_ => ?_⟩
      refine ⟨vok_of (s := 12) (by assumption) rfl, ?_⟩
      refine sc_l (D := 0) (fun d' hd' => k_X10_addedTo (by assumption) (by omega) hd') (by omega) ?_
      intro x48_ h48_
      try simp only [s_lst_1, tkl_n, tkl_i, tkl_l, tkl_r, s_goto, LR, IR, true_and, and_true, Nat.reduceAdd, Nat.reduceSub, eq_self]
      exact sT_w (n98 _ (by omega) (by omega))
  refine sblk (hv := false) kbl_X11_checksum kbs_X11_checksum (pc := 0) (pe := 12) (rk := 1) (i := 0) rfl (by decide +kernel) ?_
  simp only [kb_X11_checksum_0, s_ld2, s_ald_0, s_gf_13_0, s_i2l, s_ladd, s_lst_1, tkl_n, tkl_i, tkl_l, tkl_r, s_ic, s_ist_3, s_nil, LR, IR, true_and, and_true, Nat.reduceAdd, Nat.reduceSub, eq_self]
  refine ⟨by assumption, fun x53_ h53_ g53_ k53_ => ?_⟩
  clear k53_
  refine ⟨by omega, ?_⟩
  intro x55_ h55_
  exact sT_w (n12 4294967400 _ _ (by omega) (by omega) (by omega))
theorem k_X11_compare {e : tE} {b : Nat} {d n : Nat} {r : Nat} {x1 : Int} {x2 : Int} (h0 : cl r 13) (h1 : (-2147483648 ≤ x1 ∧ x1 ≤ 2147483647)) (h2 : (-2147483648 ≤ x2 ∧ x2 ≤ 2147483647)) (hd : 4 ≤ d) : sC e b d 3349 [.inr (.inr (.inl r)), .inl x1, .inl x2] n (SQx n (SQi n (fun z => (-1 ≤ z ∧ z ≤ 2))) (fun s => s = "java/lang/IndexOutOfBoundsException" ∨ s = "java/util/NoSuchElementException")) := by
  refine sK (fun M h => tst_X11_compare h) (fun M0 => ?_)
  refine sblk (hv := false) kbl_X11_compare kbs_X11_compare (pc := 0) (pe := 42) (rk := 0) (i := 0) rfl (by decide +kernel) ?_
  simp only [kb_X11_compare_0, s_ald_0, s_ild_1, s_ild_2, s_iv2, tfr_0, tfr_1, tfr_2, tfr_3, tfr_4, s_gf_13_3, s_iv1, s_ast_3, tkl_n, tkl_i, tkl_l, tkl_r, s_ast4, s_ald_3, s_gf_4_1, s_ald4, s_gf_4_0, s_if_eq, s_ic, s_ire, trg, LR, IR, true_and, and_true, Nat.reduceAdd, Nat.reduceSub, eq_self]
  refine ⟨vok_of (s := 13) (by assumption) rfl, ?_⟩
  refine sc_xn (D := 3) (fun d' hd' => k_X11_checkPair (by assumption) (by omega) (by omega) hd') (by omega) rfl ?_ (fun s hs _ => Or.inr ⟨s, rfl, rfl, (fun h => h.elim (fun h => Or.inl (h)) (fun h => Or.inr (h))) hs⟩)
  intro h4_
  try simp only [s_ald_0, s_gf_13_3, s_ild_1, s_iv1, tfr_0, tfr_1, tfr_2, tfr_3, tfr_4, s_ast_3, tkl_n, tkl_i, tkl_l, tkl_r, s_ild_2, s_ast4, s_ald_3, s_gf_4_1, s_ald4, s_gf_4_0, s_if_eq, s_ic, s_ire, trg, LR, IR, true_and, and_true, Nat.reduceAdd, Nat.reduceSub, eq_self]
  refine ⟨by assumption, fun x6_ h6_ => ?_⟩
  refine ⟨vok_of (s := 11) (by assumption) rfl, ?_⟩
  refine sc_r (D := 1) (fun d' hd' => k_X9_box (by assumption) (by omega) hd') (by omega) ?_
  intro x8_ h8_
  try simp only [s_ast_3, tkl_n, tkl_i, tkl_l, tkl_r, s_ald_0, s_gf_13_3, s_ild_2, s_iv1, tfr_0, tfr_1, tfr_2, tfr_3, tfr_4, s_ast4, s_ald_3, s_gf_4_1, s_ald4, s_gf_4_0, s_if_eq, s_ic, s_ire, trg, LR, IR, true_and, and_true, Nat.reduceAdd, Nat.reduceSub, eq_self]
  refine ⟨by assumption, fun x11_ h11_ => ?_⟩
  refine ⟨vok_of (s := 11) (by assumption) rfl, ?_⟩
  refine sc_r (D := 1) (fun d' hd' => k_X9_box (by assumption) (by omega) hd') (by omega) ?_
  intro x13_ h13_
  try simp only [s_ast4, tkl_n, tkl_i, tkl_l, tkl_r, s_ald_3, s_gf_4_1, s_ald4, s_gf_4_0, s_iv1, tfr_0, tfr_1, tfr_2, tfr_3, tfr_4, s_if_eq, s_ic, s_ire, trg, LR, IR, true_and, and_true, Nat.reduceAdd, Nat.reduceSub, eq_self]
  refine ⟨by assumption, fun x16_ h16_ => ?_⟩
  refine ⟨by assumption, fun x18_ h18_ => ?_⟩
  refine ⟨vok_of (s := 3) (by assumption) rfl, ?_⟩
  refine sc_i (D := 0) (fun d' hd' => k_X1_isBelow (by assumption) (by assumption) hd') (by omega) ?_
  intro x19_ h19_
  try simp only [s_if_eq, s_ic, s_ire, trg, LR, IR, true_and, and_true, Nat.reduceAdd, Nat.reduceSub, eq_self]
  refine ⟨by omega, fun h20_ => ?_, fun h20_ => ?_⟩
  · refine sT_w ?_
    refine sblk (hv := false) kbl_X11_compare kbs_X11_compare (pc := 42) (pe := 59) (rk := 0) (i := 1) rfl (by decide +kernel) ?_
    simp only [kb_X11_compare_42, s_ald4, s_gf_4_1, s_ald_3, s_gf_4_0, s_iv1, tfr_0, tfr_1, tfr_2, tfr_3, tfr_4, s_if_eq, s_ic, s_ire, trg, LR, IR, true_and, and_true, Nat.reduceAdd, Nat.reduceSub, eq_self]
    refine ⟨by assumption, fun x22_ h22_ => ?_⟩
    refine ⟨by assumption, fun x24_ h24_ => ?_⟩
    refine ⟨vok_of (s := 3) (by assumption) rfl, ?_⟩
    refine sc_i (D := 0) (fun d' hd' => k_X1_isBelow (by assumption) (by assumption) hd') (by omega) ?_
    intro x25_ h25_
    try simp only [s_if_eq, s_ic, s_ire, trg, LR, IR, true_and, and_true, Nat.reduceAdd, Nat.reduceSub, eq_self]
    refine ⟨by omega, fun h26_ => ?_, fun h26_ => ?_⟩
    · have n79 : ∀ (q3_79 : Nat) (q4_79 : Nat) (w5_79 : Option tV) (is0_79 : Int), cl q3_79 4 → cl q4_79 4 → (0 ≤ is0_79 ∧ is0_79 ≤ 1) → sT e b M0 d 3349 79 [] [some (.inr (.inr (.inl r))), some (.inl x1), some (.inl x2), some (.inr (.inr (.inl q3_79))), some (.inr (.inr (.inl q4_79))), w5_79] [.inl is0_79] n (fun r n' _ => (SQx n (SQi n (fun z => (-1 ≤ z ∧ z ≤ 2))) (fun s => s = "java/lang/IndexOutOfBoundsException" ∨ s = "java/util/NoSuchElementException")) r n') := by
        intro q3_79 q4_79 w5_79 is0_79 y79_0 y79_1 y79_2
        have n91 : ∀ (i5_91 : Int) (is0_91 : Int), (0 ≤ i5_91 ∧ i5_91 ≤ 1) → (0 ≤ is0_91 ∧ is0_91 ≤ 2) → sT e b M0 d 3349 91 [] [some (.inr (.inr (.inl r))), some (.inl x1), some (.inl x2), some (.inr (.inr (.inl q3_79))), some (.inr (.inr (.inl q4_79))), some (.inl i5_91)] [.inl is0_91] n (fun r n' _ => (SQx n (SQi n (fun z => (-1 ≤ z ∧ z ≤ 2))) (fun s => s = "java/lang/IndexOutOfBoundsException" ∨ s = "java/util/NoSuchElementException")) r n') := by
          intro i5_91 is0_91 y91_0 y91_1
          refine sblk (hv := false) kbl_X11_compare kbs_X11_compare (pc := 91) (pe := 92) (rk := 0) (i := 6) rfl (by decide +kernel) ?_
          simp only [kb_X11_compare_91, s_ire, trg, LR, IR, true_and, and_true, Nat.reduceAdd, Nat.reduceSub, eq_self]
          exact fun _ _ _ _ => Or.inl ⟨_, rfl, rfl, by omega⟩
        refine sblk (hv := false) kbl_X11_compare kbs_X11_compare (pc := 79) (pe := 90) (rk := 0) (i := 4) rfl (by decide +kernel) ?_
        simp only [kb_X11_compare_79, s_ist5, tkl_n, tkl_i, tkl_l, tkl_r, s_ild5, s_if_eq, s_ic, s_goto, LR, IR, true_and, and_true, Nat.reduceAdd, Nat.reduceSub, eq_self]
        refine ⟨by omega, fun h30_ => ?_, fun h30_ => ?_⟩
        · refine sT_w ?_
          refine sblk (hv := false) kbl_X11_compare kbs_X11_compare (pc := 90) (pe := 91) (rk := 0) (i := 5) rfl (by decide +kernel) ?_
          simp only [kb_X11_compare_90, s_ic, s_nil, LR, IR, true_and, and_true, Nat.reduceAdd, Nat.reduceSub, eq_self]
          exact sT_w (n91 _ _ (by omega) (by omega))
        exact sT_w (n91 _ _ (by omega) (by omega))
      have n78 : ∀ (q3_78 : Nat) (q4_78 : Nat) (w5_78 : Option tV), cl q3_78 4 → cl q4_78 4 → sT e b M0 d 3349 78 [] [some (.inr (.inr (.inl r))), some (.inl x1), some (.inl x2), some (.inr (.inr (.inl q3_78))), some (.inr (.inr (.inl q4_78))), w5_78] [] n (fun r n' _ => (SQx n (SQi n (fun z => (-1 ≤ z ∧ z ≤ 2))) (fun s => s = "java/lang/IndexOutOfBoundsException" ∨ s = "java/util/NoSuchElementException")) r n') := by
        intro q3_78 q4_78 w5_78 y78_0 y78_1
        refine sblk (hv := false) kbl_X11_compare kbs_X11_compare (pc := 78) (pe := 79) (rk := 0) (i := 3) rfl (by decide +kernel) ?_
        simp only [kb_X11_compare_78, s_ic, s_nil, LR, IR, true_and, and_true, Nat.reduceAdd, Nat.reduceSub, eq_self]
        exact sT_w (n79 _ _ _ _ (by assumption) (by assumption) (by omega))
      refine sT_w ?_
      refine sblk (hv := false) kbl_X11_compare kbs_X11_compare (pc := 59) (pe := 78) (rk := 0) (i := 2) rfl (by decide +kernel) ?_
      simp only [kb_X11_compare_59, s_ald_3, s_iv0, tfr_0, tfr_1, tfr_2, tfr_3, tfr_4, s_if_eq, s_ald4, s_ic, s_goto, LR, IR, true_and, and_true, Nat.reduceAdd, Nat.reduceSub, eq_self]
      refine ⟨vok_of (s := 4) (by assumption) rfl, ?_⟩
      refine sc_i (D := 2) (fun d' hd' => k_X2_isSingle (by assumption) hd') (by omega) ?_
      intro x36_ h36_
      try simp only [s_if_eq, s_ald4, s_iv0, tfr_0, tfr_1, tfr_2, tfr_3, tfr_4, s_ic, s_goto, LR, IR, true_and, and_true, Nat.reduceAdd, Nat.reduceSub, eq_self]
      refine ⟨by omega, fun h37_ => ?_, fun h37_ => ?_⟩
      · exact sT_w (n78 _ _ _ (by assumption) (by assumption))
      refine ⟨vok_of (s := 4) (by assumption) rfl, ?_⟩
      refine sc_i (D := 2) (fun d' hd' => k_X2_isSingle (by assumption) hd') (by omega) ?_
      intro x39_ h39_
      try simp only [s_if_eq, s_ic, s_goto, LR, IR, true_and, and_true, Nat.reduceAdd, Nat.reduceSub, eq_self]
      refine ⟨by omega, fun h40_ => ?_, fun h40_ => ?_⟩
      · exact sT_w (n78 _ _ _ (by assumption) (by assumption))
      exact sT_w (n79 _ _ _ _ (by assumption) (by assumption) (by omega))
    exact fun _ _ _ _ => Or.inl ⟨_, rfl, rfl, by omega⟩
  exact fun _ _ _ _ => Or.inl ⟨_, rfl, rfl, by omega⟩
theorem k_X11_unitOf {e : tE} {b : Nat} {d n : Nat} {x1 : Int} (h0 : (-2147483648 ≤ x1 ∧ x1 ≤ 2147483647)) (hd : 0 ≤ d) : sC e b d 3397 [.inl x1] n (SQl n (fun z => (-9223372036854775808 ≤ z ∧ z < 9223372036854775808))) := by
  refine sK (fun M h => tst_X11_unitOf h) (fun M0 => ?_)
  have n22 : ∀ (ls0_22 : Int), (-9223372036854775808 ≤ ls0_22 ∧ ls0_22 < 9223372036854775808) → sT e b M0 d 3397 22 [] [some (.inl x1)] [.inr (.inl ls0_22)] n (fun r n' _ => (SQl n (fun z => (-9223372036854775808 ≤ z ∧ z < 9223372036854775808))) r n') := by
    intro ls0_22 y22_0
    refine sblk (hv := false) kbl_X11_unitOf kbs_X11_unitOf (pc := 22) (pe := 23) (rk := 1) (i := 3) rfl (by decide +kernel) ?_
    simp only [kb_X11_unitOf_22, s_lre, LR, IR, true_and, and_true, Nat.reduceAdd, Nat.reduceSub, eq_self]
    exact fun _ _ _ _ => ⟨_, rfl, rfl, by omega⟩
  have n10 : sT e b M0 d 3397 10 [] [some (.inl x1)] [] n (fun r n' _ => (SQl n (fun z => (-9223372036854775808 ≤ z ∧ z < 9223372036854775808))) r n') := by
    refine sblk (hv := false) kbl_X11_unitOf kbs_X11_unitOf (pc := 10) (pe := 14) (rk := 1) (i := 1) rfl (by decide +kernel) ?_
    simp only [kb_X11_unitOf_10, s_lc1, s_goto, LR, IR, true_and, and_true, Nat.reduceAdd, Nat.reduceSub, eq_self]
    exact sT_w (n22 _ (by omega))
  refine sblk (hv := false) kbl_X11_unitOf kbs_X11_unitOf (pc := 0) (pe := 10) (rk := 1) (i := 0) rfl (by decide +kernel) ?_
  simp only [kb_X11_unitOf_0, s_ild_0, s_if_lt, s_bi, s_ic_le, s_nil, LR, IR, true_and, and_true, Nat.reduceAdd, Nat.reduceSub, eq_self]
  refine ⟨by omega, fun h5_ => ?_, fun h5_ => ?_⟩
  · exact sT_w (n10)
  refine ⟨by omega, fun h8_ => ?_, fun h8_ => ?_⟩
  · refine sT_w ?_
    refine sblk (hv := false) kbl_X11_unitOf kbs_X11_unitOf (pc := 14) (pe := 22) (rk := 1) (i := 2) rfl (by decide +kernel) ?_
    simp only [kb_X11_unitOf_14, s_gs, s_bi, s_ild_0, s_isub, s_la, s_lax, forall_const, s_nil, LR, IR, true_and, and_true, Nat.reduceAdd, Nat.reduceSub, eq_self]
    refine ⟨by omega, fun x13_ h13_ g13_ => ?_⟩
    exact sT_w (n22 _ (by omega))
  exact sT_w (n10)
theorem k_X5_isAhead {e : tE} {b : Nat} {d n : Nat} {x1 : Int} (h0 : (0 ≤ x1 ∧ x1 ≤ 65535)) (hd : 0 ≤ d) : sC e b d 1798 [.inl x1] n (SQi n (fun z => (0 ≤ z ∧ z ≤ 1) ∧ (z ≠ 0 → x1 ≠ 0))) := by
  refine sK (fun M h => tst_X5_isAhead h) (fun M0 => ?_)
  have n35 : ∀ (is0_35 : Int), (0 ≤ x1 ∧ x1 ≤ 65535) → (0 ≤ is0_35 ∧ is0_35 ≤ 1) → (is0_35 ≠ 0 → x1 ≠ 0) → sT e b M0 d 1798 35 [] [some (.inl x1)] [.inl is0_35] n (fun r n' _ => (SQi n (fun z => (0 ≤ z ∧ z ≤ 1) ∧ (z ≠ 0 → x1 ≠ 0))) r n') := by
    intro is0_35 y35_0 y35_1 y35_2
    refine sblk (hv := false) kbl_X5_isAhead kbs_X5_isAhead (pc := 35) (pe := 36) (rk := 3) (i := 3) rfl (by decide +kernel) ?_
    simp only [kb_X5_isAhead_35, s_ire, trg, LR, IR, true_and, and_true, Nat.reduceAdd, Nat.reduceSub, eq_self]
    exact ⟨by omega, fun _ _ _ _ => ⟨_, rfl, rfl, by omega⟩⟩
  have n30 : (97 ≤ x1 ∧ x1 ≤ 126) → x1 ≠ 0 → sT e b M0 d 1798 30 [] [some (.inl x1)] [] n (fun r n' _ => (SQi n (fun z => (0 ≤ z ∧ z ≤ 1) ∧ (z ≠ 0 → x1 ≠ 0))) r n') := by
    intro  y30_0 y30_1
    refine sblk (hv := false) kbl_X5_isAhead kbs_X5_isAhead (pc := 30) (pe := 34) (rk := 3) (i := 1) rfl (by decide +kernel) ?_
    simp only [kb_X5_isAhead_30, s_ic, s_goto, LR, IR, true_and, and_true, Nat.reduceAdd, Nat.reduceSub, eq_self]
    exact sT_w (n35 _ (by omega) (by omega) (by omega))
  refine sblk (hv := false) kbl_X5_isAhead kbs_X5_isAhead (pc := 0) (pe := 30) (rk := 3) (i := 0) rfl (by decide +kernel) ?_
  simp only [kb_X5_isAhead_0, s_ild_0, s_bi, s_ic_eq, s_ic_ne, s_nil, LR, IR, true_and, and_true, Nat.reduceAdd, Nat.reduceSub, eq_self]
  refine ⟨by omega, fun h6_ => ?_, fun h6_ => ?_⟩
  · exact sT_w (n30 (by omega) (by omega))
  refine ⟨by omega, fun h9_ => ?_, fun h9_ => ?_⟩
  · exact sT_w (n30 (by omega) (by omega))
  refine ⟨by omega, fun h12_ => ?_, fun h12_ => ?_⟩
  · exact sT_w (n30 (by omega) (by omega))
  refine ⟨by omega, fun h15_ => ?_, fun h15_ => ?_⟩
  · exact sT_w (n30 (by omega) (by omega))
  refine ⟨by omega, fun h18_ => ?_, fun h18_ => ?_⟩
  · refine sT_w ?_
    refine sblk (hv := false) kbl_X5_isAhead kbs_X5_isAhead (pc := 34) (pe := 35) (rk := 3) (i := 2) rfl (by decide +kernel) ?_
    simp only [kb_X5_isAhead_34, s_ic, s_nil, LR, IR, true_and, and_true, Nat.reduceAdd, Nat.reduceSub, eq_self]
    exact sT_w (n35 _ (by omega) (by omega) (by omega))
  exact sT_w (n30 (by omega) (by omega))
theorem k_X5_startOf {e : tE} {b : Nat} {d n : Nat} {r : Nat} {x1 : Int} (h0 : cl r 7) (h1 : (-2147483648 ≤ x1 ∧ x1 ≤ 2147483647)) (hd : 1 ≤ d) : sC e b d 1808 [.inr (.inr (.inl r)), .inl x1] n (SQi n (fun z => (-65536 ≤ z ∧ z ≤ 2147483647))) := by
  refine sK (fun M h => tst_X5_startOf h) (fun M0 => ?_)
  refine sblk (hv := false) kbl_X5_startOf kbs_X5_startOf (pc := 0) (pe := 11) (rk := 0) (i := 0) rfl (by decide +kernel) ?_
  simp only [kb_X5_startOf_0, s_ald_0, s_gf_7_3, s_ild_1, s_iv1, tfr_0, tfr_1, tfr_2, tfr_3, tfr_4, s_ia, s_iax, s_ire, trg, LR, IR, true_and, and_true, Nat.reduceAdd, Nat.reduceSub, eq_self]
  refine ⟨by assumption, fun x2_ h2_ => ?_⟩
  refine ⟨vok_of (s := 7) (by assumption) rfl, ?_⟩
  refine sc_i (D := 0) (fun d' hd' => k_X5_within (by assumption) (by omega) hd') (by omega) ?_
  intro x5_ h5_
  try simp only [s_ia, s_iax, s_ire, trg, LR, IR, true_and, and_true, Nat.reduceAdd, Nat.reduceSub, eq_self]
  refine ⟨aok_26 (by assumption) (by omega), fun x6_ g6_ => ?_⟩
  have h6_ := arg_26 (by assumption) g6_
  clear g6_
  exact fun _ _ _ _ => ⟨_, rfl, rfl, by omega⟩
theorem k_X5_findStarts {e : tE} {b : Nat} {d n : Nat} {r : Nat} (h0 : cl r 7) (hb : b = 0) (hd : 2 ≤ d) : sC e b d 1796 [.inr (.inr (.inl r))] n (SQn n (True)) := by
  refine sK (fun M h => tst_X5_findStarts h) (fun M0 => ?_)
  have n2 : ∀ (fu : Nat) (i1_2 : Int), 60 - i1_2 + 1 ≤ (fu : Int) → (0 ≤ i1_2 ∧ i1_2 ≤ 60) → sT e b M0 d 1796 2 [] [some (.inr (.inr (.inl r))), some (.inl i1_2)] [] n (fun r n' _ => (SQn n (True)) r n') := by
    intro fu
    induction fu with
    | zero =>
      intro i1_2 hm y2_0
      exfalso; omega
    | succ fu ih =>
      intro i1_2 hm y2_0
      have ih2 := ih
      clear ih
      have n90 : (0 ≤ i1_2 ∧ i1_2 ≤ 59) → sT e b M0 d 1796 90 [] [some (.inr (.inr (.inl r))), some (.inl i1_2)] [] n (fun r n' _ => (SQn n (True)) r n') := by
        intro  y90_0
        refine sblk (hv := false) kbl_X5_findStarts kbs_X5_findStarts (pc := 90) (pe := 96) (rk := 9) (i := 5) rfl (by decide +kernel) ?_
        simp only [kb_X5_findStarts_90, s_inc1, tkl_n, tkl_i, tkl_l, tkl_r, s_goto, LR, IR, true_and, and_true, Nat.reduceAdd, Nat.reduceSub, eq_self]
        exact sT_w (ih2 _ (by omega) (by omega))
      refine sblk (hv := false) kbl_X5_findStarts kbs_X5_findStarts (pc := 2) (pe := 44) (rk := 9) (i := 1) rfl (by decide +kernel) ?_
      simp only [kb_X5_findStarts_2, s_ild_1, s_ald_0, s_gf_7_4, s_ic_ge, s_gf_7_0, s_ca, s_is1, tfr_0, tfr_1, tfr_2, tfr_3, tfr_4, s_if_eq, s_gf_7_3, s_ic, s_isub, s_iv1, s_ias, s_goto, LR, IR, true_and, and_true, Nat.reduceAdd, Nat.reduceSub, eq_self]
      refine ⟨by assumption, fun x5_ h5_ g5_ k5_ => ?_⟩
      clear k5_
      refine ⟨by omega, fun h6_ => ?_, fun h6_ => ?_⟩
      · refine sT_w ?_
        refine sblk (hv := false) kbl_X5_findStarts kbs_X5_findStarts (pc := 96) (pe := 97) (rk := 9) (i := 6) rfl (by decide +kernel) ?_
        simp only [kb_X5_findStarts_96, s_re, LR, IR, true_and, and_true, Nat.reduceAdd, Nat.reduceSub, eq_self]
        exact fun _ _ _ _ => ⟨rfl, rfl, by first | trivial | omega⟩
      refine ⟨by assumption, fun x9_ h9_ => ?_⟩
      refine ⟨aok_42 (by assumption) (by omega), fun x11_ g11_ => ?_⟩
      have h11_ := arg_42 (by assumption) g11_
      clear g11_
      refine sc_i (D := 0) (fun d' hd' => k_X5_isPair (by omega) hd') (by omega) ?_
      intro x12_ h12_
      try simp only [s_if_eq, s_ald_0, s_gf_7_3, s_ild_1, s_ic, s_isub, s_iv1, tfr_0, tfr_1, tfr_2, tfr_3, tfr_4, s_ias, s_goto, LR, IR, true_and, and_true, Nat.reduceAdd, Nat.reduceSub, eq_self]
      refine ⟨by omega, fun h13_ => ?_, fun h13_ => ?_⟩
      · have n67 : (0 ≤ i1_2 ∧ i1_2 ≤ 59) → sT e b M0 d 1796 67 [] [some (.inr (.inr (.inl r))), some (.inl i1_2)] [] n (fun r n' _ => (SQn n (True)) r n') := by
          intro  y67_0
          refine sblk (hv := false) kbl_X5_findStarts kbs_X5_findStarts (pc := 67) (pe := 83) (rk := 9) (i := 3) rfl (by decide +kernel) ?_
          simp only [kb_X5_findStarts_67, s_ald_0, s_gf_7_3, s_ild_1, s_ic, s_isub, s_iv1, tfr_0, tfr_1, tfr_2, tfr_3, tfr_4, s_ias, s_goto, LR, IR, true_and, and_true, Nat.reduceAdd, Nat.reduceSub, eq_self]
          refine ⟨by assumption, fun x15_ h15_ => ?_⟩
          refine ⟨vok_of (s := 7) (by assumption) rfl, ?_⟩
          refine sc_i (D := 1) (fun d' hd' => k_X5_startOf (by assumption) (by omega) hd') (by omega) ?_
          intro x21_ h21_
          try simp only [s_ias, s_goto, LR, IR, true_and, and_true, Nat.reduceAdd, Nat.reduceSub, eq_self]
          refine ⟨by omega, aok_26 (by assumption) (by omega), ars_26 (by assumption) (by omega), n26_26 (by assumption) hb, ?_⟩
          exact sT_w (n90 (by omega))
        refine sT_w ?_
        refine sblk (hv := false) kbl_X5_findStarts kbs_X5_findStarts (pc := 44) (pe := 67) (rk := 9) (i := 2) rfl (by decide +kernel) ?_
        simp only [kb_X5_findStarts_44, s_ald_0, s_gf_7_0, s_ild_1, s_ca, s_is1, tfr_0, tfr_1, tfr_2, tfr_3, tfr_4, s_if_ne, s_bi, s_ic_ne, s_nil, LR, IR, true_and, and_true, Nat.reduceAdd, Nat.reduceSub, eq_self]
        refine ⟨by assumption, fun x25_ h25_ => ?_⟩
        refine ⟨aok_42 (by assumption) (by omega), fun x27_ g27_ => ?_⟩
        have h27_ := arg_42 (by assumption) g27_
        clear g27_
        refine sc_i (D := 0) (fun d' hd' => k_X5_isAhead (by omega) hd') (by omega) ?_
        intro x28_ h28_
        try simp only [s_if_ne, s_ald_0, s_gf_7_0, s_ild_1, s_ca, s_bi, s_ic_ne, s_nil, LR, IR, true_and, and_true, Nat.reduceAdd, Nat.reduceSub, eq_self]
        refine ⟨by omega, fun h29_ => ?_, fun h29_ => ?_⟩
        · exact sT_w (n67 (by omega))
        refine ⟨by assumption, fun x31_ h31_ => ?_⟩
        refine ⟨aok_42 (by assumption) (by omega), fun x33_ g33_ => ?_⟩
        have h33_ := arg_42 (by assumption) g33_
        clear g33_
        refine ⟨by omega, fun h35_ => ?_, fun h35_ => ?_⟩
        · refine sT_w ?_
          refine sblk (hv := false) kbl_X5_findStarts kbs_X5_findStarts (pc := 83) (pe := 90) (rk := 9) (i := 4) rfl (by decide +kernel) ?_
          simp only [kb_X5_findStarts_83, s_ald_0, s_gf_7_3, s_ild_1, s_ias, s_nil, LR, IR, true_and, and_true, Nat.reduceAdd, Nat.reduceSub, eq_self]
          refine ⟨by assumption, fun x37_ h37_ => ?_⟩
          refine ⟨by omega, aok_26 (by assumption) (by omega), ars_26 (by assumption) (by omega), n26_26 (by assumption) hb, ?_⟩
          exact sT_w (n90 (by omega))
        exact sT_w (n67 (by omega))
      refine ⟨by assumption, fun x42_ h42_ => ?_⟩
      refine ⟨vok_of (s := 7) (by assumption) rfl, ?_⟩
      refine sc_i (D := 1) (fun d' hd' => k_X5_startOf (by assumption) (by omega) hd') (by omega) ?_
      intro x49_ h49_
      try simp only [s_ic, s_isub, s_iv1, tfr_0, tfr_1, tfr_2, tfr_3, tfr_4, s_ias, s_goto, LR, IR, true_and, and_true, Nat.reduceAdd, Nat.reduceSub, eq_self]
      refine ⟨vok_of (s := 7) (by assumption) rfl, ?_⟩
      refine sc_i (D := 1) (fun d' hd' => k_X5_startOf (by assumption) (by omega) hd') (by omega) ?_
      intro x52_ h52_
      try simp only [s_ias, s_goto, LR, IR, true_and, and_true, Nat.reduceAdd, Nat.reduceSub, eq_self]
      refine ⟨by omega, aok_26 (by assumption) (by omega), ars_26 (by assumption) (by omega), n26_26 (by assumption) hb, ?_⟩
      exact sT_w (n90 (by omega))
  refine sblk (hv := false) kbl_X5_findStarts kbs_X5_findStarts (pc := 0) (pe := 2) (rk := 9) (i := 0) rfl (by decide +kernel) ?_
  simp only [kb_X5_findStarts_0, s_ic, s_ist_1, tkl_n, tkl_i, tkl_l, tkl_r, s_nil, LR, IR, true_and, and_true, Nat.reduceAdd, Nat.reduceSub, eq_self]
  exact sT_w (n2 4294967400 _ (by omega) (by omega))
theorem k_X5_hold {e : tE} {b : Nat} {d n : Nat} {r : Nat} {x1 : Int} (h0 : cl r 7) (h1 : (0 ≤ x1 ∧ x1 ≤ 65535)) (hb : b < 2) (hd : 0 ≤ d) : sC e b d 1797 [.inr (.inr (.inl r)), .inl x1] n (SQn n (True)) := by
  refine sK (fun M h => tst_X5_hold h) (fun M0 => ?_)
  have n29 : (0 ≤ x1 ∧ x1 ≤ 65535) → sT e b M0 d 1797 29 [] [some (.inr (.inr (.inl r))), some (.inl x1)] [] n (fun r n' _ => (SQn n (True)) r n') := by
    intro  y29_0
    refine sblk (hv := false) kbl_X5_hold kbs_X5_hold (pc := 29) (pe := 30) (rk := 9) (i := 1) rfl (by decide +kernel) ?_
    simp only [kb_X5_hold_29, s_re, LR, IR, true_and, and_true, Nat.reduceAdd, Nat.reduceSub, eq_self]
    exact fun _ _ _ _ => ⟨rfl, rfl, by first | trivial | omega⟩
  refine sblk (hv := false) kbl_X5_hold kbs_X5_hold (pc := 0) (pe := 29) (rk := 9) (i := 0) rfl (by decide +kernel) ?_
  simp only [kb_X5_hold_0, s_ald_0, s_gf_7_8, s_bi, s_ic_ge, s_gf_7_7, s_ild_1, s_cas, s_dupi, s_dupr, s_ic, s_iadd, s_pf_7_8, s_nil, LR, IR, true_and, and_true, Nat.reduceAdd, Nat.reduceSub, eq_self]
  refine ⟨by assumption, fun x3_ h3_ g3_ k3_ => ?_⟩
  simp (disch := decide) only [gk, gd, eq_self, true_imp_iff, false_imp_iff, and_true, true_and, Nat.reduceEqDiff, reduceIte, reduceCtorEq, ne_eq, not_false_eq_true] at k3_
  refine ⟨by omega, fun h5_ => ?_, fun h5_ => ?_⟩
  · exact sT_w (n29 (by omega))
  refine ⟨by assumption, fun x7_ h7_ => ?_⟩
  refine ⟨by assumption, fun x9_ h9_ g9_ k9_ => ?_⟩
  simp (disch := decide) only [gk, gd, eq_self, true_imp_iff, false_imp_iff, and_true, true_and, Nat.reduceEqDiff, reduceIte, reduceCtorEq, ne_eq, not_false_eq_true] at k9_
  refine ⟨by omega, aok_15 (by assumption) (by omega), ars_15 (by assumption) (by omega), n26_15 (by assumption), ?_⟩
  refine ⟨by assumption, fun x14_ h14_ g14_ k14_ => ?_⟩
  simp (disch := decide) only [gk, gd, eq_self, true_imp_iff, false_imp_iff, and_true, true_and, Nat.reduceEqDiff, reduceIte, reduceCtorEq, ne_eq, not_false_eq_true] at k14_
  refine ⟨by omega, by assumption, by omega, ?_⟩
  exact sT_w (n29 (by omega))
