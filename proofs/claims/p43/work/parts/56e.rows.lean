/-! THE CLASS: rows of five digits, whole. -/
theorem k_X8_spread21 {G0 : GL} {e : tE} {b : Nat} {d n : Nat} {x1 : Nat} {x2 : Nat} (h0 : cl x1 3) (h1 : cl x2 21) (hb : b < 2 ∨ b = 6) (hd : 0 ≤ d) : sP e b d 2571 [.inr (.inr (.inl x1)), .inr (.inr (.inl x2))] n (gE G0) (fun _ r n' M' => r = .inl none ∧ n' = n ∧ gE G0 M') := by
  refine sKP (fun M h => tst_X8_spread h) (fun M0 hC0 hP => ⟨G0, hP, ?_⟩)
  refine sblk (hv := false) kbl_X8_spread kbs_X8_spread (pc := 0) (pe := 64) (rk := 9) (i := 0) rfl (by decide +kernel) ?_
  simp only [kb_X8_spread_0, s_ald_1, s_ic, s_ald_0, s_gf_3_1, s_ld2, s_lrem, s_las, s_ldiv, s_gf_3_0, s_re, LR, IR, true_and, and_true, Nat.reduceAdd, Nat.reduceSub, eq_self]
  refine ⟨by assumption, fun x4_ h4_ => ?_⟩
  refine ⟨by omega, fun x6_ h6_ => ?_⟩
  refine ⟨by omega, aok_21 (by assumption) (by omega), ?_⟩
  refine ⟨by assumption, fun x11_ h11_ => ?_⟩
  refine ⟨by omega, fun x13_ h13_ y13_ => ?_⟩
  clear y13_
  refine ⟨by omega, aok_21 (by assumption) (by omega), ?_⟩
  refine ⟨by assumption, fun x18_ h18_ => ?_⟩
  refine ⟨by omega, fun x20_ h20_ => ?_⟩
  refine ⟨by omega, aok_21 (by assumption) (by omega), ?_⟩
  refine ⟨by assumption, fun x25_ h25_ => ?_⟩
  refine ⟨by omega, fun x27_ h27_ y27_ => ?_⟩
  clear y27_
  refine ⟨by omega, fun x29_ h29_ => ?_⟩
  refine ⟨by omega, aok_21 (by assumption) (by omega), ?_⟩
  refine ⟨by assumption, fun x34_ h34_ => ?_⟩
  refine ⟨by omega, fun x36_ h36_ y36_ => ?_⟩
  clear y36_
  refine ⟨by omega, fun x38_ h38_ y38_ => ?_⟩
  clear y38_
  refine ⟨by omega, aok_21 (by assumption) (by omega), ?_⟩
  exact fun M _ _ hg => hg
theorem k_X8_spread22 {G0 : GL} {e : tE} {b : Nat} {d n : Nat} {x1 : Nat} {x2 : Nat} (h0 : cl x1 3) (h1 : cl x2 22) (hb : b < 2 ∨ b = 6) (hd : 0 ≤ d) : sP e b d 2571 [.inr (.inr (.inl x1)), .inr (.inr (.inl x2))] n (gE G0) (fun _ r n' M' => r = .inl none ∧ n' = n ∧ gE G0 M') := by
  refine sKP (fun M h => tst_X8_spread h) (fun M0 hC0 hP => ⟨G0, hP, ?_⟩)
  refine sblk (hv := false) kbl_X8_spread kbs_X8_spread (pc := 0) (pe := 64) (rk := 9) (i := 0) rfl (by decide +kernel) ?_
  simp only [kb_X8_spread_0, s_ald_1, s_ic, s_ald_0, s_gf_3_1, s_ld2, s_lrem, s_las, s_ldiv, s_gf_3_0, s_re, LR, IR, true_and, and_true, Nat.reduceAdd, Nat.reduceSub, eq_self]
  refine ⟨by assumption, fun x4_ h4_ => ?_⟩
  refine ⟨by omega, fun x6_ h6_ => ?_⟩
  refine ⟨by omega, aok_22 (by assumption) (by omega), ?_⟩
  refine ⟨by assumption, fun x11_ h11_ => ?_⟩
  refine ⟨by omega, fun x13_ h13_ y13_ => ?_⟩
  clear y13_
  refine ⟨by omega, aok_22 (by assumption) (by omega), ?_⟩
  refine ⟨by assumption, fun x18_ h18_ => ?_⟩
  refine ⟨by omega, fun x20_ h20_ => ?_⟩
  refine ⟨by omega, aok_22 (by assumption) (by omega), ?_⟩
  refine ⟨by assumption, fun x25_ h25_ => ?_⟩
  refine ⟨by omega, fun x27_ h27_ y27_ => ?_⟩
  clear y27_
  refine ⟨by omega, fun x29_ h29_ => ?_⟩
  refine ⟨by omega, aok_22 (by assumption) (by omega), ?_⟩
  refine ⟨by assumption, fun x34_ h34_ => ?_⟩
  refine ⟨by omega, fun x36_ h36_ y36_ => ?_⟩
  clear y36_
  refine ⟨by omega, fun x38_ h38_ y38_ => ?_⟩
  clear y38_
  refine ⟨by omega, aok_22 (by assumption) (by omega), ?_⟩
  exact fun M _ _ hg => hg
theorem k_X8_settle {e : tE} {b : Nat} {d n : Nat} {r : Nat} (h0 : cl r 10) (hb : b < 2 ∨ b = 6) (hd : 1 ≤ d) : sP e b d 2570 [.inr (.inr (.inl r))] n (fun M => 0 ≤ M r ((7 : Nat) : Int) ∧ M r ((7 : Nat) : Int) ≤ 32 ∧ 1 ≤ M r ((8 : Nat) : Int) ∧ M r ((8 : Nat) : Int) ≤ 32) (fun _ r n' _ => SQn n True r n') := by
  refine sKP (fun M h => tst_X8_settle h) (fun M0 hC0 hP => ⟨[(r, 8, M0 r ((8 : Nat) : Int)), (r, 7, M0 r ((7 : Nat) : Int))], ⟨⟨by rw [h0.1]; rfl, rfl⟩, ⟨by rw [h0.1]; rfl, rfl⟩, trivial⟩, ?_⟩)
  have ha : akd (tsh r) = 9 := by rw [h0.1]; rfl
  have hP : 0 ≤ M0 r ((7 : Nat) : Int) ∧ M0 r ((7 : Nat) : Int) ≤ 32 ∧ 1 ≤ M0 r ((8 : Nat) : Int) ∧ M0 r ((8 : Nat) : Int) ≤ 32 := hP
  show sT e b M0 d _ 0 _ _ _ n (fun r n' _ => SQn n True r n')
  generalize M0 r ((8 : Nat) : Int) = u0 at hP ⊢
  generalize M0 r ((7 : Nat) : Int) = b0 at hP ⊢
  have n21 : ∀ (l1_21 : Int) (w3_21 : Option tV) (w4_21 : Option tV), (-9223372036854775808 ≤ l1_21 ∧ l1_21 < 9223372036854775808) → sT e b M0 d 2570 21 [(r, 8, u0), (r, 7, b0)] [some (.inr (.inr (.inl r))), some (.inr (.inl l1_21)), none, w3_21, w4_21] [] n (fun r n' _ => SQn n True r n') := by
    intro l1_21 w3_21 w4_21 y21_0
    refine sblk (hv := false) kbl_X8_settle kbs_X8_settle (pc := 21) (pe := 31) (rk := 9) (i := 1) rfl (by decide +kernel) ?_
    simp only [kb_X8_settle_21, s_ald_0, s_ld2, s_lc0, s_ic, s_iv3, tfr_0, tfr_1, tfr_2, tfr_3, tfr_4, s_re, LR, IR, true_and, and_true, Nat.reduceAdd, Nat.reduceSub, eq_self]
    refine ⟨vok_of (s := 10) (by assumption) rfl, ?_⟩
    refine sc_n (D := 0) (fun d' hd' => k_X8_assign (by assumption) (by omega) (by omega) (by omega) (by omega) hd') (by omega) ?_
    intro h5_
    try simp only [s_re, LR, IR, true_and, and_true, Nat.reduceAdd, Nat.reduceSub, eq_self]
    exact fun _ _ _ _ => ⟨rfl, rfl, by first | trivial | omega⟩
  refine sblk (hv := false) kbl_X8_settle kbs_X8_settle (pc := 0) (pe := 21) (rk := 9) (i := 0) rfl (by decide +kernel) ?_
  simp only [kb_X8_settle_0, s_ald_0, s_iv0, tfr_0, tfr_1, tfr_2, tfr_3, tfr_4, s_lst_1, tkl_n, tkl_i, tkl_l, tkl_r, s_lld_1, s_ld2, s_lcmp, ne_eq, tlc_r, tlc_eq, tlc_lt, tlc_ge, tlc_gt, tlc_le, s_if_ge, s_gf_10_7, s_ic, s_ic_ge, s_nil, LR, IR, true_and, and_true, Nat.reduceAdd, Nat.reduceSub, eq_self]
  refine ⟨vok_of (s := 10) (by assumption) rfl, ?_⟩
  refine swp_l (Pre := fun M => 0 ≤ M r ((7 : Nat) : Int) ∧ M r ((7 : Nat) : Int) ≤ 32 ∧ 1 ≤ M r ((8 : Nat) : Int) ∧ M r ((8 : Nat) : Int) ≤ 32) (D := 0) (fun d' hd' => k_X8_wholeOfRow (by assumption) hd') (by omega) (fun M _ _ hg => by (simp (disch := decide) only [gE, gd, Nat.reduceEqDiff, reduceIte, reduceCtorEq] at hg; refine ⟨?_, ?_, ?_, ?_⟩ <;> omega)) ?_
  intro x8_ h8_
  try simp only [s_lst_1, tkl_n, tkl_i, tkl_l, tkl_r, s_lld_1, s_ld2, s_lcmp, ne_eq, tlc_r, tlc_eq, tlc_lt, tlc_ge, tlc_gt, tlc_le, s_if_ge, s_ald_0, s_gf_10_7, s_ic, s_ic_ge, s_nil, LR, IR, true_and, and_true, Nat.reduceAdd, Nat.reduceSub, eq_self]
  refine ⟨by omega, ?_⟩
  refine ⟨fun h13_ => ?_, fun h13_ => ?_⟩
  · exact sT_g (G' := [(r, 8, u0), (r, 7, b0)]) (fun M hg => by (simp (disch := decide) only [gE, gd, Nat.reduceEqDiff, reduceIte, reduceCtorEq] at hg ⊢; refine ⟨⟨ha, ?_⟩, ⟨ha, ?_⟩, trivial⟩ <;> omega)) (n21 _ _ _ (by omega))
  refine ⟨by assumption, fun x15_ h15_ g15_ k15_ => ?_⟩
  simp (disch := decide) only [gk, gd, eq_self, true_imp_iff, false_imp_iff, and_true, true_and, Nat.reduceEqDiff, reduceIte, reduceCtorEq, ne_eq, not_false_eq_true] at k15_
  refine ⟨by omega, fun h17_ => ?_, fun h17_ => ?_⟩
  · have n36 : ∀ (fu : Nat) (l1_36 : Int) (i3_36 : Int) (i4_36 : Int), 2147483647 - i4_36 + 1 ≤ (fu : Int) → (-9223372036854775808 ≤ l1_36 ∧ l1_36 < 9223372036854775808) → (0 ≤ i3_36 ∧ i3_36 ≤ 1) → (0 ≤ i4_36 ∧ i4_36 ≤ 2147483647) → (0 ≤ i4_36 ∧ i4_36 ≤ 32) → sT e b M0 d 2570 36 [(r, 8, u0), (r, 7, b0)] [some (.inr (.inr (.inl r))), some (.inr (.inl l1_36)), none, some (.inl i3_36), some (.inl i4_36)] [] n (fun r n' _ => SQn n True r n') := by
      intro fu
      induction fu with
      | zero =>
        intro l1_36 i3_36 i4_36 hm y36_0 y36_1 y36_2 y36_3
        exfalso; omega
      | succ fu ih =>
        intro l1_36 i3_36 i4_36 hm y36_0 y36_1 y36_2 y36_3
        have ih36 := ih
        clear ih
        have n68 : ∀ (is0_68 : Int), (0 ≤ i4_36 ∧ i4_36 ≤ 2147483644) → (0 ≤ is0_68 ∧ is0_68 ≤ 1) → (0 ≤ i4_36 ∧ i4_36 ≤ 31) → sT e b M0 d 2570 68 [(r, 8, u0), (r, 7, b0)] [some (.inr (.inr (.inl r))), some (.inr (.inl l1_36)), none, some (.inl i3_36), some (.inl i4_36)] [.inl is0_68] n (fun r n' _ => SQn n True r n') := by
          intro is0_68 y68_0 y68_1 y68_2
          refine sblk (hv := false) kbl_X8_settle kbs_X8_settle (pc := 68) (pe := 75) (rk := 9) (i := 6) rfl (by decide +kernel) ?_
          simp only [kb_X8_settle_68, s_ist_3, tkl_n, tkl_i, tkl_l, tkl_r, s_inc4, s_goto, LR, IR, true_and, and_true, Nat.reduceAdd, Nat.reduceSub, eq_self]
          exact sT_g (G' := [(r, 8, u0), (r, 7, b0)]) (fun M hg => by (simp (disch := decide) only [gE, gd, Nat.reduceEqDiff, reduceIte, reduceCtorEq] at hg ⊢; refine ⟨⟨ha, ?_⟩, ⟨ha, ?_⟩, trivial⟩ <;> omega)) (ih36 _ _ _ (by omega) (by omega) (by omega) (by omega) (by omega))
        have n63 : (0 ≤ i4_36 ∧ i4_36 ≤ 2147483644) → (0 ≤ i4_36 ∧ i4_36 ≤ 31) → sT e b M0 d 2570 63 [(r, 8, u0), (r, 7, b0)] [some (.inr (.inr (.inl r))), some (.inr (.inl l1_36)), none, some (.inl i3_36), some (.inl i4_36)] [] n (fun r n' _ => SQn n True r n') := by
          intro  y63_0 y63_1
          refine sblk (hv := false) kbl_X8_settle kbs_X8_settle (pc := 63) (pe := 67) (rk := 9) (i := 4) rfl (by decide +kernel) ?_
          simp only [kb_X8_settle_63, s_ic, s_goto, LR, IR, true_and, and_true, Nat.reduceAdd, Nat.reduceSub, eq_self]
          exact sT_g (G' := [(r, 8, u0), (r, 7, b0)]) (fun M hg => by (simp (disch := decide) only [gE, gd, Nat.reduceEqDiff, reduceIte, reduceCtorEq] at hg ⊢; refine ⟨⟨ha, ?_⟩, ⟨ha, ?_⟩, trivial⟩ <;> omega)) (n68 _ (by omega) (by omega) (by omega))
        refine sblk (hv := false) kbl_X8_settle kbs_X8_settle (pc := 36) (pe := 63) (rk := 9) (i := 3) rfl (by decide +kernel) ?_
        simp only [kb_X8_settle_36, s_ild4, s_ald_0, s_gf_10_7, s_ic, s_isub, s_ic_ge, s_ild_3, s_if_ne, s_gf_10_4, s_la, s_lax, forall_const, s_lc0, s_lcmp, ne_eq, tlc_r, tlc_eq, tlc_lt, tlc_ge, tlc_gt, tlc_le, s_if_eq, s_nil, LR, IR, true_and, and_true, Nat.reduceAdd, Nat.reduceSub, eq_self]
        refine ⟨by assumption, fun x25_ h25_ g25_ k25_ => ?_⟩
        simp (disch := decide) only [gk, gd, eq_self, true_imp_iff, false_imp_iff, and_true, true_and, Nat.reduceEqDiff, reduceIte, reduceCtorEq, ne_eq, not_false_eq_true] at k25_
        refine ⟨by omega, fun h28_ => ?_, fun h28_ => ?_⟩
        · refine sblk (hv := false) kbl_X8_settle kbs_X8_settle (pc := 75) (pe := 109) (rk := 9) (i := 7) rfl (by decide +kernel) ?_
          simp only [kb_X8_settle_75, s_ald_0, s_lld_1, s_gf_10_4, s_gf_10_7, s_ic, s_isub, s_la, s_lax, forall_const, s_ld2, s_lmul, s_ladd, s_ild_3, s_iv3, tfr_0, tfr_1, tfr_2, tfr_3, tfr_4, s_re, LR, IR, true_and, and_true, Nat.reduceAdd, Nat.reduceSub, eq_self]
          refine ⟨by assumption, fun x32_ h32_ => ?_⟩
          refine ⟨by assumption, fun x34_ h34_ g34_ k34_ => ?_⟩
          simp (disch := decide) only [gk, gd, eq_self, true_imp_iff, false_imp_iff, and_true, true_and, Nat.reduceEqDiff, reduceIte, reduceCtorEq, ne_eq, not_false_eq_true] at k34_
          refine ⟨aok_21 (by assumption) (by omega), fun x37_ g37_ h37_ => ?_⟩
          refine ⟨by assumption, fun x40_ h40_ => ?_⟩
          refine ⟨by assumption, fun x42_ h42_ g42_ k42_ => ?_⟩
          simp (disch := decide) only [gk, gd, eq_self, true_imp_iff, false_imp_iff, and_true, true_and, Nat.reduceEqDiff, reduceIte, reduceCtorEq, ne_eq, not_false_eq_true] at k42_
          refine ⟨aok_21 (by assumption) (by omega), fun x45_ g45_ h45_ => ?_⟩
          intro x46_ h46_
          intro x47_ h47_
          refine ⟨vok_of (s := 10) (by assumption) rfl, ?_⟩
          refine sc_n (D := 0) (fun d' hd' => k_X8_assign (by assumption) (by omega) (by omega) (by omega) (by omega) hd') (by omega) ?_
          intro h49_
          try simp only [s_re, LR, IR, true_and, and_true, Nat.reduceAdd, Nat.reduceSub, eq_self]
          exact fun _ _ _ _ => ⟨rfl, rfl, by first | trivial | omega⟩
        refine ⟨by omega, fun h52_ => ?_, fun h52_ => ?_⟩
        · exact sT_g (G' := [(r, 8, u0), (r, 7, b0)]) (fun M hg => by (simp (disch := decide) only [gE, gd, Nat.reduceEqDiff, reduceIte, reduceCtorEq] at hg ⊢; refine ⟨⟨ha, ?_⟩, ⟨ha, ?_⟩, trivial⟩ <;> omega)) (n63 (by omega) (by omega))
        refine ⟨by assumption, fun x54_ h54_ => ?_⟩
        refine ⟨aok_21 (by assumption) (by omega), fun x56_ g56_ h56_ => ?_⟩
        refine ⟨by omega, ?_⟩
        refine ⟨fun h59_ => ?_, fun h59_ => ?_⟩
        · refine sblk (hv := false) kbl_X8_settle kbs_X8_settle (pc := 67) (pe := 68) (rk := 9) (i := 5) rfl (by decide +kernel) ?_
          simp only [kb_X8_settle_67, s_ic, s_nil, LR, IR, true_and, and_true, Nat.reduceAdd, Nat.reduceSub, eq_self]
          exact sT_g (G' := [(r, 8, u0), (r, 7, b0)]) (fun M hg => by (simp (disch := decide) only [gE, gd, Nat.reduceEqDiff, reduceIte, reduceCtorEq] at hg ⊢; refine ⟨⟨ha, ?_⟩, ⟨ha, ?_⟩, trivial⟩ <;> omega)) (n68 _ (by omega) (by omega) (by omega))
        exact sT_g (G' := [(r, 8, u0), (r, 7, b0)]) (fun M hg => by (simp (disch := decide) only [gE, gd, Nat.reduceEqDiff, reduceIte, reduceCtorEq] at hg ⊢; refine ⟨⟨ha, ?_⟩, ⟨ha, ?_⟩, trivial⟩ <;> omega)) (n63 (by omega) (by omega))
    refine sblk (hv := false) kbl_X8_settle kbs_X8_settle (pc := 31) (pe := 36) (rk := 9) (i := 2) rfl (by decide +kernel) ?_
    simp only [kb_X8_settle_31, s_ic, s_ist_3, tkl_n, tkl_i, tkl_l, tkl_r, s_ist4, s_nil, LR, IR, true_and, and_true, Nat.reduceAdd, Nat.reduceSub, eq_self]
    exact sT_g (G' := [(r, 8, u0), (r, 7, b0)]) (fun M hg => by (simp (disch := decide) only [gE, gd, Nat.reduceEqDiff, reduceIte, reduceCtorEq] at hg ⊢; refine ⟨⟨ha, ?_⟩, ⟨ha, ?_⟩, trivial⟩ <;> omega)) (n36 4294967400 _ _ _ (by omega) (by omega) (by omega) (by omega) (by omega))
  exact sT_g (G' := [(r, 8, u0), (r, 7, b0)]) (fun M hg => by (simp (disch := decide) only [gE, gd, Nat.reduceEqDiff, reduceIte, reduceCtorEq] at hg ⊢; refine ⟨⟨ha, ?_⟩, ⟨ha, ?_⟩, trivial⟩ <;> omega)) (n21 _ _ _ (by omega))
theorem k_X1_assign_k {e : tE} {b : Nat} {d n : Nat} {r rr : Nat} {x1 x2 u v : Int} (h0 : cl r 3) (h1 : (-9223372036854775808 ≤ x1 ∧ x1 < 9223372036854775808)) (h2 : (-9223372036854775808 ≤ x2 ∧ x2 < 9223372036854775808)) (hb : b < 2 ∨ b = 3 ∨ (b = 6 ∧ 80 ≤ r ∧ r ≤ 82)) (hd : 0 ≤ d) : sP e b d 770 [.inr (.inr (.inl r)), .inr (.inl x1), .inr (.inl x2)] n (gE [(rr, 8, u), (rr, 7, v)]) (fun _ q n' M' => q = .inl none ∧ n' = n ∧ gE [(rr, 8, u), (rr, 7, v)] M') := by
  refine sKP (fun M h => tst_X1_assign h) (fun M0 hC0 hP => ⟨[(rr, 8, u), (rr, 7, v)], hP, ?_⟩)
  refine sblk (hv := false) kbl_X1_assign kbs_X1_assign (pc := 0) (pe := 11) (rk := 9) (i := 0) rfl (by decide +kernel) ?_
  simp only [kb_X1_assign_0, s_ald_0, s_lld_1, s_pf_3_0, s_lld_3, s_pf_3_1, s_re, LR, IR, true_and, and_true, Nat.reduceAdd, Nat.reduceSub, eq_self]
  refine ⟨by omega, by assumption, ?_⟩
  refine ⟨by omega, by assumption, ?_⟩
  (intro M _ _ hg; simp (disch := decide) only [gE, gd, Nat.reduceEqDiff, reduceIte, reduceCtorEq] at hg ⊢; exact hg)
theorem k_X8_raise {e : tE} {b : Nat} {d n : Nat} {r : Nat} {x1 : Int} (h0 : cl r 10) (h1 : (-2147483648 ≤ x1 ∧ x1 ≤ 2147483647)) (hb : b < 2 ∨ b = 6) (hd : 1 ≤ d) : sP e b d 2569 [.inr (.inr (.inl r)), .inl x1] n (fun _ => True) (fun _ rr n' M' => rr = .inl none ∧ n' = n ∧ (fun (u v : Int) => 2 ≤ v ∧ v < u ∧ u ≤ 32) (M' r ((8 : Nat) : Int)) (M' r ((7 : Nat) : Int))) := by
  refine sKP (fun M h => tst_X8_raise h) (fun M0 hC0 _ => ⟨[], trivial, ?_⟩)
  have ha : akd (tsh r) = 9 := by rw [h0.1]; rfl
  show sT e b M0 d _ 0 _ _ _ n (fun rr n' M' => rr = .inl none ∧ n' = n ∧ 2 ≤ M' r ((7 : Nat) : Int) ∧ M' r ((7 : Nat) : Int) < M' r ((8 : Nat) : Int) ∧ M' r ((8 : Nat) : Int) ≤ 32)
  have n56 : ∀ (w2_56 : Option tV) (uu vv : Int), (2 ≤ vv ∧ vv < uu ∧ uu ≤ 32) → sT e b M0 d 2569 56 [(r, 8, uu), (r, 7, vv)] [some (.inr (.inr (.inl r))), some (.inl x1), w2_56] [] n (fun rr n' M' => rr = .inl none ∧ n' = n ∧ 2 ≤ M' r ((7 : Nat) : Int) ∧ M' r ((7 : Nat) : Int) < M' r ((8 : Nat) : Int) ∧ M' r ((8 : Nat) : Int) ≤ 32) := by
    intro w2_56 uu vv y56_0
    have n58 : ∀ (fu : Nat) (i2_58 uu vv : Int), (2 ≤ vv ∧ vv < uu ∧ uu ≤ 32) → 2147483647 - i2_58 + 1 ≤ (fu : Int) → (1 ≤ i2_58 ∧ i2_58 ≤ 2147483647) → sT e b M0 d 2569 58 [(r, 8, uu), (r, 7, vv)] [some (.inr (.inr (.inl r))), some (.inl x1), some (.inl i2_58)] [] n (fun rr n' M' => rr = .inl none ∧ n' = n ∧ 2 ≤ M' r ((7 : Nat) : Int) ∧ M' r ((7 : Nat) : Int) < M' r ((8 : Nat) : Int) ∧ M' r ((8 : Nat) : Int) ≤ 32) := by
      intro fu
      induction fu with
      | zero =>
        intro i2_58 uu vv y58_1 hm y58_0
        exfalso; omega
      | succ fu ih =>
        intro i2_58 uu vv y58_1 hm y58_0
        have ih58 := ih
        clear ih
        have n84 : ∀ (i2_84 uu vv : Int), (2 ≤ vv ∧ vv < uu ∧ uu ≤ 32) → (1 ≤ i2_84 ∧ i2_84 ≤ 2147483647) → sT e b M0 d 2569 84 [(r, 8, uu), (r, 7, vv)] [some (.inr (.inr (.inl r))), some (.inl x1), some (.inl i2_84)] [] n (fun rr n' M' => rr = .inl none ∧ n' = n ∧ 2 ≤ M' r ((7 : Nat) : Int) ∧ M' r ((7 : Nat) : Int) < M' r ((8 : Nat) : Int) ∧ M' r ((8 : Nat) : Int) ≤ 32) := by
          intro i2_84 uu vv y84_1 y84_0
          refine sblk (hv := false) kbl_X8_raise kbs_X8_raise (pc := 84) (pe := 85) (rk := 9) (i := 3) rfl (by decide +kernel) ?_
          simp only [kb_X8_raise_84, s_re, LR, IR, true_and, and_true, Nat.reduceAdd, Nat.reduceSub, eq_self]
          (intro M _ _ hg; simp (disch := decide) only [gE, gd, Nat.reduceEqDiff, reduceIte, reduceCtorEq] at hg; refine ⟨?_, ?_, ?_⟩ <;> omega)
        refine sblk (hv := false) kbl_X8_raise kbs_X8_raise (pc := 58) (pe := 84) (rk := 9) (i := 2) rfl (by decide +kernel) ?_
        simp only [kb_X8_raise_58, s_ild_2, s_ild_1, s_ic_ge, s_ald_0, s_iv0, tfr_0, tfr_1, tfr_2, tfr_3, tfr_4, s_ld2, s_lcmp, ne_eq, tlc_r, tlc_eq, tlc_lt, tlc_ge, tlc_gt, tlc_le, s_if_ge, s_inc2, tkl_n, tkl_i, tkl_l, tkl_r, s_goto, LR, IR, true_and, and_true, Nat.reduceAdd, Nat.reduceSub, eq_self]
        refine ⟨by omega, fun h4_ => ?_, fun h4_ => ?_⟩
        · exact n84 _ _ _ y58_1 (by omega)
        refine ⟨vok_of (s := 10) (by assumption) rfl, ?_⟩
        refine swp_l (Pre := fun M => 0 ≤ M r ((7 : Nat) : Int) ∧ M r ((7 : Nat) : Int) ≤ 32 ∧ 1 ≤ M r ((8 : Nat) : Int) ∧ M r ((8 : Nat) : Int) ≤ 32) (D := 0) (fun d' hd' => k_X8_wholeOfRow (by assumption) hd') (by omega) (fun M _ _ hg => by (simp (disch := decide) only [gE, gd, Nat.reduceEqDiff, reduceIte, reduceCtorEq] at hg; refine ⟨?_, ?_, ?_, ?_⟩ <;> omega)) ?_
        intro x6_ h6_
        try simp only [s_ld2, s_lcmp, ne_eq, tlc_r, tlc_eq, tlc_lt, tlc_ge, tlc_gt, tlc_le, s_if_ge, s_ald_0, s_iv0, tfr_0, tfr_1, tfr_2, tfr_3, tfr_4, s_inc2, tkl_n, tkl_i, tkl_l, tkl_r, s_goto, LR, IR, true_and, and_true, Nat.reduceAdd, Nat.reduceSub, eq_self]
        refine ⟨by omega, ?_⟩
        refine ⟨fun h9_ => ?_, fun h9_ => ?_⟩
        · exact n84 _ _ _ y58_1 (by omega)
        refine ⟨vok_of (s := 10) (by assumption) rfl, ?_⟩
        refine s2_n (rr := r) (f := 8) (g := 7) (P := (fun (u v : Int) => 2 ≤ v ∧ v < u ∧ u ≤ 32)) (Pre := fun M => 2 ≤ M r ((7 : Nat) : Int) ∧ M r ((7 : Nat) : Int) < M r ((8 : Nat) : Int) ∧ M r ((8 : Nat) : Int) ≤ 32) (D := 0) (fun d' hd' => k_X8_widen (by assumption) (by omega) hd') (by omega) (by assumption) (fun M _ _ hg => by (simp (disch := decide) only [gE, gd, Nat.reduceEqDiff, reduceIte, reduceCtorEq] at hg; refine ⟨?_, ?_, ?_⟩ <;> omega)) ?_
        intro uu2 vv2 h11_
        try simp only [s_inc2, tkl_n, tkl_i, tkl_l, tkl_r, s_goto, LR, IR, true_and, and_true, Nat.reduceAdd, Nat.reduceSub, eq_self]
        exact ih58 _ _ _ (by omega) (by omega) (by omega)
    refine sblk (hv := false) kbl_X8_raise kbs_X8_raise (pc := 56) (pe := 58) (rk := 9) (i := 1) rfl (by decide +kernel) ?_
    simp only [kb_X8_raise_56, s_ic, s_ist_2, tkl_n, tkl_i, tkl_l, tkl_r, s_nil, LR, IR, true_and, and_true, Nat.reduceAdd, Nat.reduceSub, eq_self]
    exact n58 4294967400 _ _ _ y56_0 (by omega) (by omega)
  refine sblk (hv := false) kbl_X8_raise kbs_X8_raise (pc := 0) (pe := 56) (rk := 9) (i := 0) rfl (by decide +kernel) ?_
  simp only [kb_X8_raise_0, s_ald_0, s_gf_10_2, s_gf_10_4, s_is2, tfr_0, tfr_1, tfr_2, tfr_3, tfr_4, s_ic, s_pf_10_8, s_pf_10_7, s_gf_10_6, s_ild_1, s_if_ne, s_lc1, s_lc0, s_iv2, s_nil, LR, IR, true_and, and_true, Nat.reduceAdd, Nat.reduceSub, eq_self]
  refine ⟨by assumption, fun x17_ h17_ z17_ => ?_⟩
  refine ⟨by assumption, fun x19_ h19_ => ?_⟩
  first | refine sG_n (D := 0) (fun d' hd' => k_X8_spread21 (by assumption) (by assumption) (by omega) hd') (by omega) ?_ | refine sG_n (D := 0) (fun d' hd' => k_X8_spread22 (by assumption) (by assumption) (by omega) hd') (by omega) ?_
  try simp only [s_ald_0, s_ic, s_pf_10_8, s_pf_10_7, s_gf_10_2, s_gf_10_6, s_is2, tfr_0, tfr_1, tfr_2, tfr_3, tfr_4, s_ild_1, s_if_ne, s_lc1, s_lc0, s_iv2, s_gf_10_4, s_nil, LR, IR, true_and, and_true, Nat.reduceAdd, Nat.reduceSub, eq_self]
  refine ⟨by omega, by assumption, by omega, ?_⟩
  refine ⟨by omega, by assumption, by omega, ?_⟩
  refine ⟨by assumption, fun x28_ h28_ z28_ => ?_⟩
  refine ⟨by assumption, fun x30_ h30_ => ?_⟩
  first | refine sG_n (D := 0) (fun d' hd' => k_X8_spread21 (by assumption) (by assumption) (by omega) hd') (by omega) ?_ | refine sG_n (D := 0) (fun d' hd' => k_X8_spread22 (by assumption) (by assumption) (by omega) hd') (by omega) ?_
  try simp only [s_ild_1, s_if_ne, s_ald_0, s_gf_10_2, s_lc1, s_lc0, s_iv2, tfr_0, tfr_1, tfr_2, tfr_3, tfr_4, s_gf_10_4, s_is2, s_nil, LR, IR, true_and, and_true, Nat.reduceAdd, Nat.reduceSub, eq_self]
  refine ⟨by omega, fun h33_ => ?_, fun h33_ => ?_⟩
  · exact sT_g (G' := [(r, 8, 5), (r, 7, 2)]) (fun M hg => by (simp (disch := decide) only [gE, gd, Nat.reduceEqDiff, reduceIte, reduceCtorEq] at hg ⊢; refine ⟨⟨ha, ?_⟩, ⟨ha, ?_⟩, trivial⟩ <;> omega)) (n56 _ _ _ (by omega))
  refine ⟨by assumption, fun x35_ h35_ z35_ => ?_⟩
  refine ⟨vok_of (s := 3) (by assumption) rfl, ?_⟩
  refine sGw_n (G0 := [(r, 8, 5), (r, 7, 2)]) (D := 0) (fun M hg => by (simp (disch := decide) only [gE, gd, Nat.reduceEqDiff, reduceIte, reduceCtorEq] at hg ⊢; refine ⟨⟨ha, ?_⟩, ⟨ha, ?_⟩, trivial⟩ <;> omega)) (fun d' hd' => k_X1_assign_k (by assumption) (by omega) (by omega) (by omega) hd') (by omega) ?_
  try simp only [s_ald_0, s_gf_10_2, s_gf_10_4, s_is2, tfr_0, tfr_1, tfr_2, tfr_3, tfr_4, s_nil, LR, IR, true_and, and_true, Nat.reduceAdd, Nat.reduceSub, eq_self]
  refine ⟨by assumption, fun x40_ h40_ z40_ => ?_⟩
  refine ⟨by assumption, fun x42_ h42_ => ?_⟩
  first | refine sG_n (D := 0) (fun d' hd' => k_X8_spread21 (by assumption) (by assumption) (by omega) hd') (by omega) ?_ | refine sG_n (D := 0) (fun d' hd' => k_X8_spread22 (by assumption) (by assumption) (by omega) hd') (by omega) ?_
  try simp only [s_nil, LR, IR, true_and, and_true, Nat.reduceAdd, Nat.reduceSub, eq_self]
  exact sT_g (G' := [(r, 8, 5), (r, 7, 2)]) (fun M hg => by (simp (disch := decide) only [gE, gd, Nat.reduceEqDiff, reduceIte, reduceCtorEq] at hg ⊢; refine ⟨⟨ha, ?_⟩, ⟨ha, ?_⟩, trivial⟩ <;> omega)) (n56 _ _ _ (by omega))
theorem k_X8_product {e : tE} {b : Nat} {d n : Nat} {r : Nat} {x1 : Nat} {x2 : Nat} (h0 : cl r 10) (h1 : cl x1 3) (h2 : cl x2 3) (hb : b < 2) (hd : 2 ≤ d) : sC e b d 2567 [.inr (.inr (.inl r)), .inr (.inr (.inl x1)), .inr (.inr (.inl x2))] n (SQn n (True)) := by
  refine sK (fun M h => tst_X8_product h) (fun M0 => ?_)
  have ha : akd (tsh r) = 9 := by rw [h0.1]; rfl
  have n38 : ∀ (w3_38 : Option tV) (is0_38 : Int), (0 ≤ is0_38 ∧ is0_38 ≤ 1) → sT e b M0 d 2567 38 [] [some (.inr (.inr (.inl r))), some (.inr (.inr (.inl x1))), some (.inr (.inr (.inl x2))), w3_38] [.inl is0_38] n (fun r n' _ => (SQn n (True)) r n') := by
    intro w3_38 is0_38 y38_0
    have n87 : ∀ (i3_87 : Int), (0 ≤ i3_87 ∧ i3_87 ≤ 1) → sT e b M0 d 2567 87 [] [some (.inr (.inr (.inl r))), some (.inr (.inr (.inl x1))), some (.inr (.inr (.inl x2))), some (.inl i3_87)] [] n (fun r n' _ => (SQn n (True)) r n') := by
      intro i3_87 y87_0
      refine sblk (hv := false) kbl_X8_product kbs_X8_product (pc := 87) (pe := 88) (rk := 9) (i := 3) rfl (by decide +kernel) ?_
      simp only [kb_X8_product_87, s_re, LR, IR, true_and, and_true, Nat.reduceAdd, Nat.reduceSub, eq_self]
      exact fun _ _ _ _ => ⟨rfl, rfl, by first | trivial | omega⟩
    refine sblk (hv := false) kbl_X8_product kbs_X8_product (pc := 38) (pe := 87) (rk := 9) (i := 2) rfl (by decide +kernel) ?_
    simp only [kb_X8_product_38, s_ist_3, tkl_n, tkl_i, tkl_l, tkl_r, s_ald_0, s_gf_10_2, s_gf_10_4, s_is2, tfr_0, tfr_1, tfr_2, tfr_3, tfr_4, s_ic, s_pf_10_8, s_pf_10_7, s_gf_10_3, s_gf_10_6, s_iv0, s_ild_3, s_if_eq, s_nil, LR, IR, true_and, and_true, Nat.reduceAdd, Nat.reduceSub, eq_self]
    refine ⟨by assumption, fun x4_ h4_ z4_ => ?_⟩
    refine ⟨by assumption, fun x6_ h6_ => ?_⟩
    first | refine sG_n (D := 0) (fun d' hd' => k_X8_spread21 (by assumption) (by assumption) (by omega) hd') (by omega) ?_ | refine sG_n (D := 0) (fun d' hd' => k_X8_spread22 (by assumption) (by assumption) (by omega) hd') (by omega) ?_
    try simp only [s_ald_0, s_ic, s_pf_10_8, s_pf_10_7, s_gf_10_3, s_gf_10_6, s_is2, tfr_0, tfr_1, tfr_2, tfr_3, tfr_4, s_iv0, s_ild_3, s_if_eq, s_nil, LR, IR, true_and, and_true, Nat.reduceAdd, Nat.reduceSub, eq_self]
    refine ⟨by omega, by assumption, by omega, ?_⟩
    refine ⟨by omega, by assumption, by omega, ?_⟩
    refine ⟨by assumption, fun x15_ h15_ z15_ => ?_⟩
    refine ⟨by assumption, fun x17_ h17_ => ?_⟩
    first | refine sG_n (D := 0) (fun d' hd' => k_X8_spread21 (by assumption) (by assumption) (by omega) hd') (by omega) ?_ | refine sG_n (D := 0) (fun d' hd' => k_X8_spread22 (by assumption) (by assumption) (by omega) hd') (by omega) ?_
    try simp only [s_ald_0, s_iv0, tfr_0, tfr_1, tfr_2, tfr_3, tfr_4, s_ild_3, s_if_eq, s_nil, LR, IR, true_and, and_true, Nat.reduceAdd, Nat.reduceSub, eq_self]
    refine ⟨vok_of (s := 10) (by assumption) rfl, ?_⟩
    refine s2_n (rr := r) (f := 8) (g := 7) (P := (fun (u v : Int) => 2 ≤ v ∧ v < u ∧ u ≤ 32)) (Pre := fun M => 2 ≤ M r ((7 : Nat) : Int) ∧ M r ((7 : Nat) : Int) < M r ((8 : Nat) : Int) ∧ M r ((8 : Nat) : Int) ≤ 32) (D := 0) (fun d' hd' => k_X8_widen (by assumption) (by omega) hd') (by omega) (by assumption) (fun M _ _ hg => by (simp (disch := decide) only [gE, gd, Nat.reduceEqDiff, reduceIte, reduceCtorEq] at hg; refine ⟨?_, ?_, ?_⟩ <;> omega)) ?_
    intro uu2 vv2 h20_
    try simp only [s_ald_0, s_iv0, tfr_0, tfr_1, tfr_2, tfr_3, tfr_4, s_ild_3, s_if_eq, s_nil, LR, IR, true_and, and_true, Nat.reduceAdd, Nat.reduceSub, eq_self]
    refine ⟨vok_of (s := 10) (by assumption) rfl, ?_⟩
    refine sw_n (P := True) (Pre := fun M => 0 ≤ M r ((7 : Nat) : Int) ∧ M r ((7 : Nat) : Int) ≤ 32 ∧ 1 ≤ M r ((8 : Nat) : Int) ∧ M r ((8 : Nat) : Int) ≤ 32) (D := 1) (fun d' hd' => k_X8_settle (by assumption) (by omega) hd') (by omega) (fun M _ _ hg => by (simp (disch := decide) only [gE, gd, Nat.reduceEqDiff, reduceIte, reduceCtorEq] at hg; refine ⟨?_, ?_, ?_, ?_⟩ <;> omega)) ?_
    intro h22_
    try simp only [s_ild_3, s_if_eq, s_ald_0, s_iv0, tfr_0, tfr_1, tfr_2, tfr_3, tfr_4, s_nil, LR, IR, true_and, and_true, Nat.reduceAdd, Nat.reduceSub, eq_self]
    refine ⟨by omega, fun h24_ => ?_, fun h24_ => ?_⟩
    · exact sT_w (n87 _ (by omega))
    refine ⟨vok_of (s := 10) (by assumption) rfl, ?_⟩
    refine s3_n (D := 1) (fun d' hd' => k_X8_turn (by assumption) (by omega) hd') (by omega) (by omega) (by repeat' first | exact trivial | exact ne3 (by assumption) (by decide) | refine ⟨?_, ?_⟩) ?_
    intro h26_
    try simp only [s_nil, LR, IR, true_and, and_true, Nat.reduceAdd, Nat.reduceSub, eq_self]
    exact sT_w (n87 _ (by omega))
  refine sblk (hv := false) kbl_X8_product kbs_X8_product (pc := 0) (pe := 37) (rk := 9) (i := 0) rfl (by decide +kernel) ?_
  simp only [kb_X8_product_0, s_ald_0, s_gf_10_2, s_ald_1, s_iv1, tfr_0, tfr_1, tfr_2, tfr_3, tfr_4, s_gf_10_3, s_ald_2, s_is1, s_ic_eq, s_ic, s_goto, LR, IR, true_and, and_true, Nat.reduceAdd, Nat.reduceSub, eq_self]
  refine ⟨by assumption, fun x28_ h28_ z28_ => ?_⟩
  refine ⟨vok_of (s := 3) (by assumption) rfl, ?_⟩
  refine s3_n (D := 0) (fun d' hd' => k_X1_copy (by assumption) (by assumption) (by omega) hd') (by omega) (by omega) (by repeat' first | exact trivial | exact ne3 (by assumption) (by decide) | refine ⟨?_, ?_⟩) ?_
  intro h30_
  try simp only [s_ald_0, s_gf_10_3, s_ald_2, s_iv1, tfr_0, tfr_1, tfr_2, tfr_3, tfr_4, s_gf_10_2, s_is1, s_ic_eq, s_ic, s_goto, LR, IR, true_and, and_true, Nat.reduceAdd, Nat.reduceSub, eq_self]
  refine ⟨by assumption, fun x32_ h32_ z32_ => ?_⟩
  refine ⟨vok_of (s := 3) (by assumption) rfl, ?_⟩
  refine s3_n (D := 0) (fun d' hd' => k_X1_copy (by assumption) (by assumption) (by omega) hd') (by omega) (by omega) (by repeat' first | exact trivial | exact ne3 (by assumption) (by decide) | refine ⟨?_, ?_⟩) ?_
  intro h34_
  try simp only [s_ald_0, s_gf_10_2, s_is1, tfr_0, tfr_1, tfr_2, tfr_3, tfr_4, s_gf_10_3, s_ic_eq, s_ic, s_goto, LR, IR, true_and, and_true, Nat.reduceAdd, Nat.reduceSub, eq_self]
  refine ⟨by assumption, fun x36_ h36_ z36_ => ?_⟩
  refine s3_i (D := 1) (fun d' hd' => k_X8_dropSign (by assumption) (by omega) hd') (by omega) (by omega) (by repeat' first | exact trivial | exact ne3 (by assumption) (by decide) | refine ⟨?_, ?_⟩) ?_
  intro x37_ h37_
  try simp only [s_ald_0, s_gf_10_3, s_is1, tfr_0, tfr_1, tfr_2, tfr_3, tfr_4, s_ic_eq, s_ic, s_goto, LR, IR, true_and, and_true, Nat.reduceAdd, Nat.reduceSub, eq_self]
  refine ⟨by assumption, fun x39_ h39_ z39_ => ?_⟩
  refine s3_i (D := 1) (fun d' hd' => k_X8_dropSign (by assumption) (by omega) hd') (by omega) (by omega) (by repeat' first | exact trivial | exact ne3 (by assumption) (by decide) | refine ⟨?_, ?_⟩) ?_
  intro x40_ h40_
  try simp only [s_ic_eq, s_ic, s_goto, LR, IR, true_and, and_true, Nat.reduceAdd, Nat.reduceSub, eq_self]
  refine ⟨by omega, fun h41_ => ?_, fun h41_ => ?_⟩
  · refine sblk (hv := false) kbl_X8_product kbs_X8_product (pc := 37) (pe := 38) (rk := 9) (i := 1) rfl (by decide +kernel) ?_
    simp only [kb_X8_product_37, s_ic, s_nil, LR, IR, true_and, and_true, Nat.reduceAdd, Nat.reduceSub, eq_self]
    exact sT_w (n38 _ _ (by omega))
  exact sT_w (n38 _ _ (by omega))
theorem k_X8_toPower {e : tE} {b : Nat} {d n : Nat} {r : Nat} {x1 : Nat} {x2 : Int} (h0 : cl r 10) (h1 : cl x1 3) (h2 : (-2147483648 ≤ x2 ∧ x2 ≤ 2147483647)) (hb : b < 2) (hd : 2 ≤ d) : sC e b d 2577 [.inr (.inr (.inl r)), .inr (.inr (.inl x1)), .inl x2] n (SQn n (True)) := by
  refine sK (fun M h => tst_X8_toPower h) (fun M0 => ?_)
  have ha : akd (tsh r) = 9 := by rw [h0.1]; rfl
  have n40 : ∀ (i3_40 : Int), (0 ≤ i3_40 ∧ i3_40 ≤ 1) → sT e b M0 d 2577 40 [] [some (.inr (.inr (.inl r))), some (.inr (.inr (.inl x1))), some (.inl x2), some (.inl i3_40)] [] n (fun r n' _ => (SQn n (True)) r n') := by
    intro i3_40 y40_0
    refine sblk (hv := false) kbl_X8_toPower kbs_X8_toPower (pc := 40) (pe := 41) (rk := 9) (i := 1) rfl (by decide +kernel) ?_
    simp only [kb_X8_toPower_40, s_re, LR, IR, true_and, and_true, Nat.reduceAdd, Nat.reduceSub, eq_self]
    exact fun _ _ _ _ => ⟨rfl, rfl, by first | trivial | omega⟩
  refine sblk (hv := false) kbl_X8_toPower kbs_X8_toPower (pc := 0) (pe := 40) (rk := 9) (i := 0) rfl (by decide +kernel) ?_
  simp only [kb_X8_toPower_0, s_ald_0, s_gf_10_2, s_ald_1, s_iv1, tfr_0, tfr_1, tfr_2, tfr_3, tfr_4, s_is1, s_ist_3, tkl_n, tkl_i, tkl_l, tkl_r, s_ild_2, s_iv0, s_ild_3, s_if_eq, s_ic, s_irem, s_ic_ne, s_nil, LR, IR, true_and, and_true, Nat.reduceAdd, Nat.reduceSub, eq_self]
  refine ⟨by assumption, fun x3_ h3_ z3_ => ?_⟩
  refine ⟨vok_of (s := 3) (by assumption) rfl, ?_⟩
  refine s3_n (D := 0) (fun d' hd' => k_X1_copy (by assumption) (by assumption) (by omega) hd') (by omega) (by omega) (by repeat' first | exact trivial | exact ne3 (by assumption) (by decide) | refine ⟨?_, ?_⟩) ?_
  intro h5_
  try simp only [s_ald_0, s_gf_10_2, s_is1, tfr_0, tfr_1, tfr_2, tfr_3, tfr_4, s_ist_3, tkl_n, tkl_i, tkl_l, tkl_r, s_ild_2, s_iv1, s_iv0, s_ild_3, s_if_eq, s_ic, s_irem, s_ic_ne, s_nil, LR, IR, true_and, and_true, Nat.reduceAdd, Nat.reduceSub, eq_self]
  refine ⟨by assumption, fun x7_ h7_ z7_ => ?_⟩
  refine s3_i (D := 1) (fun d' hd' => k_X8_dropSign (by assumption) (by omega) hd') (by omega) (by omega) (by repeat' first | exact trivial | exact ne3 (by assumption) (by decide) | refine ⟨?_, ?_⟩) ?_
  intro x8_ h8_
  try simp only [s_ist_3, tkl_n, tkl_i, tkl_l, tkl_r, s_ald_0, s_ild_2, s_iv1, tfr_0, tfr_1, tfr_2, tfr_3, tfr_4, s_iv0, s_ild_3, s_if_eq, s_ic, s_irem, s_ic_ne, s_nil, LR, IR, true_and, and_true, Nat.reduceAdd, Nat.reduceSub, eq_self]
  refine ⟨vok_of (s := 10) (by assumption) rfl, ?_⟩
  refine s2_n (rr := r) (f := 8) (g := 7) (P := (fun (u v : Int) => 2 ≤ v ∧ v < u ∧ u ≤ 32)) (Pre := fun _ => True) (D := 1) (fun d' hd' => k_X8_raise (by assumption) (by omega) (by omega) hd') (by omega) (by assumption) (fun _ _ _ _ => trivial) ?_
  intro uu2 vv2 h12_
  try simp only [s_ald_0, s_iv0, tfr_0, tfr_1, tfr_2, tfr_3, tfr_4, s_ild_3, s_if_eq, s_ild_2, s_ic, s_irem, s_ic_ne, s_nil, LR, IR, true_and, and_true, Nat.reduceAdd, Nat.reduceSub, eq_self]
  refine ⟨vok_of (s := 10) (by assumption) rfl, ?_⟩
  refine sw_n (P := True) (Pre := fun M => 0 ≤ M r ((7 : Nat) : Int) ∧ M r ((7 : Nat) : Int) ≤ 32 ∧ 1 ≤ M r ((8 : Nat) : Int) ∧ M r ((8 : Nat) : Int) ≤ 32) (D := 1) (fun d' hd' => k_X8_settle (by assumption) (by omega) hd') (by omega) (fun M _ _ hg => by (simp (disch := decide) only [gE, gd, Nat.reduceEqDiff, reduceIte, reduceCtorEq] at hg; refine ⟨?_, ?_, ?_, ?_⟩ <;> omega)) ?_
  intro h14_
  try simp only [s_ild_3, s_if_eq, s_ild_2, s_ic, s_irem, s_ic_ne, s_ald_0, s_iv0, tfr_0, tfr_1, tfr_2, tfr_3, tfr_4, s_nil, LR, IR, true_and, and_true, Nat.reduceAdd, Nat.reduceSub, eq_self]
  refine ⟨by omega, fun h16_ => ?_, fun h16_ => ?_⟩
  · exact sT_w (n40 _ (by omega))
  refine ⟨by omega, fun x19_ h19_ g19_ => ?_⟩
  refine ⟨by omega, fun h21_ => ?_, fun h21_ => ?_⟩
  · exact sT_w (n40 _ (by omega))
  refine ⟨vok_of (s := 10) (by assumption) rfl, ?_⟩
  refine s3_n (D := 1) (fun d' hd' => k_X8_turn (by assumption) (by omega) hd') (by omega) (by omega) (by repeat' first | exact trivial | exact ne3 (by assumption) (by decide) | refine ⟨?_, ?_⟩) ?_
  intro h23_
  try simp only [s_nil, LR, IR, true_and, and_true, Nat.reduceAdd, Nat.reduceSub, eq_self]
  exact sT_w (n40 _ (by omega))
