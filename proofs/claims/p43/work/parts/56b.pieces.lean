/-! THE CLASS: pieces. -/
section MCALL
variable {e : tE} {b : Nat} {M0 : tM} {d mi a D n : Nat} {o : bO} {vs rest : List tV} {G : GL} {L : tL} {R : tR → Nat → tM → Prop} {k : GL → tL → List tV → Nat → Prop}
/-- a call that wants something of a field, and what it makes of it -/
theorem sg_n {P : Int → Int → Prop} {Pre : Int → Prop} {rr f : Nat} {c : Int} (h : ∀ d', D ≤ d' → sP e b d' a vs n (fun M => Pre (M rr (f : Nat))) (fun M r n' M' => r = .inl none ∧ n' = n ∧ P (M rr (f : Nat)) (M' rr (f : Nat)))) (hd : D + 1 ≤ d) (hr : akd (tsh rr) = 9) (hg : ∀ M, gE G M → M rr (f : Nat) = c) (hp : Pre c) (hk : ∀ c', P c c' → k [(rr, f, c')] L rest n) : scall e b M0 d mi a o vs rest G L n R k :=
  ⟨d - 1, by omega, b, _, _, Or.inl rfl, h (d - 1) (by omega), fun M _ _ hg0 => by rw [hg M hg0]; exact hp, fun M M' v n' _ _ hg0 _ _ q => by obtain ⟨q1, rfl, q2⟩ := q; cases q1; rw [hg M hg0] at q2; exact ⟨[(rr, f, M' rr (f : Nat))], ⟨⟨hr, rfl⟩, trivial⟩, hk _ q2⟩, fun M M' v n' _ _ _ _ q => by obtain ⟨q1, q2⟩ := q; cases q1⟩
end MCALL
theorem k_X7_split {e : tE} {b : Nat} {d n : Nat} {r : Nat} {x1 : Int} (h0 : cl r 9) (h1 : (0 ≤ x1 ∧ x1 ≤ 7)) (hb : b < 2) (hd : 2 ≤ d) : sP e b d 2310 [.inr (.inr (.inl r)), .inl x1] n (fun M => (fun c => x1 < c ∧ c ≤ 8) (M r ((3 : Nat) : Int))) (fun M rr n' M' => rr = .inl none ∧ n' = n ∧ (fun (c c' : Int) => c ≤ c' ∧ c' ≤ 8) (M r ((3 : Nat) : Int)) (M' r ((3 : Nat) : Int))) := by
  refine sKP (fun M h => tst_X7_split h) (fun M0 hC0 hP => ⟨[(r, 3, M0 r ((3 : Nat) : Int))], ⟨⟨by rw [h0.1]; rfl, rfl⟩, trivial⟩, ?_⟩)
  have hP : x1 < M0 r ((3 : Nat) : Int) ∧ M0 r ((3 : Nat) : Int) ≤ 8 := hP
  show sT e b M0 d 2310 0 _ _ _ n (fun rr n' M' => rr = .inl none ∧ n' = n ∧ M0 r ((3 : Nat) : Int) ≤ M' r ((3 : Nat) : Int) ∧ M' r ((3 : Nat) : Int) ≤ 8)
  generalize M0 r ((3 : Nat) : Int) = c0 at hP ⊢
  refine sblk (hv := false) kbl_X7_split kbs_X7_split (pc := 0) (pe := 10) (rk := 9) (i := 0) rfl (by decide +kernel) ?_
  simp only [kb_X7_split_0, s_ald_0, s_gf_9_3, s_bi, s_ic_lt, s_re, LR, IR, true_and, and_true, Nat.reduceAdd, Nat.reduceSub, eq_self]
  refine ⟨by assumption, fun x2_ h2_ g2_ k2_ => ?_⟩
  simp (disch := decide) only [gk, gd, eq_self, true_imp_iff, false_imp_iff, and_true, true_and, Nat.reduceEqDiff, reduceIte, reduceCtorEq, ne_eq, not_false_eq_true] at k2_
  refine ⟨by omega, fun h4_ => ?_, fun h4_ => ?_⟩
  · have n15 : ∀ (fu : Nat) (i2_15 : Int) (c15 : Int), i2_15 - 0 + 1 ≤ (fu : Int) → (0 ≤ x1 ∧ x1 ≤ 7) → (0 ≤ i2_15 ∧ i2_15 ≤ 8) → (0 ≤ c15 ∧ c15 ≤ 7) → (i2_15 ≤ c15) → (c0 = c15) → sT e b M0 d 2310 15 [(r, 3, c15)] [some (.inr (.inr (.inl r))), some (.inl x1), some (.inl i2_15)] [] n (fun rr n' M' => rr = .inl none ∧ n' = n ∧ c0 ≤ M' r ((3 : Nat) : Int) ∧ M' r ((3 : Nat) : Int) ≤ 8) := by
      intro fu
      induction fu with
      | zero =>
        intro i2_15 c15 hm y15_0 y15_1 y15_2 y15_3 y15_4
        exfalso; omega
      | succ fu ih =>
        intro i2_15 c15 hm y15_0 y15_1 y15_2 y15_3 y15_4
        have ih15 := ih
        clear ih
        refine sblk (hv := false) kbl_X7_split kbs_X7_split (pc := 15) (pe := 43) (rk := 9) (i := 2) rfl (by decide +kernel) ?_
        simp only [kb_X7_split_15, s_ild_2, s_ild_1, s_ic_le, s_ald_0, s_gf_9_0, s_aa, s_ic, s_isub, s_iv1, tfr_0, tfr_1, tfr_2, tfr_3, tfr_4, s_inc2, tkl_n, tkl_i, tkl_l, tkl_r, s_goto, LR, IR, true_and, and_true, Nat.reduceAdd, Nat.reduceSub, eq_self]
        refine ⟨by omega, fun h7_ => ?_, fun h7_ => ?_⟩
        · refine sblk (hv := false) kbl_X7_split kbs_X7_split (pc := 43) (pe := 94) (rk := 9) (i := 3) rfl (by decide +kernel) ?_
          simp only [kb_X7_split_43, s_ald_0, s_dupi, s_dupr, s_gf_9_3, s_ic, s_iadd, s_pf_9_3, s_gf_9_0, s_ild_1, s_aa, s_gf_4_1, s_gf_9_2, s_gf_4_0, s_iv1, tfr_0, tfr_1, tfr_2, tfr_3, tfr_4, s_re, LR, IR, true_and, and_true, Nat.reduceAdd, Nat.reduceSub, eq_self]
          refine ⟨by assumption, fun x10_ h10_ g10_ k10_ => ?_⟩
          simp (disch := decide) only [gk, gd, eq_self, true_imp_iff, false_imp_iff, and_true, true_and, Nat.reduceEqDiff, reduceIte, reduceCtorEq, ne_eq, not_false_eq_true] at k10_
          refine ⟨by omega, by assumption, by omega, ?_⟩
          refine ⟨by assumption, fun x15_ h15_ => ?_⟩
          refine Or.inl ⟨aok_29 (by assumption) (by omega), fun x17_ h17_ => ?_⟩
          refine ⟨by assumption, fun x18_ h18_ => ?_⟩
          refine ⟨by assumption, fun x20_ h20_ => ?_⟩
          refine ⟨by assumption, fun x21_ h21_ => ?_⟩
          refine ⟨vok_of (s := 3) (by assumption) rfl, ?_⟩
          refine s3_n (D := 0) (fun d' hd' => k_X1_copy (by assumption) (by assumption) (by omega) hd') (by omega) (by omega) (by repeat' first | exact trivial | exact ne3 (by assumption) (by decide) | refine ⟨?_, ?_⟩) ?_
          intro h22_
          try simp only [s_ald_0, s_gf_9_0, s_ild_1, s_ic, s_iadd, s_aa, s_gf_4_0, s_gf_9_2, s_iv1, tfr_0, tfr_1, tfr_2, tfr_3, tfr_4, s_re, LR, IR, true_and, and_true, Nat.reduceAdd, Nat.reduceSub, eq_self]
          refine ⟨by assumption, fun x24_ h24_ => ?_⟩
          refine Or.inl ⟨aok_29 (by assumption) (by omega), fun x28_ h28_ => ?_⟩
          refine ⟨by assumption, fun x29_ h29_ => ?_⟩
          refine ⟨by assumption, fun x31_ h31_ => ?_⟩
          refine ⟨by assumption, fun x32_ h32_ => ?_⟩
          refine ⟨vok_of (s := 3) (by assumption) rfl, ?_⟩
          refine s3_n (D := 0) (fun d' hd' => k_X1_copy (by assumption) (by assumption) (by omega) hd') (by omega) (by omega) (by repeat' first | exact trivial | exact ne3 (by assumption) (by decide) | refine ⟨?_, ?_⟩) ?_
          intro h33_
          try simp only [s_re, LR, IR, true_and, and_true, Nat.reduceAdd, Nat.reduceSub, eq_self]
          intro M _ _ hg
          have q : M r ((3 : Nat) : Int) = x10_ + 1 := hg.1.2
          omega
        refine ⟨by assumption, fun x36_ h36_ => ?_⟩
        refine Or.inl ⟨aok_29 (by assumption) (by omega), fun x38_ h38_ => ?_⟩
        refine ⟨by assumption, fun x40_ h40_ => ?_⟩
        refine Or.inl ⟨aok_29 (by assumption) (by omega), fun x44_ h44_ => ?_⟩
        refine ⟨vok_of (s := 4) (by assumption) rfl, ?_⟩
        refine s3_n (D := 1) (fun d' hd' => k_X2_copy (by assumption) (by assumption) (by omega) hd') (by omega) (by omega) (by repeat' first | exact trivial | exact ne3 (by assumption) (by decide) | refine ⟨?_, ?_⟩) ?_
        intro h45_
        try simp only [s_inc2, tkl_n, tkl_i, tkl_l, tkl_r, s_goto, LR, IR, true_and, and_true, Nat.reduceAdd, Nat.reduceSub, eq_self]
        exact sT_g (G' := [(r, 3, _)]) (fun M hg => ⟨hg.1, trivial⟩) (ih15 _ _ (by omega) (by omega) (by omega) (by omega) (by omega) (by omega))
    refine sblk (hv := false) kbl_X7_split kbs_X7_split (pc := 10) (pe := 15) (rk := 9) (i := 1) rfl (by decide +kernel) ?_
    simp only [kb_X7_split_10, s_ald_0, s_gf_9_3, s_ist_2, tkl_n, tkl_i, tkl_l, tkl_r, s_nil, LR, IR, true_and, and_true, Nat.reduceAdd, Nat.reduceSub, eq_self]
    refine ⟨by assumption, fun x49_ h49_ g49_ k49_ => ?_⟩
    simp (disch := decide) only [gk, gd, eq_self, true_imp_iff, false_imp_iff, and_true, true_and, Nat.reduceEqDiff, reduceIte, reduceCtorEq, ne_eq, not_false_eq_true] at k49_
    exact sT_g (G' := [(r, 3, _)]) (fun M hg => ⟨hg.1, trivial⟩) (n15 4294967400 _ _ (by omega) (by omega) (by omega) (by omega) (by omega) (by omega))
  intro M _ _ hg
  have q : M r ((3 : Nat) : Int) = x2_ := hg.1.2
  omega
theorem k_X7_cut {e : tE} {b : Nat} {d n : Nat} {r : Nat} {x1 : Nat} {x2 : Int} {x3 : Int} (h0 : cl r 9) (h1 : cl x1 4) (h2 : (-2147483648 ≤ x2 ∧ x2 ≤ 2147483647)) (h3 : (-9223372036854775808 ≤ x3 ∧ x3 < 9223372036854775808)) (hb : b < 2) (hd : 3 ≤ d) : sC e b d 2308 [.inr (.inr (.inl r)), .inr (.inr (.inl x1)), .inl x2, .inr (.inl x3)] n (SQn n (True)) := by
  refine sK (fun M h => tst_X7_cut h) (fun M0 => ?_)
  have n13 : ∀ (fu : Nat) (i5_13 : Int) (w6_13 : Option tV) (w7_13 : Option tV), 2147483647 - i5_13 + 1 ≤ (fu : Int) → (-2147483648 ≤ i5_13 ∧ i5_13 ≤ 2147483647) → sT e b M0 d 2308 13 [] [some (.inr (.inr (.inl r))), some (.inr (.inr (.inl x1))), some (.inl x2), some (.inr (.inl x3)), none, some (.inl i5_13), w6_13, w7_13] [] n (fun r n' _ => (SQn n (True)) r n') := by
    intro fu
    induction fu with
    | zero =>
      intro i5_13 w6_13 w7_13 hm y13_0
      exfalso; omega
    | succ fu ih =>
      intro i5_13 w6_13 w7_13 hm y13_0
      have ih13 := ih
      clear ih
      have n31 : ∀ (fu : Nat) (i6_31 : Int) (i7_31 : Int) (c31 : Int), i7_31 + 1 + 1 ≤ (fu : Int) → (0 ≤ i6_31 ∧ i6_31 ≤ 8) → (-1 ≤ i7_31 ∧ i7_31 ≤ 7) → (i5_13 < x2 ∧ x2 ≤ 2147483647) → (i7_31 < c31 ∧ c31 ≤ 8) → sT e b M0 d 2308 31 [(r, 3, c31)] [some (.inr (.inr (.inl r))), some (.inr (.inr (.inl x1))), some (.inl x2), some (.inr (.inl x3)), none, some (.inl i5_13), some (.inl i6_31), some (.inl i7_31)] [] n (fun r n' _ => (SQn n (True)) r n') := by
        intro fu
        induction fu with
        | zero =>
          intro i6_31 i7_31 c31 hm y31_0 y31_1 y31_2 y31_3
          exfalso; omega
        | succ fu ih =>
          intro i6_31 i7_31 c31 hm y31_0 y31_1 y31_2 y31_3
          have ih31 := ih
          clear ih
          have n60 : ∀ (c60 : Int), (0 ≤ i7_31 ∧ i7_31 ≤ 7) → (i7_31 < c60 ∧ c60 ≤ 8) → sT e b M0 d 2308 60 [(r, 3, c60)] [some (.inr (.inr (.inl r))), some (.inr (.inr (.inl x1))), some (.inl x2), some (.inr (.inl x3)), none, some (.inl i5_13), some (.inl i6_31), some (.inl i7_31)] [] n (fun r n' _ => (SQn n (True)) r n') := by
            intro c60 y60_0 y60_1
            refine sblk (hv := false) kbl_X7_cut kbs_X7_cut (pc := 60) (pe := 66) (rk := 9) (i := 3) rfl (by decide +kernel) ?_
            simp only [kb_X7_cut_60, s_inc7, tkl_n, tkl_i, tkl_l, tkl_r, s_goto, LR, IR, true_and, and_true, Nat.reduceAdd, Nat.reduceSub, eq_self]
            exact sT_g (G' := [(r, 3, _)]) (fun M hg => ⟨hg.1, trivial⟩) (ih31 _ _ _ (by omega) (by omega) (by omega) (by omega) (by omega))
          refine sblk (hv := false) kbl_X7_cut kbs_X7_cut (pc := 31) (pe := 60) (rk := 9) (i := 2) rfl (by decide +kernel) ?_
          simp only [kb_X7_cut_31, s_ild7, s_if_lt, s_ald_0, s_gf_9_2, s_gf_9_0, s_aa, s_lld_3, s_iv2, tfr_0, tfr_1, tfr_2, tfr_3, tfr_4, s_if_eq, s_iv1, s_nil, LR, IR, true_and, and_true, Nat.reduceAdd, Nat.reduceSub, eq_self]
          refine ⟨by omega, fun h4_ => ?_, fun h4_ => ?_⟩
          · refine sblk (hv := false) kbl_X7_cut kbs_X7_cut (pc := 66) (pe := 72) (rk := 9) (i := 4) rfl (by decide +kernel) ?_
            simp only [kb_X7_cut_66, s_inc5, tkl_n, tkl_i, tkl_l, tkl_r, s_goto, LR, IR, true_and, and_true, Nat.reduceAdd, Nat.reduceSub, eq_self]
            exact sT_w (ih13 _ _ _ (by omega) (by omega))
          refine ⟨by assumption, fun x8_ h8_ => ?_⟩
          refine ⟨by assumption, fun x10_ h10_ => ?_⟩
          refine Or.inl ⟨aok_29 (by assumption) (by omega), fun x12_ h12_ => ?_⟩
          refine ⟨vok_of (s := 4) (by assumption) rfl, ?_⟩
          refine s3_i (D := 2) (fun d' hd' => k_X2_toMiddle (by assumption) (by assumption) (by omega) (by omega) hd') (by omega) (by omega) (by repeat' first | exact trivial | exact ne3 (by assumption) (by decide) | refine ⟨?_, ?_⟩) ?_
          intro x14_ h14_
          try simp only [s_if_eq, s_ald_0, s_ild7, s_iv1, tfr_0, tfr_1, tfr_2, tfr_3, tfr_4, s_nil, LR, IR, true_and, and_true, Nat.reduceAdd, Nat.reduceSub, eq_self]
          refine ⟨by omega, fun h15_ => ?_, fun h15_ => ?_⟩
          · exact sT_g (G' := [(r, 3, _)]) (fun M hg => ⟨hg.1, trivial⟩) (n60 _ (by omega) (by omega))
          refine ⟨vok_of (s := 9) (by assumption) rfl, ?_⟩
          refine sg_n (Pre := fun c => i7_31 < c ∧ c ≤ 8) (P := fun c c' => c ≤ c' ∧ c' ≤ 8) (D := 2) (rr := r) (f := 3) (c := c31) (fun d' hd' => k_X7_split (by assumption) (by omega) (by omega) hd') (by omega) (by rw [h0.1]; rfl) (fun M hg => hg.1.2) (by omega) ?_
          intro c18_ h18_
          try simp only [s_nil, LR, IR, true_and, and_true, Nat.reduceAdd, Nat.reduceSub, eq_self]
          exact sT_g (G' := [(r, 3, _)]) (fun M hg => ⟨hg.1, trivial⟩) (n60 _ (by omega) (by omega))
      refine sblk (hv := false) kbl_X7_cut kbs_X7_cut (pc := 13) (pe := 31) (rk := 9) (i := 1) rfl (by decide +kernel) ?_
      simp only [kb_X7_cut_13, s_ild5, s_ild_2, s_ic_ge, s_ald_0, s_gf_9_3, s_ist6, tkl_n, tkl_i, tkl_l, tkl_r, s_ild6, s_ic, s_isub, s_ist7, s_nil, LR, IR, true_and, and_true, Nat.reduceAdd, Nat.reduceSub, eq_self]
      refine ⟨by omega, fun h21_ => ?_, fun h21_ => ?_⟩
      · refine sblk (hv := false) kbl_X7_cut kbs_X7_cut (pc := 72) (pe := 73) (rk := 9) (i := 5) rfl (by decide +kernel) ?_
        simp only [kb_X7_cut_72, s_re, LR, IR, true_and, and_true, Nat.reduceAdd, Nat.reduceSub, eq_self]
        exact fun _ _ _ _ => ⟨rfl, rfl, by first | trivial | omega⟩
      refine ⟨by assumption, fun x24_ h24_ g24_ k24_ => ?_⟩
      simp (disch := decide) only [gk, gd, eq_self, true_imp_iff, false_imp_iff, and_true, true_and, Nat.reduceEqDiff, reduceIte, reduceCtorEq, ne_eq, not_false_eq_true] at k24_
      exact sT_g (G' := [(r, 3, _)]) (fun M hg => ⟨hg.1, trivial⟩) (n31 4294967400 _ _ _ (by omega) (by omega) (by omega) (by omega) (by omega))
  refine sblk (hv := false) kbl_X7_cut kbs_X7_cut (pc := 0) (pe := 13) (rk := 9) (i := 0) rfl (by decide +kernel) ?_
  simp only [kb_X7_cut_0, s_ald_0, s_iv0, tfr_0, tfr_1, tfr_2, tfr_3, tfr_4, s_ald_1, s_ic, s_iv2, s_ist5, tkl_n, tkl_i, tkl_l, tkl_r, s_nil, LR, IR, true_and, and_true, Nat.reduceAdd, Nat.reduceSub, eq_self]
  refine ⟨vok_of (s := 9) (by assumption) rfl, ?_⟩
  refine sc_n (D := 0) (fun d' hd' => k_X7_clear (by assumption) (by omega) hd') (by omega) ?_
  intro h31_
  try simp only [s_ald_0, s_ald_1, s_ic, s_iv2, tfr_0, tfr_1, tfr_2, tfr_3, tfr_4, s_ist5, tkl_n, tkl_i, tkl_l, tkl_r, s_nil, LR, IR, true_and, and_true, Nat.reduceAdd, Nat.reduceSub, eq_self]
  refine ⟨vok_of (s := 9) (by assumption) rfl, ?_⟩
  refine sc_n (D := 2) (fun d' hd' => k_X7_append (by assumption) (by assumption) (by omega) (by omega) hd') (by omega) ?_
  intro h35_
  try simp only [s_ic, s_ist5, tkl_n, tkl_i, tkl_l, tkl_r, s_nil, LR, IR, true_and, and_true, Nat.reduceAdd, Nat.reduceSub, eq_self]
  exact sT_w (n13 4294967400 _ _ _ (by omega) (by omega))
