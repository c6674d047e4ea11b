/-! THE CLASS: rows of five digits. -/
section MCALL
variable {e : tE} {b : Nat} {M0 : tM} {d mi a D n : Nat} {o : bO} {vs rest : List tV} {G : GL} {L : tL} {R : tR → Nat → tM → Prop} {k : GL → tL → List tV → Nat → Prop}
theorem swp_l {P : Int → Prop} {Pre : tM → Prop} (h : ∀ d', D ≤ d' → sP e 2 d' a vs n Pre (fun _ r n' _ => SQl n P r n')) (hd : D + 1 ≤ d) (hp : ∀ M, CI M → pE b M0 M → gE G M → Pre M) (hk : ∀ x, P x → k G L (.inr (.inl x) :: rest) n) : scall e b M0 d mi a o vs rest G L n R k :=
  ⟨d - 1, by omega, 2, _, _, Or.inr (Or.inl rfl), h (d - 1) (by omega), hp, fun M M' v n' _ _ hg _ hq q => by obtain ⟨x, q1, rfl, q2⟩ := q; cases q1; exact ⟨G, by rw [pE_2 hq]; exact hg, hk x q2⟩, fun M M' v n' _ _ _ _ q => by obtain ⟨x, q1, q2⟩ := q; cases q1⟩
theorem sG_n (h : ∀ d', D ≤ d' → sP e b d' a vs n (gE G) (fun _ r n' M' => r = .inl none ∧ n' = n ∧ gE G M')) (hd : D + 1 ≤ d) (hk : k G L rest n) : scall e b M0 d mi a o vs rest G L n R k :=
  ⟨d - 1, by omega, b, _, _, Or.inl rfl, h (d - 1) (by omega), fun _ _ _ hg => hg, fun M M' v n' _ _ _ _ _ q => by obtain ⟨q1, rfl, q2⟩ := q; cases q1; exact ⟨G, q2, hk⟩, fun M M' v n' _ _ _ _ q => by obtain ⟨q1, q2⟩ := q; cases q1⟩
theorem sGw_n {G0 : GL} (hw : ∀ M, gE G M → gE G0 M) (h : ∀ d', D ≤ d' → sP e b d' a vs n (gE G0) (fun _ r n' M' => r = .inl none ∧ n' = n ∧ gE G0 M')) (hd : D + 1 ≤ d) (hk : k G0 L rest n) : scall e b M0 d mi a o vs rest G L n R k :=
  ⟨d - 1, by omega, b, _, _, Or.inl rfl, h (d - 1) (by omega), fun M _ _ hg => hw M hg, fun M M' v n' _ _ _ _ _ q => by obtain ⟨q1, rfl, q2⟩ := q; cases q1; exact ⟨G0, q2, hk⟩, fun M M' v n' _ _ _ _ q => by obtain ⟨q1, q2⟩ := q; cases q1⟩
theorem s2_n {P : Int → Int → Prop} {Pre : tM → Prop} {rr f g : Nat} (h : ∀ d', D ≤ d' → sP e b d' a vs n Pre (fun _ r n' M' => r = .inl none ∧ n' = n ∧ P (M' rr (f : Nat)) (M' rr (g : Nat)))) (hd : D + 1 ≤ d) (hr : akd (tsh rr) = 9) (hp : ∀ M, CI M → pE b M0 M → gE G M → Pre M) (hk : ∀ x y, P x y → k [(rr, f, x), (rr, g, y)] L rest n) : scall e b M0 d mi a o vs rest G L n R k :=
  ⟨d - 1, by omega, b, _, _, Or.inl rfl, h (d - 1) (by omega), hp, fun M M' v n' _ _ _ _ _ q => by obtain ⟨q1, rfl, q2⟩ := q; cases q1; exact ⟨[(rr, f, M' rr (f : Nat)), (rr, g, M' rr (g : Nat))], ⟨⟨hr, rfl⟩, ⟨hr, rfl⟩, trivial⟩, hk _ _ q2⟩, fun M M' v n' _ _ _ _ q => by obtain ⟨q1, q2⟩ := q; cases q1⟩
end MCALL
theorem k_X8_wholeOfRow {e : tE} {b : Nat} {d n : Nat} {r : Nat} (h0 : cl r 10) (hd : 0 ≤ d) : sP e b d 2580 [.inr (.inr (.inl r))] n (fun M => 0 ≤ M r ((7 : Nat) : Int) ∧ M r ((7 : Nat) : Int) ≤ 32 ∧ 1 ≤ M r ((8 : Nat) : Int) ∧ M r ((8 : Nat) : Int) ≤ 32) (fun _ r n' _ => SQl n (fun z => (-9223372036854775808 ≤ z ∧ z < 9223372036854775808)) r n') := by
  refine sKP (fun M h => tst_X8_wholeOfRow h) (fun M0 hC0 hP => ⟨[(r, 8, M0 r ((8 : Nat) : Int)), (r, 7, M0 r ((7 : Nat) : Int))], ⟨⟨by rw [h0.1]; rfl, rfl⟩, ⟨by rw [h0.1]; rfl, rfl⟩, trivial⟩, ?_⟩)
  have ha : akd (tsh r) = 9 := by rw [h0.1]; rfl
  have hP : 0 ≤ M0 r ((7 : Nat) : Int) ∧ M0 r ((7 : Nat) : Int) ≤ 32 ∧ 1 ≤ M0 r ((8 : Nat) : Int) ∧ M0 r ((8 : Nat) : Int) ≤ 32 := hP
  show sT e b M0 d _ 0 _ _ _ n (fun r n' _ => SQl n (fun z => (-9223372036854775808 ≤ z ∧ z < 9223372036854775808)) r n')
  generalize M0 r ((8 : Nat) : Int) = u0 at hP ⊢
  generalize M0 r ((7 : Nat) : Int) = b0 at hP ⊢
  refine sblk (hv := false) kbl_X8_wholeOfRow kbs_X8_wholeOfRow (pc := 0) (pe := 17) (rk := 1) (i := 0) rfl (by decide +kernel) ?_
  simp only [kb_X8_wholeOfRow_0, s_ald_0, s_gf_10_8, s_gf_10_7, s_ic, s_iadd, s_ic_le, s_ld2, s_lre, LR, IR, true_and, and_true, Nat.reduceAdd, Nat.reduceSub, eq_self]
  refine ⟨by assumption, fun x2_ h2_ g2_ k2_ => ?_⟩
  simp (disch := decide) only [gk, gd, eq_self, true_imp_iff, false_imp_iff, and_true, true_and, Nat.reduceEqDiff, reduceIte, reduceCtorEq, ne_eq, not_false_eq_true] at k2_
  refine ⟨by assumption, fun x4_ h4_ g4_ k4_ => ?_⟩
  simp (disch := decide) only [gk, gd, eq_self, true_imp_iff, false_imp_iff, and_true, true_and, Nat.reduceEqDiff, reduceIte, reduceCtorEq, ne_eq, not_false_eq_true] at k4_
  refine ⟨by omega, fun h7_ => ?_, fun h7_ => ?_⟩
  · have n26 : ∀ (fu : Nat) (l1_26 : Int) (i3_26 : Int), i3_26 + 2147483648 + 1 ≤ (fu : Int) → (-9223372036854775808 ≤ l1_26 ∧ l1_26 < 9223372036854775808) → (-2147483648 ≤ i3_26 ∧ i3_26 ≤ 2147483647) → i3_26 ≤ 31 → sT e b M0 d 2580 26 [(r, 8, u0), (r, 7, b0)] [some (.inr (.inr (.inl r))), some (.inr (.inl l1_26)), none, some (.inl i3_26)] [] n (fun r n' _ => (SQl n (fun z => (-9223372036854775808 ≤ z ∧ z < 9223372036854775808))) r n') := by
      intro fu
      induction fu with
      | zero =>
        intro l1_26 i3_26 hm y26_0 y26_1 y26_2
        exfalso; omega
      | succ fu ih =>
        intro l1_26 i3_26 hm y26_0 y26_1 y26_2
        have ih26 := ih
        clear ih
        refine sblk (hv := false) kbl_X8_wholeOfRow kbs_X8_wholeOfRow (pc := 26) (pe := 53) (rk := 1) (i := 2) rfl (by decide +kernel) ?_
        simp only [kb_X8_wholeOfRow_26, s_ild_3, s_ald_0, s_gf_10_7, s_ic_lt, s_lld_1, s_ld2, s_lmul, s_gf_10_4, s_la, s_lax, forall_const, s_ladd, s_lst_1, tkl_n, tkl_i, tkl_l, tkl_r, s_inc3, s_goto, LR, IR, true_and, and_true, Nat.reduceAdd, Nat.reduceSub, eq_self]
        refine ⟨by assumption, fun x10_ h10_ g10_ k10_ => ?_⟩
        simp (disch := decide) only [gk, gd, eq_self, true_imp_iff, false_imp_iff, and_true, true_and, Nat.reduceEqDiff, reduceIte, reduceCtorEq, ne_eq, not_false_eq_true] at k10_
        refine ⟨by omega, fun h11_ => ?_, fun h11_ => ?_⟩
        · refine sblk (hv := false) kbl_X8_wholeOfRow kbs_X8_wholeOfRow (pc := 53) (pe := 55) (rk := 1) (i := 3) rfl (by decide +kernel) ?_
          simp only [kb_X8_wholeOfRow_53, s_lld_1, s_lre, LR, IR, true_and, and_true, Nat.reduceAdd, Nat.reduceSub, eq_self]
          exact fun _ _ _ _ => ⟨_, rfl, rfl, by omega⟩
        intro x16_ h16_
        refine ⟨by assumption, fun x18_ h18_ => ?_⟩
        refine ⟨aok_21 (by assumption) (by omega), fun x20_ g20_ h20_ => ?_⟩
        intro x21_ h21_
        exact sT_g (G' := [(r, 8, u0), (r, 7, b0)]) (fun M hg => by (simp (disch := decide) only [gE, gd, Nat.reduceEqDiff, reduceIte, reduceCtorEq] at hg ⊢; refine ⟨⟨ha, ?_⟩, ⟨ha, ?_⟩, trivial⟩ <;> omega)) (ih26 _ _ (by omega) (by omega) (by omega) (by omega))
    refine sblk (hv := false) kbl_X8_wholeOfRow kbs_X8_wholeOfRow (pc := 17) (pe := 26) (rk := 1) (i := 1) rfl (by decide +kernel) ?_
    simp only [kb_X8_wholeOfRow_17, s_lc0, s_lst_1, tkl_n, tkl_i, tkl_l, tkl_r, s_ald_0, s_gf_10_8, s_ic, s_isub, s_ist_3, s_nil, LR, IR, true_and, and_true, Nat.reduceAdd, Nat.reduceSub, eq_self]
    refine ⟨by assumption, fun x28_ h28_ g28_ k28_ => ?_⟩
    simp (disch := decide) only [gk, gd, eq_self, true_imp_iff, false_imp_iff, and_true, true_and, Nat.reduceEqDiff, reduceIte, reduceCtorEq, ne_eq, not_false_eq_true] at k28_
    exact sT_g (G' := [(r, 8, u0), (r, 7, b0)]) (fun M hg => by (simp (disch := decide) only [gE, gd, Nat.reduceEqDiff, reduceIte, reduceCtorEq] at hg ⊢; refine ⟨⟨ha, ?_⟩, ⟨ha, ?_⟩, trivial⟩ <;> omega)) (n26 4294967400 _ _ (by omega) (by omega) (by omega) (by omega))
  exact fun _ _ _ _ => ⟨_, rfl, rfl, by omega⟩
theorem k_X8_widen {e : tE} {b : Nat} {d n : Nat} {r : Nat} (h0 : cl r 10) (hb : b < 2 ∨ b = 6) (hd : 0 ≤ d) : sP e b d 2581 [.inr (.inr (.inl r))] n (fun M => 2 ≤ M r ((7 : Nat) : Int) ∧ M r ((7 : Nat) : Int) < M r ((8 : Nat) : Int) ∧ M r ((8 : Nat) : Int) ≤ 32) (fun _ rr n' M' => rr = .inl none ∧ n' = n ∧ (fun (u v : Int) => 2 ≤ v ∧ v < u ∧ u ≤ 32) (M' r ((8 : Nat) : Int)) (M' r ((7 : Nat) : Int))) := by
  refine sKP (fun M h => tst_X8_widen h) (fun M0 hC0 hP => ⟨[(r, 8, M0 r ((8 : Nat) : Int)), (r, 7, M0 r ((7 : Nat) : Int))], ⟨⟨by rw [h0.1]; rfl, rfl⟩, ⟨by rw [h0.1]; rfl, rfl⟩, trivial⟩, ?_⟩)
  have ha : akd (tsh r) = 9 := by rw [h0.1]; rfl
  have hP : 2 ≤ M0 r ((7 : Nat) : Int) ∧ M0 r ((7 : Nat) : Int) < M0 r ((8 : Nat) : Int) ∧ M0 r ((8 : Nat) : Int) ≤ 32 := hP
  show sT e b M0 d _ 0 _ _ _ n (fun rr n' M' => rr = .inl none ∧ n' = n ∧ 2 ≤ M' r ((7 : Nat) : Int) ∧ M' r ((7 : Nat) : Int) < M' r ((8 : Nat) : Int) ∧ M' r ((8 : Nat) : Int) ≤ 32)
  generalize M0 r ((8 : Nat) : Int) = u0 at hP ⊢
  generalize M0 r ((7 : Nat) : Int) = b0 at hP ⊢
  refine sblk (hv := false) kbl_X8_widen kbs_X8_widen (pc := 0) (pe := 14) (rk := 9) (i := 0) rfl (by decide +kernel) ?_
  simp only [kb_X8_widen_0, s_ald_0, s_gf_10_8, s_ic, s_iadd, s_ist_1, tkl_n, tkl_i, tkl_l, tkl_r, s_ild_1, s_bi, s_ic_le, s_re, LR, IR, true_and, and_true, Nat.reduceAdd, Nat.reduceSub, eq_self]
  refine ⟨by assumption, fun x2_ h2_ g2_ k2_ => ?_⟩
  simp (disch := decide) only [gk, gd, eq_self, true_imp_iff, false_imp_iff, and_true, true_and, Nat.reduceEqDiff, reduceIte, reduceCtorEq, ne_eq, not_false_eq_true] at k2_
  refine ⟨by omega, fun h8_ => ?_, fun h8_ => ?_⟩
  · have n16 : ∀ (fu : Nat) (i1_16 : Int) (i2_16 : Int) (w3_16 : Option tV) (w4_16 : Option tV) (w5_16 : Option tV) (w6_16 : Option tV), 32 - i2_16 + 1 ≤ (fu : Int) → (-2147483648 ≤ i1_16 ∧ i1_16 ≤ 32) → (0 ≤ i2_16 ∧ i2_16 ≤ 32) → i1_16 = u0 + 5 ∧ u0 + 5 ≤ 32 → sT e b M0 d 2581 16 [(r, 8, u0), (r, 7, b0)] [some (.inr (.inr (.inl r))), some (.inl i1_16), some (.inl i2_16), w3_16, w4_16, w5_16, w6_16] [] n (fun rr n' M' => rr = .inl none ∧ n' = n ∧ 2 ≤ M' r ((7 : Nat) : Int) ∧ M' r ((7 : Nat) : Int) < M' r ((8 : Nat) : Int) ∧ M' r ((8 : Nat) : Int) ≤ 32) := by
      intro fu
      induction fu with
      | zero =>
        intro i1_16 i2_16 w3_16 w4_16 w5_16 w6_16 hm y16_0 y16_1 y16_2
        exfalso; omega
      | succ fu ih =>
        intro i1_16 i2_16 w3_16 w4_16 w5_16 w6_16 hm y16_0 y16_1 y16_2
        have ih16 := ih
        clear ih
        refine sblk (hv := false) kbl_X8_widen kbs_X8_widen (pc := 16) (pe := 34) (rk := 9) (i := 2) rfl (by decide +kernel) ?_
        simp only [kb_X8_widen_16, s_ild_2, s_ild_1, s_ic_ge, s_ald_0, s_gf_10_5, s_lc0, s_las, s_inc2, tkl_n, tkl_i, tkl_l, tkl_r, s_goto, LR, IR, true_and, and_true, Nat.reduceAdd, Nat.reduceSub, eq_self]
        refine ⟨by omega, fun h11_ => ?_, fun h11_ => ?_⟩
        · have n36 : ∀ (fu : Nat) (i2_36 : Int) (w3_36 : Option tV) (w4_36 : Option tV) (w5_36 : Option tV) (w6_36 : Option tV), 2147483647 - i2_36 + 1 ≤ (fu : Int) → (-2147483648 ≤ i2_36 ∧ i2_36 ≤ 2147483647) → i1_16 = u0 + 5 ∧ u0 + 5 ≤ 32 ∧ 0 ≤ i2_36 ∧ i2_36 ≤ u0 → sT e b M0 d 2581 36 [(r, 8, u0), (r, 7, b0)] [some (.inr (.inr (.inl r))), some (.inl i1_16), some (.inl i2_36), w3_36, w4_36, w5_36, w6_36] [] n (fun rr n' M' => rr = .inl none ∧ n' = n ∧ 2 ≤ M' r ((7 : Nat) : Int) ∧ M' r ((7 : Nat) : Int) < M' r ((8 : Nat) : Int) ∧ M' r ((8 : Nat) : Int) ≤ 32) := by
            intro fu
            induction fu with
            | zero =>
              intro i2_36 w3_36 w4_36 w5_36 w6_36 hm y36_0 y36_1
              exfalso; omega
            | succ fu ih =>
              intro i2_36 w3_36 w4_36 w5_36 w6_36 hm y36_0 y36_1
              have ih36 := ih
              clear ih
              have n93 : ∀ (l3_93 : Int) (w5_93 : Option tV) (w6_93 : Option tV), (-9223372036854775808 ≤ l3_93 ∧ l3_93 < 9223372036854775808) → u0 + 5 ≤ 32 ∧ i2_36 < u0 ∧ 0 ≤ i2_36 → sT e b M0 d 2581 93 [(r, 8, u0), (r, 7, b0)] [some (.inr (.inr (.inl r))), some (.inl i1_16), some (.inl i2_36), some (.inr (.inl l3_93)), none, w5_93, w6_93] [] n (fun rr n' M' => rr = .inl none ∧ n' = n ∧ 2 ≤ M' r ((7 : Nat) : Int) ∧ M' r ((7 : Nat) : Int) < M' r ((8 : Nat) : Int) ∧ M' r ((8 : Nat) : Int) ≤ 32) := by
                intro l3_93 w5_93 w6_93 y93_0 y93_1
                refine sblk (hv := false) kbl_X8_widen kbs_X8_widen (pc := 93) (pe := 99) (rk := 9) (i := 6) rfl (by decide +kernel) ?_
                simp only [kb_X8_widen_93, s_inc2, tkl_n, tkl_i, tkl_l, tkl_r, s_goto, LR, IR, true_and, and_true, Nat.reduceAdd, Nat.reduceSub, eq_self]
                exact sT_g (G' := [(r, 8, u0), (r, 7, b0)]) (fun M hg => by (simp (disch := decide) only [gE, gd, Nat.reduceEqDiff, reduceIte, reduceCtorEq] at hg ⊢; refine ⟨⟨ha, ?_⟩, ⟨ha, ?_⟩, trivial⟩ <;> omega)) (ih36 _ _ _ _ _ (by omega) (by omega) (by omega))
              have n60 : ∀ (fu : Nat) (l3_60 : Int) (i5_60 : Int) (w6_60 : Option tV), 5 - i5_60 + 1 ≤ (fu : Int) → (-9223372036854775808 ≤ l3_60 ∧ l3_60 < 9223372036854775808) → (0 ≤ i5_60 ∧ i5_60 ≤ 5) → u0 + 5 ≤ 32 ∧ i2_36 < u0 ∧ 0 ≤ i2_36 → sT e b M0 d 2581 60 [(r, 8, u0), (r, 7, b0)] [some (.inr (.inr (.inl r))), some (.inl i1_16), some (.inl i2_36), some (.inr (.inl l3_60)), none, some (.inl i5_60), w6_60] [] n (fun rr n' M' => rr = .inl none ∧ n' = n ∧ 2 ≤ M' r ((7 : Nat) : Int) ∧ M' r ((7 : Nat) : Int) < M' r ((8 : Nat) : Int) ∧ M' r ((8 : Nat) : Int) ≤ 32) := by
                intro fu
                induction fu with
                | zero =>
                  intro l3_60 i5_60 w6_60 hm y60_0 y60_1 y60_2
                  exfalso; omega
                | succ fu ih =>
                  intro l3_60 i5_60 w6_60 hm y60_0 y60_1 y60_2
                  have ih60 := ih
                  clear ih
                  refine sblk (hv := false) kbl_X8_widen kbs_X8_widen (pc := 60) (pe := 93) (rk := 9) (i := 5) rfl (by decide +kernel) ?_
                  simp only [kb_X8_widen_60, s_ild5, s_ic, s_ic_ge, s_ald_0, s_gf_10_5, s_ild_2, s_iadd, s_dup2l, s_dup2a, s_la, s_lax, forall_const, s_lld_3, s_gf_10_6, s_lmul, s_ladd, s_las, s_inc5, tkl_n, tkl_i, tkl_l, tkl_r, s_goto, LR, IR, true_and, and_true, Nat.reduceAdd, Nat.reduceSub, eq_self]
                  refine ⟨by omega, fun h16_ => ?_, fun h16_ => ?_⟩
                  · exact sT_g (G' := [(r, 8, u0), (r, 7, b0)]) (fun M hg => by (simp (disch := decide) only [gE, gd, Nat.reduceEqDiff, reduceIte, reduceCtorEq] at hg ⊢; refine ⟨⟨ha, ?_⟩, ⟨ha, ?_⟩, trivial⟩ <;> omega)) (n93 _ _ _ (by omega) (by omega))
                  refine ⟨by assumption, fun x18_ h18_ => ?_⟩
                  refine ⟨aok_21 (by assumption) (by omega), fun x23_ g23_ h23_ => ?_⟩
                  refine ⟨by assumption, fun x26_ h26_ => ?_⟩
                  refine ⟨aok_22 (by assumption) (by omega), fun x28_ g28_ h28_ => ?_⟩
                  intro x29_ h29_
                  intro x30_ h30_
                  refine ⟨by omega, aok_21 (by assumption) (by omega), ?_⟩
                  exact sT_g (G' := [(r, 8, u0), (r, 7, b0)]) (fun M hg => by (simp (disch := decide) only [gE, gd, Nat.reduceEqDiff, reduceIte, reduceCtorEq] at hg ⊢; refine ⟨⟨ha, ?_⟩, ⟨ha, ?_⟩, trivial⟩ <;> omega)) (ih60 _ _ _ (by omega) (by omega) (by omega) (by omega))
              refine sblk (hv := false) kbl_X8_widen kbs_X8_widen (pc := 36) (pe := 60) (rk := 9) (i := 4) rfl (by decide +kernel) ?_
              simp only [kb_X8_widen_36, s_ild_2, s_ald_0, s_gf_10_8, s_ic_ge, s_gf_10_4, s_la, s_lax, forall_const, s_lst_3, tkl_n, tkl_i, tkl_l, tkl_r, s_lld_3, s_lc0, s_lcmp, ne_eq, tlc_r, tlc_eq, tlc_lt, tlc_ge, tlc_gt, tlc_le, s_if_eq, s_ic, s_ist5, s_nil, LR, IR, true_and, and_true, Nat.reduceAdd, Nat.reduceSub, eq_self]
              refine ⟨by assumption, fun x36_ h36_ g36_ k36_ => ?_⟩
              simp (disch := decide) only [gk, gd, eq_self, true_imp_iff, false_imp_iff, and_true, true_and, Nat.reduceEqDiff, reduceIte, reduceCtorEq, ne_eq, not_false_eq_true] at k36_
              refine ⟨by omega, fun h37_ => ?_, fun h37_ => ?_⟩
              · have n104 : ∀ (fu : Nat) (l2_104 : Int) (i4_104 : Int) (w5_104 : Option tV) (w6_104 : Option tV), 32 - i4_104 + 1 ≤ (fu : Int) → (-9223372036854775808 ≤ l2_104 ∧ l2_104 < 9223372036854775808) → (0 ≤ i4_104 ∧ i4_104 ≤ 32) → i1_16 = u0 + 5 ∧ u0 + 5 ≤ 32 → sT e b M0 d 2581 104 [(r, 8, u0), (r, 7, b0)] [some (.inr (.inr (.inl r))), some (.inl i1_16), some (.inr (.inl l2_104)), none, some (.inl i4_104), w5_104, w6_104] [] n (fun rr n' M' => rr = .inl none ∧ n' = n ∧ 2 ≤ M' r ((7 : Nat) : Int) ∧ M' r ((7 : Nat) : Int) < M' r ((8 : Nat) : Int) ∧ M' r ((8 : Nat) : Int) ≤ 32) := by
                  intro fu
                  induction fu with
                  | zero =>
                    intro l2_104 i4_104 w5_104 w6_104 hm y104_0 y104_1 y104_2
                    exfalso; omega
                  | succ fu ih =>
                    intro l2_104 i4_104 w5_104 w6_104 hm y104_0 y104_1 y104_2
                    have ih104 := ih
                    clear ih
                    refine sblk (hv := false) kbl_X8_widen kbs_X8_widen (pc := 104) (pe := 147) (rk := 9) (i := 8) rfl (by decide +kernel) ?_
                    simp only [kb_X8_widen_104, s_ild4, s_ild_1, s_ic_ge, s_ald_0, s_gf_10_5, s_la, s_lax, forall_const, s_lld_2, s_ladd, s_lst5, tkl_n, tkl_i, tkl_l, tkl_r, s_lld5, s_ld2, s_lrem, s_las, s_ldiv, s_lst_2, s_inc4, s_goto, LR, IR, true_and, and_true, Nat.reduceAdd, Nat.reduceSub, eq_self]
                    refine ⟨by omega, fun h40_ => ?_, fun h40_ => ?_⟩
                    · have n182 : ∀ (fu : Nat) (q4_182 : Nat) (w5_182 : Option tV) (w6_182 : Option tV) (c182 : Int), c182 + 0 ≤ (fu : Int) → cl q4_182 21 → (1 ≤ c182 ∧ (b0 + 2) < c182 ∧ c182 ≤ 32) → sT e b M0 d 2581 182 [(r, 8, c182), (r, 7, (b0 + 2))] [some (.inr (.inr (.inl r))), some (.inl i1_16), some (.inr (.inl l2_104)), none, some (.inr (.inr (.inl q4_182))), w5_182, w6_182] [] n (fun rr n' M' => rr = .inl none ∧ n' = n ∧ 2 ≤ M' r ((7 : Nat) : Int) ∧ M' r ((7 : Nat) : Int) < M' r ((8 : Nat) : Int) ∧ M' r ((8 : Nat) : Int) ≤ 32) := by
                        intro fu
                        induction fu with
                        | zero =>
                          intro q4_182 w5_182 w6_182 c182 hm y182_0 y182_1
                          exfalso; omega
                        | succ fu ih =>
                          intro q4_182 w5_182 w6_182 c182 hm y182_0 y182_1
                          have ih182 := ih
                          clear ih
                          have n224 : ∀ (w5_224 : Option tV) (w6_224 : Option tV) (c224 : Int), ((b0 + 2) < c224 ∧ c224 ≤ 32) → sT e b M0 d 2581 224 [(r, 8, c224), (r, 7, (b0 + 2))] [some (.inr (.inr (.inl r))), some (.inl i1_16), some (.inr (.inl l2_104)), none, some (.inr (.inr (.inl q4_182))), w5_224, w6_224] [] n (fun rr n' M' => rr = .inl none ∧ n' = n ∧ 2 ≤ M' r ((7 : Nat) : Int) ∧ M' r ((7 : Nat) : Int) < M' r ((8 : Nat) : Int) ∧ M' r ((8 : Nat) : Int) ≤ 32) := by
                            intro w5_224 w6_224 c224 y224_0
                            refine sblk (hv := false) kbl_X8_widen kbs_X8_widen (pc := 224) (pe := 225) (rk := 9) (i := 11) rfl (by decide +kernel) ?_
                            simp only [kb_X8_widen_224, s_re, LR, IR, true_and, and_true, Nat.reduceAdd, Nat.reduceSub, eq_self]
                            (intro M _ _ hg; simp (disch := decide) only [gE, gd, Nat.reduceEqDiff, reduceIte, reduceCtorEq] at hg; refine ⟨?_, ?_, ?_⟩ <;> omega)
                          refine sblk (hv := false) kbl_X8_widen kbs_X8_widen (pc := 182) (pe := 224) (rk := 9) (i := 10) rfl (by decide +kernel) ?_
                          simp only [kb_X8_widen_182, s_ald_0, s_gf_10_8, s_gf_10_7, s_ic, s_iadd, s_ic_le, s_gf_10_4, s_isub, s_la, s_lax, forall_const, s_lc0, s_lcmp, ne_eq, tlc_r, tlc_eq, tlc_lt, tlc_ge, tlc_gt, tlc_le, s_if_ne, s_dupi, s_dupr, s_pf_10_8, s_goto, LR, IR, true_and, and_true, Nat.reduceAdd, Nat.reduceSub, eq_self]
                          refine ⟨by assumption, fun x43_ h43_ g43_ k43_ => ?_⟩
                          simp (disch := decide) only [gk, gd, eq_self, true_imp_iff, false_imp_iff, and_true, true_and, Nat.reduceEqDiff, reduceIte, reduceCtorEq, ne_eq, not_false_eq_true] at k43_
                          refine ⟨by assumption, fun x45_ h45_ g45_ k45_ => ?_⟩
                          simp (disch := decide) only [gk, gd, eq_self, true_imp_iff, false_imp_iff, and_true, true_and, Nat.reduceEqDiff, reduceIte, reduceCtorEq, ne_eq, not_false_eq_true] at k45_
                          refine ⟨by omega, fun h48_ => ?_, fun h48_ => ?_⟩
                          · exact sT_g (G' := [(r, 8, c182), (r, 7, (b0 + 2))]) (fun M hg => by (simp (disch := decide) only [gE, gd, Nat.reduceEqDiff, reduceIte, reduceCtorEq] at hg ⊢; refine ⟨⟨ha, ?_⟩, ⟨ha, ?_⟩, trivial⟩ <;> omega)) (n224 _ _ _ (by omega))
                          refine ⟨by assumption, fun x50_ h50_ => ?_⟩
                          refine ⟨by assumption, fun x52_ h52_ g52_ k52_ => ?_⟩
                          simp (disch := decide) only [gk, gd, eq_self, true_imp_iff, false_imp_iff, and_true, true_and, Nat.reduceEqDiff, reduceIte, reduceCtorEq, ne_eq, not_false_eq_true] at k52_
                          refine ⟨aok_21 (by assumption) (by omega), fun x55_ g55_ h55_ => ?_⟩
                          refine ⟨by omega, ?_⟩
                          refine ⟨fun h58_ => ?_, fun h58_ => ?_⟩
                          · exact sT_g (G' := [(r, 8, c182), (r, 7, (b0 + 2))]) (fun M hg => by (simp (disch := decide) only [gE, gd, Nat.reduceEqDiff, reduceIte, reduceCtorEq] at hg ⊢; refine ⟨⟨ha, ?_⟩, ⟨ha, ?_⟩, trivial⟩ <;> omega)) (n224 _ _ _ (by omega))
                          refine ⟨by assumption, fun x61_ h61_ g61_ k61_ => ?_⟩
                          simp (disch := decide) only [gk, gd, eq_self, true_imp_iff, false_imp_iff, and_true, true_and, Nat.reduceEqDiff, reduceIte, reduceCtorEq, ne_eq, not_false_eq_true] at k61_
                          refine ⟨by omega, by assumption, by omega, ?_⟩
                          exact sT_g (G' := [(r, 8, x61_ - 1), (r, 7, (b0 + 2))]) (fun M hg => by (simp (disch := decide) only [gE, gd, Nat.reduceEqDiff, reduceIte, reduceCtorEq] at hg ⊢; refine ⟨⟨ha, ?_⟩, ⟨ha, ?_⟩, trivial⟩ <;> omega)) (ih182 _ _ _ _ (by omega) (by assumption) (by omega))
                      refine sblk (hv := false) kbl_X8_widen kbs_X8_widen (pc := 147) (pe := 182) (rk := 9) (i := 9) rfl (by decide +kernel) ?_
                      simp only [kb_X8_widen_147, s_ald_0, s_gf_10_4, s_ast4, tkl_n, tkl_i, tkl_l, tkl_r, s_gf_10_5, s_pf_10_4, s_ald4, s_pf_10_5, s_dupi, s_dupr, s_gf_10_7, s_ic, s_iadd, s_pf_10_7, s_ild_1, s_pf_10_8, s_nil, LR, IR, true_and, and_true, Nat.reduceAdd, Nat.reduceSub, eq_self]
                      refine ⟨by assumption, fun x67_ h67_ => ?_⟩
                      refine ⟨by assumption, fun x71_ h71_ => ?_⟩
                      refine ⟨by omega, by assumption, by assumption, ?_⟩
                      refine ⟨by omega, by assumption, by assumption, ?_⟩
                      refine ⟨by assumption, fun x78_ h78_ g78_ k78_ => ?_⟩
                      simp (disch := decide) only [gk, gd, eq_self, true_imp_iff, false_imp_iff, and_true, true_and, Nat.reduceEqDiff, reduceIte, reduceCtorEq, ne_eq, not_false_eq_true] at k78_
                      refine ⟨by omega, by assumption, by omega, ?_⟩
                      refine ⟨by omega, by assumption, by omega, ?_⟩
                      exact sT_g (G' := [(r, 8, i1_16), (r, 7, (b0 + 2))]) (fun M hg => by (simp (disch := decide) only [gE, gd, Nat.reduceEqDiff, reduceIte, reduceCtorEq] at hg ⊢; refine ⟨⟨ha, ?_⟩, ⟨ha, ?_⟩, trivial⟩ <;> omega)) (n182 4294967400 _ _ _ _ (by omega) (by assumption) (by omega))
                    refine ⟨by assumption, fun x86_ h86_ => ?_⟩
                    refine ⟨aok_21 (by assumption) (by omega), fun x88_ g88_ h88_ => ?_⟩
                    intro x90_ h90_
                    refine ⟨by assumption, fun x93_ h93_ => ?_⟩
                    refine ⟨by omega, fun x97_ h97_ => ?_⟩
                    refine ⟨by omega, aok_21 (by assumption) (by omega), ?_⟩
                    refine ⟨by omega, fun x101_ h101_ y101_ => ?_⟩
                    clear y101_
                    exact sT_g (G' := [(r, 8, u0), (r, 7, b0)]) (fun M hg => by (simp (disch := decide) only [gE, gd, Nat.reduceEqDiff, reduceIte, reduceCtorEq] at hg ⊢; refine ⟨⟨ha, ?_⟩, ⟨ha, ?_⟩, trivial⟩ <;> omega)) (ih104 _ _ _ _ (by omega) (by omega) (by omega) (by omega))
                refine sblk (hv := false) kbl_X8_widen kbs_X8_widen (pc := 99) (pe := 104) (rk := 9) (i := 7) rfl (by decide +kernel) ?_
                simp only [kb_X8_widen_99, s_lc0, s_lst_2, tkl_n, tkl_i, tkl_l, tkl_r, s_ic, s_ist4, s_nil, LR, IR, true_and, and_true, Nat.reduceAdd, Nat.reduceSub, eq_self]
                exact sT_g (G' := [(r, 8, u0), (r, 7, b0)]) (fun M hg => by (simp (disch := decide) only [gE, gd, Nat.reduceEqDiff, reduceIte, reduceCtorEq] at hg ⊢; refine ⟨⟨ha, ?_⟩, ⟨ha, ?_⟩, trivial⟩ <;> omega)) (n104 4294967400 _ _ _ _ (by omega) (by omega) (by omega) (by omega))
              refine ⟨by assumption, fun x110_ h110_ => ?_⟩
              refine ⟨aok_21 (by assumption) (by omega), fun x112_ g112_ h112_ => ?_⟩
              refine ⟨by omega, ?_⟩
              refine ⟨fun h117_ => ?_, fun h117_ => ?_⟩
              · exact sT_g (G' := [(r, 8, u0), (r, 7, b0)]) (fun M hg => by (simp (disch := decide) only [gE, gd, Nat.reduceEqDiff, reduceIte, reduceCtorEq] at hg ⊢; refine ⟨⟨ha, ?_⟩, ⟨ha, ?_⟩, trivial⟩ <;> omega)) (n93 _ _ _ (by omega) (by omega))
              exact sT_g (G' := [(r, 8, u0), (r, 7, b0)]) (fun M hg => by (simp (disch := decide) only [gE, gd, Nat.reduceEqDiff, reduceIte, reduceCtorEq] at hg ⊢; refine ⟨⟨ha, ?_⟩, ⟨ha, ?_⟩, trivial⟩ <;> omega)) (n60 4294967400 _ _ _ (by omega) (by omega) (by omega) (by omega))
          refine sblk (hv := false) kbl_X8_widen kbs_X8_widen (pc := 34) (pe := 36) (rk := 9) (i := 3) rfl (by decide +kernel) ?_
          simp only [kb_X8_widen_34, s_ic, s_ist_2, tkl_n, tkl_i, tkl_l, tkl_r, s_nil, LR, IR, true_and, and_true, Nat.reduceAdd, Nat.reduceSub, eq_self]
          exact sT_g (G' := [(r, 8, u0), (r, 7, b0)]) (fun M hg => by (simp (disch := decide) only [gE, gd, Nat.reduceEqDiff, reduceIte, reduceCtorEq] at hg ⊢; refine ⟨⟨ha, ?_⟩, ⟨ha, ?_⟩, trivial⟩ <;> omega)) (n36 4294967400 _ _ _ _ _ (by omega) (by omega) (by omega))
        refine ⟨by assumption, fun x123_ h123_ => ?_⟩
        refine ⟨by omega, aok_21 (by assumption) (by omega), ?_⟩
        exact sT_g (G' := [(r, 8, u0), (r, 7, b0)]) (fun M hg => by (simp (disch := decide) only [gE, gd, Nat.reduceEqDiff, reduceIte, reduceCtorEq] at hg ⊢; refine ⟨⟨ha, ?_⟩, ⟨ha, ?_⟩, trivial⟩ <;> omega)) (ih16 _ _ _ _ _ _ (by omega) (by omega) (by omega) (by omega))
    refine sblk (hv := false) kbl_X8_widen kbs_X8_widen (pc := 14) (pe := 16) (rk := 9) (i := 1) rfl (by decide +kernel) ?_
    simp only [kb_X8_widen_14, s_ic, s_ist_2, tkl_n, tkl_i, tkl_l, tkl_r, s_nil, LR, IR, true_and, and_true, Nat.reduceAdd, Nat.reduceSub, eq_self]
    exact sT_g (G' := [(r, 8, u0), (r, 7, b0)]) (fun M hg => by (simp (disch := decide) only [gE, gd, Nat.reduceEqDiff, reduceIte, reduceCtorEq] at hg ⊢; refine ⟨⟨ha, ?_⟩, ⟨ha, ?_⟩, trivial⟩ <;> omega)) (n16 4294967400 _ _ _ _ _ _ (by omega) (by omega) (by omega) (by omega))
  (intro M _ _ hg; simp (disch := decide) only [gE, gd, Nat.reduceEqDiff, reduceIte, reduceCtorEq] at hg; refine ⟨?_, ?_, ?_⟩ <;> omega)
