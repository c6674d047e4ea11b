/-! THE CLASS: roots. -/
theorem k_X8_toRoot {e : tE} {b : Nat} {d n : Nat} {r : Nat} {x1 : Nat} {x2 : Int} (h0 : cl r 10) (h1 : cl x1 3) (h2 : (-2147483648 ≤ x2 ∧ x2 ≤ 2147483647)) (hq : 2 ≤ x2 ∧ x2 ≤ 9) (he : EO e) (hb : b < 2 ∨ b = 6) (hd : 5 ≤ d) : sP e b d 2578 [.inr (.inr (.inl r)), .inr (.inr (.inl x1)), .inl x2] n (fun _ => True) (fun _ rr n' M' => rr = .inl none ∧ n' = n ∧ (fun c => -922337204 ≤ c ∧ c ≤ 922337204) (M' 80 ((0 : Nat) : Int))) := by
  refine sKP (fun M h => tst_X8_toRoot h) (fun M0 hC0 _ => ⟨[], trivial, ?_⟩)
  show sT e b M0 d _ 0 _ _ _ n (fun rr n' M' => rr = .inl none ∧ n' = n ∧ -922337204 ≤ M' 80 ((0 : Nat) : Int) ∧ M' 80 ((0 : Nat) : Int) ≤ 922337204)
  have ha : akd (tsh r) = 9 := by rw [h0.1]; rfl
  have n23 : ∀ (fu : Nat) (l3_23 : Int) (i5_23 : Int) (i6_23 : Int) (w7_23 : Option tV), 65535 - i6_23 + 1 ≤ (fu : Int) → (-9223372036854775808 ≤ l3_23 ∧ l3_23 < 9223372036854775808) → (0 ≤ i5_23 ∧ i5_23 ≤ 0) → (0 ≤ i6_23 ∧ i6_23 ≤ 65535) → sT e b M0 d 2578 23 [] [some (.inr (.inr (.inl r))), some (.inr (.inr (.inl x1))), some (.inl x2), some (.inr (.inl l3_23)), none, some (.inl i5_23), some (.inl i6_23), w7_23] [] n (fun rr n' M' => rr = .inl none ∧ n' = n ∧ -922337204 ≤ M' 80 ((0 : Nat) : Int) ∧ M' 80 ((0 : Nat) : Int) ≤ 922337204) := by
    intro fu
    induction fu with
    | zero =>
      intro l3_23 i5_23 i6_23 w7_23 hm y23_0 y23_1 y23_2
      exfalso; omega
    | succ fu ih =>
      intro l3_23 i5_23 i6_23 w7_23 hm y23_0 y23_1 y23_2
      have ih23 := ih
      clear ih
      have n118 : ∀ (i5_118 : Int) (w7_118 : Option tV), (0 ≤ i5_118 ∧ i5_118 ≤ 1) → sT e b M0 d 2578 118 [] [some (.inr (.inr (.inl r))), some (.inr (.inr (.inl x1))), some (.inl x2), some (.inr (.inl l3_23)), none, some (.inl i5_118), some (.inl i6_23), w7_118] [] n (fun rr n' M' => rr = .inl none ∧ n' = n ∧ -922337204 ≤ M' 80 ((0 : Nat) : Int) ∧ M' 80 ((0 : Nat) : Int) ≤ 922337204) := by
        intro i5_118 w7_118 y118_0
        have n121 : ∀ (fu : Nat) (l3_121 : Int) (i5_121 : Int) (i6_121 : Int) (w7_121 : Option tV), 65535 - i6_121 + 1 ≤ (fu : Int) → (-9223372036854775808 ≤ l3_121 ∧ l3_121 < 9223372036854775808) → (0 ≤ i5_121 ∧ i5_121 ≤ 1) → (0 ≤ i6_121 ∧ i6_121 ≤ 65535) → sT e b M0 d 2578 121 [] [some (.inr (.inr (.inl r))), some (.inr (.inr (.inl x1))), some (.inl x2), some (.inr (.inl l3_121)), none, some (.inl i5_121), some (.inl i6_121), w7_121] [] n (fun rr n' M' => rr = .inl none ∧ n' = n ∧ -922337204 ≤ M' 80 ((0 : Nat) : Int) ∧ M' 80 ((0 : Nat) : Int) ≤ 922337204) := by
          intro fu
          induction fu with
          | zero =>
            intro l3_121 i5_121 i6_121 w7_121 hm y121_0 y121_1 y121_2
            exfalso; omega
          | succ fu ih =>
            intro l3_121 i5_121 i6_121 w7_121 hm y121_0 y121_1 y121_2
            have ih121 := ih
            clear ih
            have n226 : ∀ (i5_226 : Int) (w7_226 : Option tV), (0 ≤ i5_226 ∧ i5_226 ≤ 1) → sT e b M0 d 2578 226 [] [some (.inr (.inr (.inl r))), some (.inr (.inr (.inl x1))), some (.inl x2), some (.inr (.inl l3_121)), none, some (.inl i5_226), some (.inl i6_121), w7_226] [] n (fun rr n' M' => rr = .inl none ∧ n' = n ∧ -922337204 ≤ M' 80 ((0 : Nat) : Int) ∧ M' 80 ((0 : Nat) : Int) ≤ 922337204) := by
              intro i5_226 w7_226 y226_0
              have n247 : ∀ (w7_247 : Option tV) (is0_247 : Int) (ls1_247 : Int) (ls2_247 : Int) (qs3_247 : Nat), (0 ≤ is0_247 ∧ is0_247 ≤ 1) → (-9223372036854775808 ≤ ls1_247 ∧ ls1_247 < 9223372036854775808) → (-9223372036854775808 ≤ ls2_247 ∧ ls2_247 < 9223372036854775808) → cl qs3_247 10 → (-922337204 ≤ ls2_247 ∧ ls2_247 ≤ 922337204) → sT e b M0 d 2578 247 [] [some (.inr (.inr (.inl r))), some (.inr (.inr (.inl x1))), some (.inl x2), some (.inr (.inl l3_121)), none, some (.inl i5_226), some (.inl i6_121), w7_247] [.inl is0_247, .inr (.inl ls1_247), .inr (.inl ls2_247), .inr (.inr (.inl qs3_247))] n (fun rr n' M' => rr = .inl none ∧ n' = n ∧ -922337204 ≤ M' 80 ((0 : Nat) : Int) ∧ M' 80 ((0 : Nat) : Int) ≤ 922337204) := by
                intro w7_247 is0_247 ls1_247 ls2_247 qs3_247 y247_0 y247_1 y247_2 y247_3 y247_4
                refine sblk (hv := false) kbl_X8_toRoot kbs_X8_toRoot (pc := 247) (pe := 251) (rk := 9) (i := 12) rfl (by decide +kernel) ?_
                simp only [kb_X8_toRoot_247, s_iv3, tfr_0, tfr_1, tfr_2, tfr_3, tfr_4, s_re, LR, IR, true_and, and_true, Nat.reduceAdd, Nat.reduceSub, eq_self]
                refine ⟨vok_of (s := 10) (by assumption) rfl, ?_⟩
                refine sf_n (rr := 80) (f := 0) (P := fun c => -922337204 ≤ c ∧ c ≤ 922337204) (D := 0) (fun d' hd' => k_X8_assign_b (by assumption) (by omega) (by omega) (by omega) (by omega) hd') (by omega) (by rw [tsh_80]; rfl) ?_
                intro c1_ h1_
                try simp only [s_re, LR, IR, true_and, and_true, Nat.reduceAdd, Nat.reduceSub, eq_self]
                intro M _ _ hg
                have q : M 80 ((0 : Nat) : Int) = c1_ := hg.1.2
                rw [q]
                exact h1_
              refine sblk (hv := false) kbl_X8_toRoot kbs_X8_toRoot (pc := 226) (pe := 246) (rk := 9) (i := 10) rfl (by decide +kernel) ?_
              simp only [kb_X8_toRoot_226, s_ald_0, s_lld_3, s_ld2, s_ldiv, s_lrem, s_ild5, s_if_ne, s_ic, s_goto, LR, IR, true_and, and_true, Nat.reduceAdd, Nat.reduceSub, eq_self]
              refine ⟨by omega, fun x6_ h6_ y6_ => ?_⟩
              have y6b_ := y6_ (by first | exact trivial | rfl)
              refine ⟨by omega, fun x9_ h9_ => ?_⟩
              refine ⟨by omega, fun h11_ => ?_, fun h11_ => ?_⟩
              · refine sblk (hv := false) kbl_X8_toRoot kbs_X8_toRoot (pc := 246) (pe := 247) (rk := 9) (i := 11) rfl (by decide +kernel) ?_
                simp only [kb_X8_toRoot_246, s_ic, s_nil, LR, IR, true_and, and_true, Nat.reduceAdd, Nat.reduceSub, eq_self]
                exact sT_w (n247 _ _ _ _ _ (by omega) (by omega) (by omega) (by assumption) (by omega))
              exact sT_w (n247 _ _ _ _ _ (by omega) (by omega) (by omega) (by assumption) (by omega))
            have n194 : ∀ (i7_194 : Int) (is0_194 : Int), (0 ≤ i5_121 ∧ i5_121 ≤ 0) → (0 ≤ i6_121 ∧ i6_121 ≤ 999) → (-1 ≤ i7_194 ∧ i7_194 ≤ 1) → (0 ≤ is0_194 ∧ is0_194 ≤ 1) → sT e b M0 d 2578 194 [] [some (.inr (.inr (.inl r))), some (.inr (.inr (.inl x1))), some (.inl x2), some (.inr (.inl l3_121)), none, some (.inl i5_121), some (.inl i6_121), some (.inl i7_194)] [.inl is0_194] n (fun rr n' M' => rr = .inl none ∧ n' = n ∧ -922337204 ≤ M' 80 ((0 : Nat) : Int) ∧ M' 80 ((0 : Nat) : Int) ≤ 922337204) := by
              intro i7_194 is0_194 y194_0 y194_1 y194_2 y194_3
              have n216 : ∀ (i5_216 : Int), (0 ≤ i5_216 ∧ i5_216 ≤ 1) → (-1 ≤ i7_194 ∧ i7_194 ≤ 0) → sT e b M0 d 2578 216 [] [some (.inr (.inr (.inl r))), some (.inr (.inr (.inl x1))), some (.inl x2), some (.inr (.inl l3_121)), none, some (.inl i5_216), some (.inl i6_121), some (.inl i7_194)] [] n (fun rr n' M' => rr = .inl none ∧ n' = n ∧ -922337204 ≤ M' 80 ((0 : Nat) : Int) ∧ M' 80 ((0 : Nat) : Int) ≤ 922337204) := by
                intro i5_216 y216_0 y216_1
                refine sblk (hv := false) kbl_X8_toRoot kbs_X8_toRoot (pc := 216) (pe := 226) (rk := 9) (i := 9) rfl (by decide +kernel) ?_
                simp only [kb_X8_toRoot_216, s_lld_3, s_lc1, s_ladd, s_lst_3, tkl_n, tkl_i, tkl_l, tkl_r, s_inc6, s_goto, LR, IR, true_and, and_true, Nat.reduceAdd, Nat.reduceSub, eq_self]
                intro x17_ h17_
                exact sT_w (ih121 _ _ _ _ (by omega) (by omega) (by omega) (by omega))
              refine sblk (hv := false) kbl_X8_toRoot kbs_X8_toRoot (pc := 194) (pe := 216) (rk := 9) (i := 8) rfl (by decide +kernel) ?_
              simp only [kb_X8_toRoot_194, s_ist5, tkl_n, tkl_i, tkl_l, tkl_r, s_ild7, s_if_gt, s_if_ne, s_ald_0, s_gf_10_1, s_if_eq, s_goto, LR, IR, true_and, and_true, Nat.reduceAdd, Nat.reduceSub, eq_self]
              refine ⟨by omega, fun h23_ => ?_, fun h23_ => ?_⟩
              · exact sT_w (n226 _ _ (by omega))
              refine ⟨by omega, fun h25_ => ?_, fun h25_ => ?_⟩
              · exact sT_w (n216 _ (by omega) (by omega))
              refine ⟨by assumption, fun x27_ h27_ g27_ k27_ => ?_⟩
              simp (disch := decide) only [gk, gd, eq_self, true_imp_iff, false_imp_iff, and_true, true_and, Nat.reduceEqDiff, reduceIte, reduceCtorEq, ne_eq, not_false_eq_true] at k27_
              refine ⟨by omega, fun h28_ => ?_, fun h28_ => ?_⟩
              · exact sT_w (n216 _ (by omega) (by omega))
              exact sT_w (n226 _ _ (by omega))
            have n193 : ∀ (i7_193 : Int), (0 ≤ i5_121 ∧ i5_121 ≤ 0) → (0 ≤ i6_121 ∧ i6_121 ≤ 999) → (-1 ≤ i7_193 ∧ i7_193 ≤ 1) → sT e b M0 d 2578 193 [] [some (.inr (.inr (.inl r))), some (.inr (.inr (.inl x1))), some (.inl x2), some (.inr (.inl l3_121)), none, some (.inl i5_121), some (.inl i6_121), some (.inl i7_193)] [] n (fun rr n' M' => rr = .inl none ∧ n' = n ∧ -922337204 ≤ M' 80 ((0 : Nat) : Int) ∧ M' 80 ((0 : Nat) : Int) ≤ 922337204) := by
              intro i7_193 y193_0 y193_1 y193_2
              refine sblk (hv := false) kbl_X8_toRoot kbs_X8_toRoot (pc := 193) (pe := 194) (rk := 9) (i := 7) rfl (by decide +kernel) ?_
              simp only [kb_X8_toRoot_193, s_ic, s_nil, LR, IR, true_and, and_true, Nat.reduceAdd, Nat.reduceSub, eq_self]
              exact sT_w (n194 _ _ (by omega) (by omega) (by omega) (by omega))
            refine sblk (hv := false) kbl_X8_toRoot kbs_X8_toRoot (pc := 121) (pe := 193) (rk := 9) (i := 6) rfl (by decide +kernel) ?_
            simp only [kb_X8_toRoot_121, s_ild6, s_si, s_ic_ge, s_ild5, s_if_ne, s_ald_0, s_gf_10_2, s_lld_3, s_lc1, s_ladd, s_ld2, s_ldiv, s_lrem, s_iv2, tfr_0, tfr_1, tfr_2, tfr_3, tfr_4, s_ild_2, s_iv1, s_iv0, s_gf_10_0, s_gf_10_3, s_ist7, tkl_n, tkl_i, tkl_l, tkl_r, s_ild7, s_gf_10_1, s_ic, s_goto, LR, IR, true_and, and_true, Nat.reduceAdd, Nat.reduceSub, eq_self]
            refine ⟨by omega, fun h33_ => ?_, fun h33_ => ?_⟩
            · exact sT_w (n226 _ _ (by omega))
            refine ⟨by omega, fun h35_ => ?_, fun h35_ => ?_⟩
            · exact sT_w (n226 _ _ (by omega))
            refine ⟨by assumption, fun x37_ h37_ z37_ => ?_⟩
            intro x40_ h40_
            refine ⟨by omega, fun x42_ h42_ y42_ => ?_⟩
            intro x45_ h45_
            refine ⟨by omega, fun x47_ h47_ => ?_⟩
            refine ⟨vok_of (s := 3) (by assumption) rfl, ?_⟩
            refine sc_n (D := 0) (fun d' hd' => k_X1_assign (by assumption) (by omega) (by omega) (by omega) hd') (by omega) ?_
            intro h48_
            try simp only [s_ald_0, s_ild_2, s_iv1, tfr_0, tfr_1, tfr_2, tfr_3, tfr_4, s_iv0, s_gf_10_0, s_gf_10_3, s_ist7, tkl_n, tkl_i, tkl_l, tkl_r, s_ild7, s_if_ne, s_gf_10_1, s_ic, s_goto, LR, IR, true_and, and_true, Nat.reduceAdd, Nat.reduceSub, eq_self]
            refine ⟨vok_of (s := 10) (by assumption) rfl, ?_⟩
            refine s2_n (rr := r) (f := 8) (g := 7) (P := (fun (u v : Int) => 2 ≤ v ∧ v < u ∧ u ≤ 32)) (Pre := fun _ => True) (D := 1) (fun d' hd' => k_X8_raise (by assumption) (by omega) (by omega) hd') (by omega) (by assumption) (fun _ _ _ _ => trivial) ?_
            intro uu2 vv2 h51_
            try simp only [s_ald_0, s_iv0, tfr_0, tfr_1, tfr_2, tfr_3, tfr_4, s_gf_10_0, s_gf_10_3, s_iv1, s_ist7, tkl_n, tkl_i, tkl_l, tkl_r, s_ild7, s_if_ne, s_gf_10_1, s_ic, s_goto, LR, IR, true_and, and_true, Nat.reduceAdd, Nat.reduceSub, eq_self]
            refine ⟨vok_of (s := 10) (by assumption) rfl, ?_⟩
            refine sw_n (P := True) (Pre := fun M => 0 ≤ M r ((7 : Nat) : Int) ∧ M r ((7 : Nat) : Int) ≤ 32 ∧ 1 ≤ M r ((8 : Nat) : Int) ∧ M r ((8 : Nat) : Int) ≤ 32) (D := 1) (fun d' hd' => k_X8_settle (by assumption) (by omega) hd') (by omega) (fun M _ _ hg => by (simp (disch := decide) only [gE, gd, Nat.reduceEqDiff, reduceIte, reduceCtorEq] at hg; refine ⟨?_, ?_, ?_, ?_⟩ <;> omega)) ?_
            intro h53_
            try simp only [s_ald_0, s_gf_10_0, s_gf_10_3, s_iv1, tfr_0, tfr_1, tfr_2, tfr_3, tfr_4, s_ist7, tkl_n, tkl_i, tkl_l, tkl_r, s_ild7, s_if_ne, s_gf_10_1, s_ic, s_goto, LR, IR, true_and, and_true, Nat.reduceAdd, Nat.reduceSub, eq_self]
            refine ⟨by assumption, fun x55_ h55_ z55_ => ?_⟩
            refine ⟨by assumption, fun x57_ h57_ z57_ => ?_⟩
            refine ⟨vok_of (s := 3) (by assumption) rfl, ?_⟩
            refine sp_i (D := 1) (fun d' hd' => k_X1_against (by assumption) (by assumption) hd') (by omega) ?_
            intro x58_ h58_
            try simp only [s_ist7, tkl_n, tkl_i, tkl_l, tkl_r, s_ild7, s_if_ne, s_ald_0, s_gf_10_1, s_ic, s_goto, LR, IR, true_and, and_true, Nat.reduceAdd, Nat.reduceSub, eq_self]
            refine ⟨by omega, fun h61_ => ?_, fun h61_ => ?_⟩
            · exact sT_w (n193 _ (by omega) (by omega) (by omega))
            refine ⟨by assumption, fun x63_ h63_ g63_ k63_ => ?_⟩
            simp (disch := decide) only [gk, gd, eq_self, true_imp_iff, false_imp_iff, and_true, true_and, Nat.reduceEqDiff, reduceIte, reduceCtorEq, ne_eq, not_false_eq_true] at k63_
            refine ⟨by omega, fun h64_ => ?_, fun h64_ => ?_⟩
            · exact sT_w (n193 _ (by omega) (by omega) (by omega))
            exact sT_w (n194 _ _ (by omega) (by omega) (by omega) (by omega))
        refine sblk (hv := false) kbl_X8_toRoot kbs_X8_toRoot (pc := 118) (pe := 121) (rk := 9) (i := 5) rfl (by decide +kernel) ?_
        simp only [kb_X8_toRoot_118, s_ic, s_ist6, tkl_n, tkl_i, tkl_l, tkl_r, s_nil, LR, IR, true_and, and_true, Nat.reduceAdd, Nat.reduceSub, eq_self]
        exact sT_w (n121 4294967400 _ _ _ _ (by omega) (by omega) (by omega) (by omega))
      have n87 : ∀ (i7_87 : Int) (is0_87 : Int), (0 ≤ i6_23 ∧ i6_23 ≤ 999) → (-1 ≤ i7_87 ∧ i7_87 ≤ 1) → (0 ≤ is0_87 ∧ is0_87 ≤ 1) → sT e b M0 d 2578 87 [] [some (.inr (.inr (.inl r))), some (.inr (.inr (.inl x1))), some (.inl x2), some (.inr (.inl l3_23)), none, some (.inl i5_23), some (.inl i6_23), some (.inl i7_87)] [.inl is0_87] n (fun rr n' M' => rr = .inl none ∧ n' = n ∧ -922337204 ≤ M' 80 ((0 : Nat) : Int) ∧ M' 80 ((0 : Nat) : Int) ≤ 922337204) := by
        intro i7_87 is0_87 y87_0 y87_1 y87_2
        refine sblk (hv := false) kbl_X8_toRoot kbs_X8_toRoot (pc := 87) (pe := 108) (rk := 9) (i := 3) rfl (by decide +kernel) ?_
        simp only [kb_X8_toRoot_87, s_ist5, tkl_n, tkl_i, tkl_l, tkl_r, s_ild7, s_if_lt, s_ild5, s_if_ne, s_lld_3, s_lc0, s_lcmp, ne_eq, tlc_r, tlc_eq, tlc_lt, tlc_ge, tlc_gt, tlc_le, s_if_gt, s_goto, LR, IR, true_and, and_true, Nat.reduceAdd, Nat.reduceSub, eq_self]
        refine ⟨by omega, fun h71_ => ?_, fun h71_ => ?_⟩
        · exact sT_w (n118 _ _ (by omega))
        refine ⟨by omega, fun h73_ => ?_, fun h73_ => ?_⟩
        · exact sT_w (n118 _ _ (by omega))
        refine ⟨by omega, ?_⟩
        refine ⟨fun h77_ => ?_, fun h77_ => ?_⟩
        · refine sblk (hv := false) kbl_X8_toRoot kbs_X8_toRoot (pc := 108) (pe := 118) (rk := 9) (i := 4) rfl (by decide +kernel) ?_
          simp only [kb_X8_toRoot_108, s_lld_3, s_lc1, s_lsub, s_lst_3, tkl_n, tkl_i, tkl_l, tkl_r, s_inc6, s_goto, LR, IR, true_and, and_true, Nat.reduceAdd, Nat.reduceSub, eq_self]
          intro x80_ h80_
          exact sT_w (ih23 _ _ _ _ (by omega) (by omega) (by omega) (by omega))
        exact sT_w (n118 _ _ (by omega))
      have n86 : ∀ (i7_86 : Int), (0 ≤ i6_23 ∧ i6_23 ≤ 999) → (-1 ≤ i7_86 ∧ i7_86 ≤ 1) → sT e b M0 d 2578 86 [] [some (.inr (.inr (.inl r))), some (.inr (.inr (.inl x1))), some (.inl x2), some (.inr (.inl l3_23)), none, some (.inl i5_23), some (.inl i6_23), some (.inl i7_86)] [] n (fun rr n' M' => rr = .inl none ∧ n' = n ∧ -922337204 ≤ M' 80 ((0 : Nat) : Int) ∧ M' 80 ((0 : Nat) : Int) ≤ 922337204) := by
        intro i7_86 y86_0 y86_1
        refine sblk (hv := false) kbl_X8_toRoot kbs_X8_toRoot (pc := 86) (pe := 87) (rk := 9) (i := 2) rfl (by decide +kernel) ?_
        simp only [kb_X8_toRoot_86, s_ic, s_nil, LR, IR, true_and, and_true, Nat.reduceAdd, Nat.reduceSub, eq_self]
        exact sT_w (n87 _ _ (by omega) (by omega) (by omega))
      refine sblk (hv := false) kbl_X8_toRoot kbs_X8_toRoot (pc := 23) (pe := 86) (rk := 9) (i := 1) rfl (by decide +kernel) ?_
      simp only [kb_X8_toRoot_23, s_ild6, s_si, s_ic_ge, s_ald_0, s_gf_10_2, s_lld_3, s_ld2, s_ldiv, s_lrem, s_iv2, tfr_0, tfr_1, tfr_2, tfr_3, tfr_4, s_ild_2, s_iv1, s_iv0, s_gf_10_0, s_gf_10_3, s_ist7, tkl_n, tkl_i, tkl_l, tkl_r, s_ild7, s_if_ne, s_gf_10_1, s_ic, s_goto, LR, IR, true_and, and_true, Nat.reduceAdd, Nat.reduceSub, eq_self]
      refine ⟨by omega, fun h88_ => ?_, fun h88_ => ?_⟩
      · exact sT_w (n118 _ _ (by omega))
      refine ⟨by assumption, fun x90_ h90_ z90_ => ?_⟩
      refine ⟨by omega, fun x93_ h93_ y93_ => ?_⟩
      refine ⟨by omega, fun x96_ h96_ => ?_⟩
      refine ⟨vok_of (s := 3) (by assumption) rfl, ?_⟩
      refine sc_n (D := 0) (fun d' hd' => k_X1_assign (by assumption) (by omega) (by omega) (by omega) hd') (by omega) ?_
      intro h97_
      try simp only [s_ald_0, s_ild_2, s_iv1, tfr_0, tfr_1, tfr_2, tfr_3, tfr_4, s_iv0, s_gf_10_0, s_gf_10_3, s_ist7, tkl_n, tkl_i, tkl_l, tkl_r, s_ild7, s_if_ne, s_gf_10_1, s_ic, s_goto, LR, IR, true_and, and_true, Nat.reduceAdd, Nat.reduceSub, eq_self]
      refine ⟨vok_of (s := 10) (by assumption) rfl, ?_⟩
      refine s2_n (rr := r) (f := 8) (g := 7) (P := (fun (u v : Int) => 2 ≤ v ∧ v < u ∧ u ≤ 32)) (Pre := fun _ => True) (D := 1) (fun d' hd' => k_X8_raise (by assumption) (by omega) (by omega) hd') (by omega) (by assumption) (fun _ _ _ _ => trivial) ?_
      intro uu2 vv2 h100_
      try simp only [s_ald_0, s_iv0, tfr_0, tfr_1, tfr_2, tfr_3, tfr_4, s_gf_10_0, s_gf_10_3, s_iv1, s_ist7, tkl_n, tkl_i, tkl_l, tkl_r, s_ild7, s_if_ne, s_gf_10_1, s_ic, s_goto, LR, IR, true_and, and_true, Nat.reduceAdd, Nat.reduceSub, eq_self]
      refine ⟨vok_of (s := 10) (by assumption) rfl, ?_⟩
      refine sw_n (P := True) (Pre := fun M => 0 ≤ M r ((7 : Nat) : Int) ∧ M r ((7 : Nat) : Int) ≤ 32 ∧ 1 ≤ M r ((8 : Nat) : Int) ∧ M r ((8 : Nat) : Int) ≤ 32) (D := 1) (fun d' hd' => k_X8_settle (by assumption) (by omega) hd') (by omega) (fun M _ _ hg => by (simp (disch := decide) only [gE, gd, Nat.reduceEqDiff, reduceIte, reduceCtorEq] at hg; refine ⟨?_, ?_, ?_, ?_⟩ <;> omega)) ?_
      intro h102_
      try simp only [s_ald_0, s_gf_10_0, s_gf_10_3, s_iv1, tfr_0, tfr_1, tfr_2, tfr_3, tfr_4, s_ist7, tkl_n, tkl_i, tkl_l, tkl_r, s_ild7, s_if_ne, s_gf_10_1, s_ic, s_goto, LR, IR, true_and, and_true, Nat.reduceAdd, Nat.reduceSub, eq_self]
      refine ⟨by assumption, fun x104_ h104_ z104_ => ?_⟩
      refine ⟨by assumption, fun x106_ h106_ z106_ => ?_⟩
      refine ⟨vok_of (s := 3) (by assumption) rfl, ?_⟩
      refine sp_i (D := 1) (fun d' hd' => k_X1_against (by assumption) (by assumption) hd') (by omega) ?_
      intro x107_ h107_
      try simp only [s_ist7, tkl_n, tkl_i, tkl_l, tkl_r, s_ild7, s_if_ne, s_ald_0, s_gf_10_1, s_ic, s_goto, LR, IR, true_and, and_true, Nat.reduceAdd, Nat.reduceSub, eq_self]
      refine ⟨by omega, fun h110_ => ?_, fun h110_ => ?_⟩
      · exact sT_w (n86 _ (by omega) (by omega))
      refine ⟨by assumption, fun x112_ h112_ g112_ k112_ => ?_⟩
      simp (disch := decide) only [gk, gd, eq_self, true_imp_iff, false_imp_iff, and_true, true_and, Nat.reduceEqDiff, reduceIte, reduceCtorEq, ne_eq, not_false_eq_true] at k112_
      refine ⟨by omega, fun h113_ => ?_, fun h113_ => ?_⟩
      · exact sT_w (n86 _ (by omega) (by omega))
      exact sT_w (n87 _ _ (by omega) (by omega) (by omega))
  refine sblk (hv := false) kbl_X8_toRoot kbs_X8_toRoot (pc := 0) (pe := 23) (rk := 9) (i := 0) rfl (by decide +kernel) ?_
  simp only [kb_X8_toRoot_0, s_ald_0, s_gf_10_3, s_ald_1, s_iv1, tfr_0, tfr_1, tfr_2, tfr_3, tfr_4, s_ild_2, s_is2, s_lst_3, tkl_n, tkl_i, tkl_l, tkl_r, s_ic, s_ist5, s_ist6, s_nil, LR, IR, true_and, and_true, Nat.reduceAdd, Nat.reduceSub, eq_self]
  refine ⟨by assumption, fun x117_ h117_ z117_ => ?_⟩
  refine ⟨vok_of (s := 3) (by assumption) rfl, ?_⟩
  refine sc_n (D := 0) (fun d' hd' => k_X1_copy (by assumption) (by assumption) (by omega) hd') (by omega) ?_
  intro h119_
  try simp only [s_ald_0, s_gf_10_3, s_ild_2, s_is2, tfr_0, tfr_1, tfr_2, tfr_3, tfr_4, s_lst_3, tkl_n, tkl_i, tkl_l, tkl_r, s_ic, s_ist5, s_ist6, s_nil, LR, IR, true_and, and_true, Nat.reduceAdd, Nat.reduceSub, eq_self]
  refine ⟨by assumption, fun x121_ h121_ z121_ => ?_⟩
  refine sp_l (D := 4) (fun d' hd' => k_X8_guessRoot (by assumption) (by omega) (by omega) he hd') (by omega) ?_
  intro x123_ h123_
  try simp only [s_lst_3, tkl_n, tkl_i, tkl_l, tkl_r, s_ic, s_ist5, s_ist6, s_nil, LR, IR, true_and, and_true, Nat.reduceAdd, Nat.reduceSub, eq_self]
  exact sT_w (n23 4294967400 _ _ _ _ (by omega) (by omega) (by omega) (by omega))

theorem k_X8_toRoot_c {e : tE} {b : Nat} {d n : Nat} {r : Nat} {x1 : Nat} {x2 : Int} (h0 : cl r 10) (h1 : cl x1 3) (h2 : (-2147483648 ≤ x2 ∧ x2 ≤ 2147483647)) (hq : 2 ≤ x2 ∧ x2 ≤ 9) (he : EO e) (hb : b < 2 ∨ b = 6) (hd : 5 ≤ d) : sC e b d 2578 [.inr (.inr (.inl r)), .inr (.inr (.inl x1)), .inl x2] n (SQn n True) := fun M hC _ => tC_mono (k_X8_toRoot h0 h1 h2 hq he hb hd M hC trivial) (fun _ _ _ q => ⟨q.1, q.2.1, q.2.2.1, trivial⟩)
