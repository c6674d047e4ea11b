/-! WHAT HOLDS BETWEEN CALLS: a formula is read, kept by define. -/
/-- where the part of an act starts -/
def STI (N : tM) (r j : Nat) : Prop := ∃ s : Nat, N (r + 4) (j : Int) = (s : Int) ∧ s ≤ j ∧ hA (fA N r) s + 1 = hA (fA N r) (j + 1) ∧ ∀ q : Nat, s < q → q ≤ j → hA (fA N r) s + 1 ≤ hA (fA N r) q
theorem STI_u {N N1 : tM} {r j : Nat} (h : STI N r j) (f : ∀ i : Int, N1 (r + 1) i = N (r + 1) i) (g : N1 (r + 4) (j : Int) = N (r + 4) (j : Int)) : STI N1 r j := by
  have e : fA N1 r = fA N r := funext fun k => f (k : Int)
  unfold STI
  rw [e, g]
  exact h
theorem hA_leaf {A : Nat → Int} {j : Nat} (h : A j = 35 ∨ A j = 112 ∨ A j = 69 ∨ A j = 120 ∨ A j = 121) : hA A (j + 1) = hA A j + 1 := by rw [hA_s, if_pos h]
theorem hA_pair {A : Nat → Int} {j : Nat} (h : (A j = 43 ∨ A j = 45 ∨ A j = 42 ∨ A j = 47)) : hA A (j + 1) = hA A j - 1 := by rw [hA_s, if_neg (by omega), if_pos h]
theorem hA_one {A : Nat → Int} {j : Nat} (h : (A j = 126 ∨ A j = 114 ∨ A j = 101 ∨ A j = 108 ∨ A j = 97) ∨ A j = 94) : hA A (j + 1) = hA A j := by rw [hA_s, if_neg (by omega), if_neg (by omega)]
/-- which acts there are -/
theorem FOK_at {N : tM} {r c j : Nat} (h : FOK N r c) (hj : j < c) : (fA N r j = 35 ∨ fA N r j = 112 ∨ fA N r j = 69 ∨ fA N r j = 120 ∨ fA N r j = 121) ∨ ((fA N r j = 43 ∨ fA N r j = 45 ∨ fA N r j = 42 ∨ fA N r j = 47) ∧ 2 ≤ hA (fA N r) j) ∨ (((fA N r j = 126 ∨ fA N r j = 114 ∨ fA N r j = 101 ∨ fA N r j = 108 ∨ fA N r j = 97) ∨ fA N r j = 94) ∧ 1 ≤ hA (fA N r) j) := by
  obtain ⟨⟨h1, h2⟩, h3⟩ := h j hj
  have e : N (r + 1) (j : Int) = fA N r j := rfl
  rw [e] at h2 h3
  unfold AOK OOK at h2
  rcases h2 with ⟨q, _⟩ | q | q | q | q | ⟨q, q2⟩ | ⟨q, q2⟩
  · exact Or.inl (Or.inl q)
  · exact Or.inl (Or.inr (Or.inl q))
  · exact Or.inl (Or.inr (Or.inr (Or.inl q)))
  · exact Or.inl (Or.inr (Or.inr (Or.inr (Or.inl q))))
  · exact Or.inl (Or.inr (Or.inr (Or.inr (Or.inr q))))
  · exact Or.inr (Or.inl ⟨q, q2⟩)
  · refine Or.inr (Or.inr ⟨?_, q2⟩)
    rcases q with q | q | ⟨q, _⟩ | ⟨q, _⟩ | ⟨q, _⟩ | ⟨q, _⟩ | ⟨q, _⟩
    · exact Or.inl (Or.inl q)
    · exact absurd q h3
    · exact Or.inr q
    · exact Or.inl (Or.inr (Or.inl q))
    · exact Or.inl (Or.inr (Or.inr (Or.inl q)))
    · exact Or.inl (Or.inr (Or.inr (Or.inr (Or.inl q))))
    · exact Or.inl (Or.inr (Or.inr (Or.inr (Or.inr q))))
section HAND
variable {e : tE} {d n : Nat} {M : tM}
theorem tyf_26 : tyk 26 = (1, 1, 60) := rfl
theorem z_starts {r c : Nat} (hr : FMC r) (hc : M r 4 = (c : Int)) (hc60 : c ≤ 60) (h : FOK M r c) (hC : CI M) (hd : 2 ≤ d) : tC e d 1796 [.inr (.inr (.inl r))] M n (tQn n (fun M' => FPF r M M' ∧ (∀ (k : Nat) (i : Int), k ≠ r + 4 → M' k i = M k i) ∧ ∀ j : Nat, j < c → STI M' r j)) := by
  obtain ⟨t0, t1, t2, t3, t4, t5⟩ := FM_of hr
  have hr2 := FM_r hr
  refine tst_X5_findStarts ?_
  have nl : ∀ (fu : Nat) (N : tM) (j : Nat), c - j = fu → j ≤ c → FPF r M N → (∀ (k : Nat) (i : Int), k ≠ r + 4 → N k i = M k i) → (∀ q : Nat, q < j → STI N r q) → tT e d 1796 2 [some (.inr (.inr (.inl (r)))), some (.inl ((j : Int)))] [] N n (tQn n (fun M' => FPF r M M' ∧ (∀ (k : Nat) (i : Int), k ≠ r + 4 → M' k i = M k i) ∧ ∀ j : Nat, j < c → STI M' r j)) := by
    intro fu
    induction fu with
    | zero =>
      intro N j hf hj fN gN sN
      have e4 : N r 4 = (c : Int) := (gN r 4 (by omega)).trans hc
      refine tb_X5_findStarts_2 (c := false) ?_
      simp only [kb_X5_findStarts_2, w_ild_1, w_ald_0, w_gf_7_4, tw_f, w_ic_ge, w_gf_7_0, w_ca, w_is1, tfr_0, tfr_1, tfr_2, tfr_3, tfr_4, w_if_eq, w_gf_7_3, w_ic, w_isub, w_iv1, w_ias, ne_eq, eq_self, not_true_eq_false, false_implies, w_goto, true_and, and_true, Nat.reduceAdd, Nat.reduceSub, eq_self, tyk_7, tcq_7, tyk_42, tyk_28, tyk_43, tyx_15, tcq_60, tsx_1, tyx_12, tcx_12, tyf_26, t0, t1]
      rw [e4]
      repeat refine And.intro (by omega) ?_
      refine ⟨fun _ => ?_, fun q => absurd (by omega) q⟩
      refine tb_X5_findStarts_96 (c := false) ?_
      simp only [kb_X5_findStarts_96, w_re, true_and, and_true, Nat.reduceAdd, Nat.reduceSub, eq_self]
      exact ⟨rfl, rfl, fN, gN, fun q hq => sN q (by omega)⟩
    | succ fu ih =>
      intro N j hf hj fN gN sN
      have e4 : N r 4 = (c : Int) := (gN r 4 (by omega)).trans hc
      have hN : FOK N r c := FOK_u h (fun k i g1 g2 _ _ => gN k i (by omega))
      have jc : j < c := by omega
      have cls := FOK_at hN jc
      have ra : 0 ≤ N (r + 1) (j : Int) ∧ N (r + 1) (j : Int) ≤ 65535 := fm_c fN.1.1 (fm_0 (FM_7 hr)) (by omega) rfl
      have hle := hA_le (fA N r) j
      have ea : fA N r j = N (r + 1) (j : Int) := rfl
      -- the start is noted
      have n90 : ∀ s : Nat, s ≤ j → hA (fA N r) s + 1 = hA (fA N r) (j + 1) → (∀ q : Nat, s < q → q ≤ j → hA (fA N r) s + 1 ≤ hA (fA N r) q) → tT e d 1796 90 [some (.inr (.inr (.inl (r)))), some (.inl ((j : Int)))] [] (tU N (r + 4) (j : Int) (s : Int)) n (tQn n (fun M' => FPF r M M' ∧ (∀ (k : Nat) (i : Int), k ≠ r + 4 → M' k i = M k i) ∧ ∀ j : Nat, j < c → STI M' r j)) := by
        intro s s1 s2 s3
        have c2 : CI (tU N (r + 4) (j : Int) (s : Int)) := CI_put fN.1.1 t4 (fun _ => by show (-65536 : Int) ≤ (s : Int) ∧ (s : Int) ≤ 2147483647; omega)
        have p2 : pE 0 N (tU N (r + 4) (j : Int) (s : Int)) := pE_0 (by omega)
        have u2 : ∀ (k : Nat) (i : Int), k ≠ r + 4 → tU N (r + 4) (j : Int) (s : Int) k i = N k i := fun k i q => tU_nk q
        have u3 : ∀ i : Int, i ≠ (j : Int) → tU N (r + 4) (j : Int) (s : Int) (r + 4) i = N (r + 4) i := fun i q => tU_ni q
        have u4 : tU N (r + 4) (j : Int) (s : Int) (r + 4) (j : Int) = (s : Int) := tU_eq ..
        generalize tU N (r + 4) (j : Int) (s : Int) = N2 at *
        refine tb_X5_findStarts_90 (c := false) ?_
        simp only [kb_X5_findStarts_90, w_inc1, tkl_n, tkl_i, tkl_l, tkl_r, w_goto, true_and, and_true, Nat.reduceAdd, Nat.reduceSub, eq_self]
        repeat refine And.intro (by omega) ?_
        rw [show ((j : Nat) : Int) + 1 = ((j + 1 : Nat) : Int) by omega]
        refine ih N2 (j + 1) (by omega) (by omega) (FPF_tr fN ⟨⟨c2, p2⟩, fun k i g => u2 k i (by omega)⟩) (fun k i g => (u2 k i g).trans (gN k i g)) (fun q hq => ?_)
        by_cases qj : q = j
        · subst qj
          have e : fA N2 r = fA N r := funext fun k => u2 (r + 1) (k : Int) (by omega)
          refine ⟨s, u4, s1, ?_, ?_⟩
          · rw [e]
            exact s2
          · rw [e]
            exact s3
        · exact STI_u (sN q (by omega)) (fun i => u2 (r + 1) i (by omega)) (u3 (q : Int) (by omega))
      refine tb_X5_findStarts_2 (c := false) ?_
      simp only [kb_X5_findStarts_2, w_ild_1, w_ald_0, w_gf_7_4, tw_f, w_ic_ge, w_gf_7_0, w_ca, w_is1, tfr_0, tfr_1, tfr_2, tfr_3, tfr_4, w_if_eq, w_gf_7_3, w_ic, w_isub, w_iv1, w_ias, ne_eq, eq_self, not_true_eq_false, false_implies, w_goto, true_and, and_true, Nat.reduceAdd, Nat.reduceSub, eq_self, tyk_7, tcq_7, tyk_42, tyk_28, tyk_43, tyx_15, tcq_60, tsx_1, tyx_12, tcx_12, tyf_26, t0, t1]
      rw [e4]
      repeat refine And.intro (by omega) ?_
      first | refine ⟨fun q => absurd q (by omega), fun _ => ?_⟩ | refine fun _ => ?_
      repeat refine And.intro (by omega) ?_
      refine tc_i (D := 0) (fun d' hd' => z_isPair ra) (by omega) ?_
      rintro z1 M2 ⟨g1, rfl⟩
      have rz : 0 ≤ z1 ∧ z1 ≤ 1 := by rcases g1 with ⟨q, _⟩ | ⟨q, _⟩ <;> rw [q] <;> decide
      try simp only [kb_X5_findStarts_2, w_ild_1, w_ald_0, w_gf_7_4, tw_f, w_ic_ge, w_gf_7_0, w_ca, w_is1, tfr_0, tfr_1, tfr_2, tfr_3, tfr_4, w_if_eq, w_gf_7_3, w_ic, w_isub, w_iv1, w_ias, ne_eq, eq_self, not_true_eq_false, false_implies, w_goto, true_and, and_true, Nat.reduceAdd, Nat.reduceSub, eq_self, tyk_7, tcq_7, tyk_42, tyk_28, tyk_43, tyx_15, tcq_60, tsx_1, tyx_12, tcx_12, tyf_26, t0, t1]
      repeat refine And.intro (by omega) ?_
      refine ⟨fun q => ?_, fun q => ?_⟩
      · -- no pair
        have np : ¬ (fA M2 r j = 43 ∨ fA M2 r j = 45 ∨ fA M2 r j = 42 ∨ fA M2 r j = 47) := by
          rcases g1 with ⟨q2, _⟩ | ⟨_, q2⟩
          · omega
          · exact q2
        -- of one
        have n67 : ((fA M2 r j = 126 ∨ fA M2 r j = 114 ∨ fA M2 r j = 101 ∨ fA M2 r j = 108 ∨ fA M2 r j = 97) ∨ fA M2 r j = 94) → tT e d 1796 67 [some (.inr (.inr (.inl (r)))), some (.inl ((j : Int)))] [] M2 n (tQn n (fun M' => FPF r M M' ∧ (∀ (k : Nat) (i : Int), k ≠ r + 4 → M' k i = M k i) ∧ ∀ j : Nat, j < c → STI M' r j)) := by
          intro ha
          have h1 : 1 ≤ hA (fA M2 r) j := by
            rcases cls with g | ⟨g, _⟩ | ⟨_, g⟩
            · omega
            · exact absurd g np
            · exact g
          obtain ⟨s, s1, s2, s3, s4⟩ := sN (j - 1) (by omega)
          rw [show j - 1 + 1 = j by omega] at s3
          refine tb_X5_findStarts_67 (c := false) ?_
          simp only [kb_X5_findStarts_67, w_ald_0, w_gf_7_3, tw_f, w_ild_1, w_ic, w_isub, w_iv1, tfr_0, tfr_1, tfr_2, tfr_3, tfr_4, w_ias, ne_eq, eq_self, not_true_eq_false, false_implies, w_goto, true_and, and_true, Nat.reduceAdd, Nat.reduceSub, eq_self, tyk_7, tcq_7, tyk_42, tyk_28, tyk_43, tyx_15, tcq_60, tsx_1, tyx_12, tcx_12, tyf_26, t0, t4]
          repeat refine And.intro (by omega) ?_
          rw [show ((j : Nat) : Int) - 1 = ((j - 1 : Nat) : Int) by omega]
          refine tc_i (D := 1) (fun d' hd' => z_startOf hr (by omega) hd') (by omega) ?_
          rintro z2 M3 ⟨hz2, rfl⟩
          rw [s1] at hz2
          subst hz2
          try simp only [kb_X5_findStarts_67, w_ald_0, w_gf_7_3, tw_f, w_ild_1, w_ic, w_isub, w_iv1, tfr_0, tfr_1, tfr_2, tfr_3, tfr_4, w_ias, ne_eq, eq_self, not_true_eq_false, false_implies, w_goto, true_and, and_true, Nat.reduceAdd, Nat.reduceSub, eq_self, tyk_7, tcq_7, tyk_42, tyk_28, tyk_43, tyx_15, tcq_60, tsx_1, tyx_12, tcx_12, tyf_26, t0, t4]
          repeat refine And.intro (by omega) ?_
          refine n90 s (by omega) (by rw [hA_one ha]; exact s3) (fun q q1 q2 => ?_)
          rcases Nat.lt_or_ge (j - 1) q with g | g
          · rw [show q = j by omega]
            omega
          · exact s4 q q1 g
        refine tb_X5_findStarts_44 (c := false) ?_
        simp only [kb_X5_findStarts_44, w_ald_0, w_gf_7_0, tw_f, w_ild_1, w_ca, w_is1, tfr_0, tfr_1, tfr_2, tfr_3, tfr_4, w_if_ne, w_bi, w_ic_ne, w_nil, true_and, and_true, Nat.reduceAdd, Nat.reduceSub, eq_self, tyk_7, tcq_7, tyk_42, tyk_28, tyk_43, tyx_15, tcq_60, tsx_1, tyx_12, tcx_12, tyf_26, t0, t1]
        repeat refine And.intro (by omega) ?_
        refine tc_i (D := 0) (fun d' hd' => z_isAhead ra) (by omega) ?_
        rintro z2 M3 ⟨g2, rfl⟩
        have rz2 : 0 ≤ z2 ∧ z2 ≤ 1 := by rcases g2 with ⟨q, _⟩ | ⟨q, _⟩ <;> rw [q] <;> decide
        try simp only [kb_X5_findStarts_44, w_ald_0, w_gf_7_0, tw_f, w_ild_1, w_ca, w_is1, tfr_0, tfr_1, tfr_2, tfr_3, tfr_4, w_if_ne, w_bi, w_ic_ne, w_nil, true_and, and_true, Nat.reduceAdd, Nat.reduceSub, eq_self, tyk_7, tcq_7, tyk_42, tyk_28, tyk_43, tyx_15, tcq_60, tsx_1, tyx_12, tcx_12, tyf_26, t0, t1]
        repeat refine And.intro (by omega) ?_
        refine ⟨fun q2 => ?_, fun q2 => ?_⟩
        · refine n67 (Or.inl ?_)
          rcases g2 with ⟨_, q3⟩ | ⟨q3, _⟩
          · exact q3
          · omega
        have na : ¬ (fA M3 r j = 126 ∨ fA M3 r j = 114 ∨ fA M3 r j = 101 ∨ fA M3 r j = 108 ∨ fA M3 r j = 97) := by
          rcases g2 with ⟨q3, _⟩ | ⟨_, q3⟩
          · omega
          · exact q3
        try simp only [kb_X5_findStarts_44, w_ald_0, w_gf_7_0, tw_f, w_ild_1, w_ca, w_is1, tfr_0, tfr_1, tfr_2, tfr_3, tfr_4, w_if_ne, w_bi, w_ic_ne, w_nil, true_and, and_true, Nat.reduceAdd, Nat.reduceSub, eq_self, tyk_7, tcq_7, tyk_42, tyk_28, tyk_43, tyx_15, tcq_60, tsx_1, tyx_12, tcx_12, tyf_26, t0, t1]
        repeat refine And.intro (by omega) ?_
        refine ⟨fun q4 => ?_, fun q4 => n67 (Or.inr (by omega))⟩
        have lf : fA M3 r j = 35 ∨ fA M3 r j = 112 ∨ fA M3 r j = 69 ∨ fA M3 r j = 120 ∨ fA M3 r j = 121 := by
          rcases cls with g | ⟨g, _⟩ | ⟨g | g, _⟩
          · exact g
          · exact absurd g np
          · exact absurd g na
          · omega
        refine tb_X5_findStarts_83 (c := false) ?_
        simp only [kb_X5_findStarts_83, w_ald_0, w_gf_7_3, tw_f, w_ild_1, w_ias, ne_eq, eq_self, not_true_eq_false, false_implies, w_nil, true_and, and_true, Nat.reduceAdd, Nat.reduceSub, eq_self, tyk_7, tcq_7, tyk_42, tyk_28, tyk_43, tyx_15, tcq_60, tsx_1, tyx_12, tcx_12, tyf_26, t0, t4]
        repeat refine And.intro (by omega) ?_
        exact n90 j (Nat.le_refl _) (hA_leaf lf).symm (fun q q1 q2 => absurd q1 (by omega))
      · -- a pair
        have pr : (fA M2 r j = 43 ∨ fA M2 r j = 45 ∨ fA M2 r j = 42 ∨ fA M2 r j = 47) := by
          rcases g1 with ⟨_, q2⟩ | ⟨q2, _⟩
          · exact q2
          · omega
        have h2 : 2 ≤ hA (fA M2 r) j := by
          rcases cls with g | ⟨_, g⟩ | ⟨g, _⟩
          · omega
          · exact g
          · omega
        obtain ⟨s, s1, s2, s3, s4⟩ := sN (j - 1) (by omega)
        rw [show j - 1 + 1 = j by omega] at s3
        have sle := hA_le (fA M2 r) s
        obtain ⟨s', v1, v2, v3, v4⟩ := sN (s - 1) (by omega)
        rw [show s - 1 + 1 = s by omega] at v3
        try simp only [kb_X5_findStarts_2, w_ild_1, w_ald_0, w_gf_7_4, tw_f, w_ic_ge, w_gf_7_0, w_ca, w_is1, tfr_0, tfr_1, tfr_2, tfr_3, tfr_4, w_if_eq, w_gf_7_3, w_ic, w_isub, w_iv1, w_ias, ne_eq, eq_self, not_true_eq_false, false_implies, w_goto, true_and, and_true, Nat.reduceAdd, Nat.reduceSub, eq_self, tyk_7, tcq_7, tyk_42, tyk_28, tyk_43, tyx_15, tcq_60, tsx_1, tyx_12, tcx_12, tyf_26, t0, t4]
        repeat refine And.intro (by omega) ?_
        rw [show ((j : Nat) : Int) - 1 = ((j - 1 : Nat) : Int) by omega]
        refine tc_i (D := 1) (fun d' hd' => z_startOf hr (by omega) hd') (by omega) ?_
        rintro z2 M3 ⟨hz2, rfl⟩
        rw [s1] at hz2
        subst hz2
        try simp only [kb_X5_findStarts_2, w_ild_1, w_ald_0, w_gf_7_4, tw_f, w_ic_ge, w_gf_7_0, w_ca, w_is1, tfr_0, tfr_1, tfr_2, tfr_3, tfr_4, w_if_eq, w_gf_7_3, w_ic, w_isub, w_iv1, w_ias, ne_eq, eq_self, not_true_eq_false, false_implies, w_goto, true_and, and_true, Nat.reduceAdd, Nat.reduceSub, eq_self, tyk_7, tcq_7, tyk_42, tyk_28, tyk_43, tyx_15, tcq_60, tsx_1, tyx_12, tcx_12, tyf_26, t0, t4]
        repeat refine And.intro (by omega) ?_
        rw [show ((s : Nat) : Int) - 1 = ((s - 1 : Nat) : Int) by omega]
        refine tc_i (D := 1) (fun d' hd' => z_startOf hr (by omega) hd') (by omega) ?_
        rintro z3 M4 ⟨hz3, rfl⟩
        rw [v1] at hz3
        subst hz3
        try simp only [kb_X5_findStarts_2, w_ild_1, w_ald_0, w_gf_7_4, tw_f, w_ic_ge, w_gf_7_0, w_ca, w_is1, tfr_0, tfr_1, tfr_2, tfr_3, tfr_4, w_if_eq, w_gf_7_3, w_ic, w_isub, w_iv1, w_ias, ne_eq, eq_self, not_true_eq_false, false_implies, w_goto, true_and, and_true, Nat.reduceAdd, Nat.reduceSub, eq_self, tyk_7, tcq_7, tyk_42, tyk_28, tyk_43, tyx_15, tcq_60, tsx_1, tyx_12, tcx_12, tyf_26, t0, t4]
        repeat refine And.intro (by omega) ?_
        refine n90 s' (by omega) (by rw [hA_pair pr]; omega) (fun q q1 q2 => ?_)
        rcases Nat.lt_or_ge (j - 1) q with g | g
        · rw [show q = j by omega]
          omega
        rcases Nat.lt_or_ge s q with g2 | g2
        · have := s4 q g2 g
          omega
        rcases Nat.lt_or_ge (s - 1) q with g3 | g3
        · rw [show q = s by omega]
          omega
        · exact v4 q q1 g3
  refine tb_X5_findStarts_0 (c := false) ?_
  simp only [kb_X5_findStarts_0, w_ic, w_ist_1, tkl_n, tkl_i, tkl_l, tkl_r, w_nil, true_and, and_true, Nat.reduceAdd, Nat.reduceSub, eq_self]
  exact nl c M 0 rfl (by omega) (FPF_refl hC) (fun _ _ _ => rfl) (fun q hq => absurd hq (by omega))
/-- what a formula's text leaves -/
def PAR (r : Nat) (M M' : tM) : Prop := FPF r M M' ∧ (M' r 6 = 1 → (∃ c : Nat, WFF M' r c) ∧ STF M' r)
theorem z_parse {r : Nat} (hr : FMC r) (hC : CI M) (hd : 5 ≤ d) : tC e d 1803 [.inr (.inr (.inl r)), .inr (.inr (.inl 1))] M n (tQi n (fun z M' => (-2147483648 ≤ z ∧ z ≤ 2147483647) ∧ PAR r M M')) := by
  obtain ⟨t0, t1, t2, t3, t4, t5⟩ := FM_of hr
  have hr2 := FM_r hr
  have tr := tx_r hC
  obtain ⟨T, hT⟩ : ∃ T : Nat, M 1 1 = (T : Int) := ⟨(M 1 1).toNat, by omega⟩
  refine tst_X5_parse ?_
  have nP : ∀ N : tM, CI N → (-2147483648 ≤ N r 9 ∧ N r 9 ≤ 2147483647) := fun N hN => fm_c hN (FM_7 hr) (by decide) rfl
  have n0 : ∀ N : tM, FPF r M N → N r 6 = 0 → PAR r M N := fun N f g => ⟨f, fun q => absurd (g.symm.trans q) (by decide)⟩
  have n90 : ∀ (N : tM) (c w b p : Nat) (j : Int) (w3 : Option tV), FPF r M N → N r 6 = 0 → FPI N r c w b → c + w ≤ p → p ≤ T → N r 10 = 1 - (b : Int) → tT e d 1803 90 [some (.inr (.inr (.inl (r)))), some (.inr (.inr (.inl (1)))), some (.inl (j)), w3] [] N n (tQi n (fun z M' => (-2147483648 ≤ z ∧ z ≤ 2147483647) ∧ PAR r M M')) := by
    intro N c w b p j w3 fN e6 hN hp hpT e10
    have r10 : 0 ≤ N r 10 ∧ N r 10 ≤ 1 := fm_c fN.1.1 (FM_7 hr) (by decide) rfl
    have rp := nP N fN.1.1
    refine tb_X5_parse_90 (c := false) ?_
    simp only [kb_X5_parse_90, w_ald_0, w_gf_7_10, tw_f, w_if_eq, w_gf_7_9, w_ire, trg, true_and, and_true, Nat.reduceAdd, Nat.reduceSub, eq_self, tyk_7, tcq_7, tyk_42, tyk_28, tyk_43, tyx_15, tcq_60, tsx_1, tyx_12, tcx_12, tyf_26, t0]
    repeat refine And.intro (by omega) ?_
    refine ⟨fun q => ?_, fun q => ?_⟩
    rotate_left
    · exact ⟨_, rfl, rfl, rp, n0 N fN e6⟩
    obtain rfl : b = 1 := by omega
    refine tb_X5_parse_102 (c := false) ?_
    simp only [kb_X5_parse_102, w_ald_0, w_iv0, tfr_0, tfr_1, tfr_2, tfr_3, tfr_4, w_gf_7_8, tw_f, w_if_le, w_gf_7_9, w_ire, trg, true_and, and_true, Nat.reduceAdd, Nat.reduceSub, eq_self, tyk_7, tcq_7, tyk_42, tyk_28, tyk_43, tyx_15, tcq_60, tsx_1, tyx_12, tcx_12, tyf_26, t0]
    refine tc_n (D := 2) (fun d' hd' => z_relP hr hN (by omega) fN.1.1 hd') (by omega) ?_
    rintro N1 ⟨f1, g1, c1, w1, q1, h1⟩
    try simp only [kb_X5_parse_102, w_ald_0, w_iv0, tfr_0, tfr_1, tfr_2, tfr_3, tfr_4, w_gf_7_8, tw_f, w_if_le, w_gf_7_9, w_ire, trg, true_and, and_true, Nat.reduceAdd, Nat.reduceSub, eq_self, tyk_7, tcq_7, tyk_42, tyk_28, tyk_43, tyx_15, tcq_60, tsx_1, tyx_12, tcx_12, tyf_26, t0]
    refine tc_n (D := 2) (fun d' hd' => z_relS hr h1 (by omega) f1.1.1 hd') (by omega) ?_
    rintro N2 ⟨f2, g2, c2, w2, q2, h2⟩
    have ff := FPF_tr fN (FPF_tr f1 f2)
    have e62 : N2 r 6 = 0 := (g2 6 (by decide) (by decide)).trans ((g1 6 (by decide) (by decide)).trans e6)
    have e8 := h2.1.1.2
    have w60 := h2.1.2.2
    have rp2 := nP N2 ff.1.1
    try simp only [kb_X5_parse_102, w_ald_0, w_iv0, tfr_0, tfr_1, tfr_2, tfr_3, tfr_4, w_gf_7_8, tw_f, w_if_le, w_gf_7_9, w_ire, trg, true_and, and_true, Nat.reduceAdd, Nat.reduceSub, eq_self, tyk_7, tcq_7, tyk_42, tyk_28, tyk_43, tyx_15, tcq_60, tsx_1, tyx_12, tcx_12, tyf_26, t0]
    rw [e8]
    repeat refine And.intro (by omega) ?_
    refine ⟨fun q3 => ?_, fun q3 => ?_⟩
    rotate_left
    · exact ⟨_, rfl, rfl, rp2, n0 N2 ff e62⟩
    obtain rfl : w2 = 0 := by omega
    refine tb_X5_parse_122 (c := false) ?_
    simp only [kb_X5_parse_122, w_ald_0, w_iv0, tfr_0, tfr_1, tfr_2, tfr_3, tfr_4, w_ic, w_pf_7_6, w_ire, trg, true_and, and_true, Nat.reduceAdd, Nat.reduceSub, eq_self, tyk_7, tcq_7, tyk_42, tyk_28, tyk_43, tyx_15, tcq_60, tsx_1, tyx_12, tcx_12, tyf_26, t0]
    refine tc_n (D := 2) (fun d' hd' => z_starts hr h2.1.1.1 h2.1.2.1 h2.2.1 ff.1.1 hd') (by omega) ?_
    rintro N3 ⟨f3, g3, s3⟩
    have f4 := FPF_put (f := 6) (v := 1) hr (fun _ => by show (0 : Int) ≤ 1 ∧ (1 : Int) ≤ 1; decide) f3.1.1
    have u4 : ∀ (k : Nat) (i : Int), ¬ (k = r ∧ i = 6) → tU N3 r 6 1 k i = N3 k i := fun k i q => if_neg q
    try simp only [kb_X5_parse_122, w_ald_0, w_iv0, tfr_0, tfr_1, tfr_2, tfr_3, tfr_4, w_ic, w_pf_7_6, w_ire, trg, true_and, and_true, Nat.reduceAdd, Nat.reduceSub, eq_self, tyk_7, tcq_7, tyk_42, tyk_28, tyk_43, tyx_15, tcq_60, tsx_1, tyx_12, tcx_12, tyf_26, t0]
    generalize tU N3 r 6 1 = N4 at *
    have uu : ∀ (k : Nat) (i : Int), ¬ (k = r ∧ i = 6) → k ≠ r + 4 → N4 k i = N2 k i := fun k i a b => (u4 k i a).trans (g3 k i b)
    have h4 : FPI N4 r c2 0 1 := by
      obtain ⟨⟨⟨a1, a2⟩, a3, a4⟩, a5, a6⟩ := h2
      refine ⟨⟨⟨(uu r 4 (by omega) (by omega)).trans a1, (uu r 8 (by omega) (by omega)).trans a2⟩, a3, a4⟩, FOK_u a5 (fun k i b1 b2 _ _ => uu k i (by omega) (by omega)), ?_⟩
      have e1 : hA (fA N4 r) c2 = hA (fA N2 r) c2 := hA_u c2 (fun j _ => uu (r + 1) (j : Int) (by omega) (by omega))
      rw [e1, a6]
      rfl
    refine ⟨by decide, _, rfl, rfl, by decide, FPF_tr ff (FPF_tr f3 f4), fun _ => ⟨⟨c2, ⟨h4.1.1.1, h4.1.2.1⟩, fun k hk => (h4.2.1 k hk).1, ?_⟩, ?_⟩⟩
    · have q := h4.2.2
      exact q
    · intro k hk
      rw [h4.1.1.1] at hk
      exact STI_u (s3 k (by omega)) (fun i => u4 (r + 1) i (by omega)) (u4 (r + 4) (k : Int) (by omega))
  have nl : ∀ (fu : Nat) (N : tM) (j c w b p : Nat) (w3 : Option tV), 60 - j = fu → j ≤ 60 → FPF r M N → N r 6 = 0 → FPI N r c w b → c + w ≤ p → N r 9 = (p : Int) → p ≤ T → N r 10 = 1 - (b : Int) → tT e d 1803 37 [some (.inr (.inr (.inl (r)))), some (.inr (.inr (.inl (1)))), some (.inl ((j : Int))), w3] [] N n (tQi n (fun z M' => (-2147483648 ≤ z ∧ z ≤ 2147483647) ∧ PAR r M M')) := by
    intro fu
    induction fu with
    | zero =>
      intro N j c w b p w3 hf hj fN e6 hN hp e9 hpT e10
      refine tb_X5_parse_37 (c := false) ?_
      simp only [kb_X5_parse_37, w_ild_2, w_bi, w_ic_ge, w_ald_0, w_gf_7_9, tw_f, w_ald_1, w_gf_12_1, w_gf_7_10, w_if_eq, w_iv1, tfr_0, tfr_1, tfr_2, tfr_3, tfr_4, w_goto, true_and, and_true, Nat.reduceAdd, Nat.reduceSub, eq_self, tyk_7, tcq_7, tyk_42, tyk_28, tyk_43, tyx_15, tcq_60, tsx_1, tyx_12, tcx_12, tyf_26, t0]
      repeat refine And.intro (by omega) ?_
      refine ⟨fun _ => n90 N c w b p _ w3 fN e6 hN hp hpT e10, fun q => absurd (by omega) q⟩
    | succ fu ih =>
      intro N j c w b p w3 hf hj fN e6 hN hp e9 hpT e10
      have e11 : N 1 1 = (T : Int) := (fN.2 1 1 (by omega)).trans hT
      have r10 : 0 ≤ N r 10 ∧ N r 10 ≤ 1 := fm_c fN.1.1 (FM_7 hr) (by decide) rfl
      have n74 : ∀ (N1 : tM) (z : Int), TKP r T N N1 z → tT e d 1803 74 [some (.inr (.inr (.inl (r)))), some (.inr (.inr (.inl (1)))), some (.inl ((j : Int))), w3] [.inl z] N1 n (tQi n (fun z M' => (-2147483648 ≤ z ∧ z ≤ 2147483647) ∧ PAR r M M')) := by
        rintro N1 z ⟨rz, f1, g6, hz⟩
        have rp := nP N1 f1.1.1
        have ff := FPF_tr fN f1
        refine tb_X5_parse_74 (c := false) ?_
        simp only [kb_X5_parse_74, w_ist_3, tkl_n, tkl_i, tkl_l, tkl_r, w_ild_3, w_if_ne, w_ald_0, w_gf_7_9, tw_f, w_ire, trg, true_and, and_true, Nat.reduceAdd, Nat.reduceSub, eq_self, tyk_7, tcq_7, tyk_42, tyk_28, tyk_43, tyx_15, tcq_60, tsx_1, tyx_12, tcx_12, tyf_26, t0]
        repeat refine And.intro (by omega) ?_
        refine ⟨fun q => ?_, fun q => ?_⟩
        rotate_left
        · exact ⟨_, rfl, rfl, rp, n0 N1 ff (g6.trans e6)⟩
        obtain ⟨c1, w1, b1, p1, h1, h2, h3, h4, h5⟩ := hz (by omega)
        clear hz
        refine tb_X5_parse_84 (c := false) ?_
        simp only [kb_X5_parse_84, w_inc2, tkl_n, tkl_i, tkl_l, tkl_r, w_goto, true_and, and_true, Nat.reduceAdd, Nat.reduceSub, eq_self]
        repeat refine And.intro (by omega) ?_
        rw [show ((j : Nat) : Int) + 1 = ((j + 1 : Nat) : Int) by omega]
        exact ih N1 (j + 1) c1 w1 b1 p1 _ (by omega) (by omega) ff (g6.trans e6) h1 h2 h3 h4 h5
      refine tb_X5_parse_37 (c := false) ?_
      simp only [kb_X5_parse_37, w_ild_2, w_bi, w_ic_ge, w_ald_0, w_gf_7_9, tw_f, w_ald_1, w_gf_12_1, w_gf_7_10, w_if_eq, w_iv1, tfr_0, tfr_1, tfr_2, tfr_3, tfr_4, w_goto, true_and, and_true, Nat.reduceAdd, Nat.reduceSub, eq_self, tyk_7, tcq_7, tyk_42, tyk_28, tyk_43, tyx_15, tcq_60, tsx_1, tyx_12, tcx_12, tyf_26, t0]
      rw [e9, e11]
      repeat refine And.intro (by omega) ?_
      first | refine ⟨fun q => absurd q (by omega), fun _ => ?_⟩ | refine fun _ => ?_
      repeat refine And.intro (by omega) ?_
      refine ⟨fun _ => n90 N c w b p _ w3 fN e6 hN hp hpT e10, fun q => ?_⟩
      repeat refine And.intro (by omega) ?_
      refine ⟨fun q2 => ?_, fun q2 => ?_⟩
      · obtain rfl : b = 1 := by omega
        refine tb_X5_parse_69 (c := false) ?_
        simp only [kb_X5_parse_69, w_ald_0, w_ald_1, w_iv1, tfr_0, tfr_1, tfr_2, tfr_3, tfr_4, w_nil, true_and, and_true, Nat.reduceAdd, Nat.reduceSub, eq_self, tyk_7, tcq_7, tyk_42, tyk_28, tyk_43, tyx_15, tcq_60, tsx_1, tyx_12, tcx_12, tyf_26, t0]
        refine tc_i (D := 4) (fun d' hd' => z_tAct hr hN hp e9 e11 (by omega) (by omega) fN.1.1 hd') (by omega) ?_
        intro z N1 g1
        try simp only [kb_X5_parse_69, w_ald_0, w_ald_1, w_iv1, tfr_0, tfr_1, tfr_2, tfr_3, tfr_4, w_nil, true_and, and_true, Nat.reduceAdd, Nat.reduceSub, eq_self, tyk_7, tcq_7, tyk_42, tyk_28, tyk_43, tyx_15, tcq_60, tsx_1, tyx_12, tcx_12, tyf_26, t0]
        exact n74 N1 z g1
      · obtain rfl : b = 0 := by omega
        try simp only [kb_X5_parse_37, w_ild_2, w_bi, w_ic_ge, w_ald_0, w_gf_7_9, tw_f, w_ald_1, w_gf_12_1, w_gf_7_10, w_if_eq, w_iv1, tfr_0, tfr_1, tfr_2, tfr_3, tfr_4, w_goto, true_and, and_true, Nat.reduceAdd, Nat.reduceSub, eq_self, tyk_7, tcq_7, tyk_42, tyk_28, tyk_43, tyx_15, tcq_60, tsx_1, tyx_12, tcx_12, tyf_26, t0]
        refine tc_i (D := 4) (fun d' hd' => z_tAtm hr hN hp e9 e11 (by omega) (by omega) fN.1.1 hd') (by omega) ?_
        intro z N1 g1
        try simp only [kb_X5_parse_37, w_ild_2, w_bi, w_ic_ge, w_ald_0, w_gf_7_9, tw_f, w_ald_1, w_gf_12_1, w_gf_7_10, w_if_eq, w_iv1, tfr_0, tfr_1, tfr_2, tfr_3, tfr_4, w_goto, true_and, and_true, Nat.reduceAdd, Nat.reduceSub, eq_self, tyk_7, tcq_7, tyk_42, tyk_28, tyk_43, tyx_15, tcq_60, tsx_1, tyx_12, tcx_12, tyf_26, t0]
        exact n74 N1 z g1
  have b0 : (0 : Int) ≤ 0 ∧ (0 : Int) ≤ 60 := by decide
  have b1 : (0 : Int) ≤ 0 ∧ (0 : Int) ≤ 1 := by decide
  have b2 : (0 : Int) ≤ 1 ∧ (1 : Int) ≤ 1 := by decide
  have b3 : (-2147483648 : Int) ≤ 0 ∧ (0 : Int) ≤ 2147483647 := by decide
  have f1 := FPF_put (f := 4) (v := 0) hr (fun _ => b0) hC
  have f2 := FPF_put (f := 5) (v := 0) hr (fun _ => b1) f1.1.1
  have f3 := FPF_put (f := 6) (v := 0) hr (fun _ => b1) f2.1.1
  have f4 := FPF_put (f := 8) (v := 0) hr (fun _ => b0) f3.1.1
  have f5 := FPF_put (f := 9) (v := 0) hr (fun _ => b3) f4.1.1
  have f6 := FPF_put (f := 10) (v := 1) hr (fun _ => b2) f5.1.1
  have f7 := FPF_put (f := 11) (v := 0) hr (fun _ => b1) f6.1.1
  have ff := FPF_tr f1 (FPF_tr f2 (FPF_tr f3 (FPF_tr f4 (FPF_tr f5 (FPF_tr f6 f7)))))
  have s4 : (tU (tU (tU (tU (tU (tU (tU M r 4 0) r 5 0) r 6 0) r 8 0) r 9 0) r 10 1) r 11 0) r 4 = 0 := by simp (disch := decide) only [tU_ni, tU_eq]
  have s6 : (tU (tU (tU (tU (tU (tU (tU M r 4 0) r 5 0) r 6 0) r 8 0) r 9 0) r 10 1) r 11 0) r 6 = 0 := by simp (disch := decide) only [tU_ni, tU_eq]
  have s8 : (tU (tU (tU (tU (tU (tU (tU M r 4 0) r 5 0) r 6 0) r 8 0) r 9 0) r 10 1) r 11 0) r 8 = 0 := by simp (disch := decide) only [tU_ni, tU_eq]
  have s9 : (tU (tU (tU (tU (tU (tU (tU M r 4 0) r 5 0) r 6 0) r 8 0) r 9 0) r 10 1) r 11 0) r 9 = 0 := by simp (disch := decide) only [tU_ni, tU_eq]
  have s10 : (tU (tU (tU (tU (tU (tU (tU M r 4 0) r 5 0) r 6 0) r 8 0) r 9 0) r 10 1) r 11 0) r 10 = 1 := by simp (disch := decide) only [tU_ni, tU_eq]
  clear f1 f2 f3 f4 f5 f6 f7
  refine tb_X5_parse_0 (c := false) ?_
  simp only [kb_X5_parse_0, w_ald_0, w_ic, w_pf_7_4, w_pf_7_5, w_pf_7_6, w_pf_7_8, w_pf_7_9, w_pf_7_10, w_pf_7_11, w_ist_2, tkl_n, tkl_i, tkl_l, tkl_r, w_nil, true_and, and_true, Nat.reduceAdd, Nat.reduceSub, eq_self, tyk_7, tcq_7, tyk_42, tyk_28, tyk_43, tyx_15, tcq_60, tsx_1, tyx_12, tcx_12, tyf_26, t0]
  generalize (tU (tU (tU (tU (tU (tU (tU M r 4 0) r 5 0) r 6 0) r 8 0) r 9 0) r 10 1) r 11 0) = M7 at *
  refine ⟨by decide, by decide, by decide, by decide, ?_⟩
  exact nl 60 M7 0 0 0 0 0 _ rfl (by decide) ff s6 ⟨⟨⟨s4, s8⟩, by decide, by decide⟩, fun k hk => absurd hk (by omega), rfl⟩ (by decide) s9 (by omega) s10
/-- a formula that is read comes into its place -/
theorem KA_par {r : Nat} {M1 : tM} (hr : FMC r) (h : KW M) (f : PAR r M M1) : KA M M1 := by
  obtain ⟨f, g⟩ := f
  have hr2 := FM_r hr
  refine ⟨f.1, ?_⟩
  obtain ⟨⟨⟨h1, h2⟩, h3, h4⟩, ⟨h5, h6⟩, h7⟩ := h
  have fr : ∀ q : Nat, FMC q → q ≠ r → ∀ (k : Nat) (i : Int), q ≤ k ∧ k ≤ q + 5 → M1 k i = M k i := fun q hq hn k i g => f.2 k i (by unfold FMC at hr hq; omega)
  refine ⟨⟨⟨UN_f h1 f.1.2, RO_u h2 (f.2 79 4 (by omega)) (f.2 79 5 (by omega))⟩, fun s hs => BXG_f (h3 s hs) (fun i => f.2 _ _ (by omega)) (fun i => f.2 _ _ (by omega)), fun q hq hd => ?_⟩, ⟨fun k hk => BXG_f (h5 k hk) (fun i => f.2 _ _ (by omega)) (fun i => f.2 _ _ (by omega)), fun k hk => BXG_f (h6 k hk) (fun i => f.2 _ _ (by omega)) (fun i => f.2 _ _ (by omega))⟩, fun q hq hd => ?_⟩
  · by_cases e1 : q = r
    · subst e1
      exact (g hd).1
    · rw [fr q hq e1 q 6 (by omega)] at hd
      obtain ⟨c, hc⟩ := h4 q hq hd
      exact ⟨c, WFF_f hc (fr q hq e1)⟩
  · by_cases e1 : q = r
    · subst e1
      exact (g hd).2
    · rw [fr q hq e1 q 6 (by omega)] at hd
      exact STF_f (h7 q hq hd) (fr q hq e1)
theorem v_define {x1 : Int} (h1 : (-2147483648 ≤ x1 ∧ x1 ≤ 2147483647)) (hK : KW M) (hC : CI M) (hd : 6 ≤ d) : tC e d 3353 [.inr (.inr (.inl 0)), .inl x1] M n (tQx n (tQi n (fun z M' => (-2147483648 ≤ z ∧ z ≤ 2147483647) ∧ KA M M')) (fun _ M' => KA M M')) := by
  have sp : ∀ N : tM, CI N → cl (N 0 6).toNat 7 := fun N hN => by
    have hc := hN.1 0 6 (by decide) (by decide)
    rw [tsh_0] at hc
    exact hc
  have h06 := sp M hC
  have s06 := h06.1
  refine tst_X11_define ?_
  refine tb_X11_define_0 (c := true) ?_
  simp only [kb_X11_define_0, w_ald_0, w_ild_1, w_iv1, tfr_0, tfr_1, tfr_2, tfr_3, tfr_4, w_gf_13_6, tw_t, w_gf_13_1, w_ist_2, tkl_n, tkl_i, tkl_l, tkl_r, w_iv0, w_ild_2, w_if_lt, w_ic, w_isub, w_ire, trg, w64_r, true_and, and_true, Nat.reduceAdd, Nat.reduceSub, eq_self, tsh_0, tyk_13, tcq_13, tsx_1, tyx_12, tcx_12, tsh_499, tyk_27, tel_5, tyk_7, tcq_7]
  refine tz_xn (D := 0) (fun d' hd' => k_X11_checkFormula cl_0 h1 hd') hC (by omega) rfl ?_ (fun s q => Or.inr ⟨_, rfl, rfl, KA_refl hC hK⟩)
  intro a1
  try simp only [kb_X11_define_0, w_ald_0, w_ild_1, w_iv1, tfr_0, tfr_1, tfr_2, tfr_3, tfr_4, w_gf_13_6, tw_t, w_gf_13_1, w_ist_2, tkl_n, tkl_i, tkl_l, tkl_r, w_iv0, w_ild_2, w_if_lt, w_ic, w_isub, w_ire, trg, w64_r, true_and, and_true, Nat.reduceAdd, Nat.reduceSub, eq_self, tsh_0, tyk_13, tcq_13, tsx_1, tyx_12, tcx_12, tsh_499, tyk_27, tel_5, tyk_7, tcq_7, s06]
  refine tc_i (D := 5) (fun d' hd' => z_parse (FM_cl h06) hC hd') (by omega) ?_
  rintro z M1 ⟨rz, p1⟩
  have k1 := KA_par (FM_cl h06) hK p1
  try simp only [kb_X11_define_0, w_ald_0, w_ild_1, w_iv1, tfr_0, tfr_1, tfr_2, tfr_3, tfr_4, w_gf_13_6, tw_t, w_gf_13_1, w_ist_2, tkl_n, tkl_i, tkl_l, tkl_r, w_iv0, w_ild_2, w_if_lt, w_ic, w_isub, w_ire, trg, w64_r, true_and, and_true, Nat.reduceAdd, Nat.reduceSub, eq_self, tsh_0, tyk_13, tcq_13, tsx_1, tyx_12, tcx_12, tsh_499, tyk_27, tel_5, tyk_7, tcq_7]
  refine tc_n (D := 0) (fun d' hd' => z_tclear (Or.inl rfl) k1.1.1) (by omega) ?_
  rintro M2 f2
  have k2 := KA_tr k1.1.2 (KA_tx k1.2 f2)
  try simp only [kb_X11_define_0, w_ald_0, w_ild_1, w_iv1, tfr_0, tfr_1, tfr_2, tfr_3, tfr_4, w_gf_13_6, tw_t, w_gf_13_1, w_ist_2, tkl_n, tkl_i, tkl_l, tkl_r, w_iv0, w_ild_2, w_if_lt, w_ic, w_isub, w_ire, trg, w64_r, true_and, and_true, Nat.reduceAdd, Nat.reduceSub, eq_self, tsh_0, tyk_13, tcq_13, tsx_1, tyx_12, tcx_12, tsh_499, tyk_27, tel_5, tyk_7, tcq_7]
  repeat refine And.intro (by omega) ?_
  refine ⟨fun q => ?_, fun q => ?_⟩
  rotate_left
  · try simp only [kb_X11_define_0, w_ald_0, w_ild_1, w_iv1, tfr_0, tfr_1, tfr_2, tfr_3, tfr_4, w_gf_13_6, tw_t, w_gf_13_1, w_ist_2, tkl_n, tkl_i, tkl_l, tkl_r, w_iv0, w_ild_2, w_if_lt, w_ic, w_isub, w_ire, trg, w64_r, true_and, and_true, Nat.reduceAdd, Nat.reduceSub, eq_self, tsh_0, tyk_13, tcq_13, tsx_1, tyx_12, tcx_12, tsh_499, tyk_27, tel_5, tyk_7, tcq_7]
    repeat refine And.intro (by omega) ?_
    exact Or.inl ⟨_, rfl, rfl, by omega, k2⟩
  have g06 := sp M2 k2.1.1
  have t06 := g06.1
  have o06 := fm_cl k2.1.1 a1
  have u06 := o06.1
  generalize hsp : (M2 0 6).toNat = sq at *
  generalize hol : (M2 499 x1).toNat = oq at *
  have c3 : CI (tU M2 499 x1 (sq : Int)) := CI_put k2.1.1 tsh_499 (fun _ => by
    rcases (show x1 = 0 ∨ x1 = 1 ∨ x1 = 2 ∨ x1 = 3 by omega) with e1 | e1 | e1 | e1 <;> (rw [e1]; show cl ((sq : Nat) : Int).toNat 7; rw [nat_n]; exact g06))
  have c4 : CI (tU (tU M2 499 x1 (sq : Int)) 0 6 (oq : Int)) := CI_put c3 tsh_0 (fun _ => by show cl ((oq : Nat) : Int).toNat 7; rw [nat_n]; exact o06)
  have p4 : pE 0 M2 (tU (tU M2 499 x1 (sq : Int)) 0 6 (oq : Int)) := pE_tr (pE_0 (by omega)) (pE_0 (by omega))
  have u4 : ∀ (k : Nat) (i : Int), k ≠ 0 → k ≠ 499 → tU (tU M2 499 x1 (sq : Int)) 0 6 (oq : Int) k i = M2 k i := fun k i a b => (tU_nk a).trans (tU_nk b)
  have u5 : tU (tU M2 499 x1 (sq : Int)) 0 6 (oq : Int) 499 x1 = (sq : Int) := (tU_nk (by decide)).trans (tU_eq ..)
  have u6 : tU M2 499 x1 (sq : Int) 0 6 = M2 0 6 := tU_nk (by decide)
  refine tb_X11_define_32 (c := true) ?_
  simp only [kb_X11_define_32, w_ald_0, w_gf_13_5, tw_t, w_ild_1, w_aa, w_ast_3, tkl_n, tkl_i, tkl_l, tkl_r, w_gf_13_6, w_aas, w_ald_3, w_pf_13_6, w_gf_7_4, w_ire, trg, w64_r, true_and, and_true, Nat.reduceAdd, Nat.reduceSub, eq_self, tsh_0, tyk_13, tcq_13, tsx_1, tyx_12, tcx_12, tsh_499, tyk_27, tel_5, tyk_7, tcq_7]
  rw [hol, hsp]
  try simp only [kb_X11_define_32, w_ald_0, w_gf_13_5, tw_t, w_ild_1, w_aa, w_ast_3, tkl_n, tkl_i, tkl_l, tkl_r, w_gf_13_6, w_aas, w_ald_3, w_pf_13_6, w_gf_7_4, w_ire, trg, w64_r, true_and, and_true, Nat.reduceAdd, Nat.reduceSub, eq_self, tsh_0, tyk_13, tcq_13, tsx_1, tyx_12, tcx_12, tsh_499, tyk_27, tel_5, tyk_7, tcq_7, u5, u6]
  repeat refine And.intro (by omega) ?_
  rw [nat_n]
  have rs := FM_r (FM_cl g06)
  have r4 : 0 ≤ M2 sq 4 ∧ M2 sq 4 ≤ 60 := fm_c k2.1.1 g06 (by decide) rfl
  have k4 : KA M2 (tU (tU M2 499 x1 (sq : Int)) 0 6 (oq : Int)) := KA_f k2.2 c4 p4 (RO_u k2.2.1.1.2 (u4 79 4 (by decide) (by decide)) (u4 79 5 (by decide) (by decide))) (fun k i g => u4 k i (by unfold KPC at g; omega) (by unfold KPC at g; omega))
  refine ⟨t06, Or.inl ⟨_, rfl, rfl, ?_, KA_tr k2.1.2 k4⟩⟩
  rw [u4 sq 4 (by omega) (by omega)]
  omega
end HAND
