/-! THE CLASS BY VALUES: a row settled, when it is not too long. -/
section HAND
variable {e : tE} {b d n : Nat} {M : tM}
theorem y_settle2 {a c u be : Nat} {N : Int} (hr : RC M a c) (hu : M 79 8 = (u : Int)) (hbe : M 79 7 = (be : Int)) (hul : be + 1 ≤ u ∧ u ≤ 32) (hb2 : 2 ≤ be) (hN : RD M a u N) (hb : b < 2) (hC : CI M) (hd : 1 ≤ d) : tC e d 2570 [.inr (.inr (.inl 79))] M n (tQn n (fun M' => (∃ t, RN M' t ∧ (t = cd N (TT (5 * (be - 2))) ∨ (be + 3 < u ∨ 10000000000000 * TT (5 * be) ≤ N))) ∧ (CI M' ∧ pE b M M') ∧ ∀ (k : Nat) (i : Int), k ≠ 80 → ¬ (k = 79 ∧ i = 1) → M' k i = M k i)) := by
  obtain ⟨ta, tc, nac, n79, n85⟩ := RC_t hr
  have hr' := hr
  obtain ⟨hac, h4, h5⟩ := hr
  have hK := TT_pos (5 * (be - 2))
  have eK : TT (5 * be) = TT (5 * (be - 2)) * 10000000000 := by
    rw [show 5 * be = 5 * (be - 2) + 10 by omega, TT_add, TT_10]
  refine tst_X8_settle ?_
  have n21 : ∀ (L : tL), L.head? = some (some (.inr (.inr (.inl (79))))) → (be + 3 < u ∨ 10000000000000 * TT (5 * be) ≤ N) → tT e d 2570 21 L [] M n (tQn n (fun M' => (∃ t, RN M' t ∧ (t = cd N (TT (5 * (be - 2))) ∨ (be + 3 < u ∨ 10000000000000 * TT (5 * be) ≤ N))) ∧ (CI M' ∧ pE b M M') ∧ ∀ (k : Nat) (i : Int), k ≠ 80 → ¬ (k = 79 ∧ i = 1) → M' k i = M k i)) := by
    intro L hL hfar
    cases L with
    | nil => cases hL
    | cons x L =>
      cases hL
      refine tb_X8_settle_21 (c := false) ?_
      simp only [kb_X8_settle_21, w_ald_0, w_ld2, w_lc0, w_ic, w_iv3, tfr_0, tfr_1, tfr_2, tfr_3, tfr_4, w_re, true_and, and_true, Nat.reduceAdd, Nat.reduceSub, eq_self, tsh_79, tyk_10, tcq_10, tyk_21, tyk_22, tcq_32, tcq_5, nat_n]
      refine tc_n (D := 0) (fun d' hd' => y_rassign (b := b) (x1 := 10000000000000) (x2 := 0) (x3 := 0) (by decide) (by decide) hb hC) (by omega) ?_
      rintro M1 ⟨q1, q2⟩
      try simp only [kb_X8_settle_21, w_ald_0, w_ld2, w_lc0, w_ic, w_iv3, tfr_0, tfr_1, tfr_2, tfr_3, tfr_4, w_re, true_and, and_true, Nat.reduceAdd, Nat.reduceSub, eq_self, tsh_79, tyk_10, tcq_10, tyk_21, tyk_22, tcq_32, tcq_5, nat_n]
      exact ⟨rfl, rfl, ⟨_, q1, Or.inr hfar⟩, q2⟩
  refine tb_X8_settle_0 (c := false) ?_
  simp only [kb_X8_settle_0, w_ald_0, w_iv0, tfr_0, tfr_1, tfr_2, tfr_3, tfr_4, w_lst_1, tkl_n, tkl_i, tkl_l, tkl_r, w_lld_1, w_ld2, w_lcmp, ne_eq, tlc_r, tlc_eq, tlc_lt, tlc_ge, tlc_gt, tlc_le, w_if_ge, w_gf_10_7, tw_f, w_ic, w_ic_ge, w_nil, true_and, and_true, Nat.reduceAdd, Nat.reduceSub, eq_self, tsh_79, tyk_10, tcq_10, tyk_21, tyk_22, tcq_32, tcq_5, nat_n]
  refine tc_l (D := 0) (fun d' hd' => y_wholeOfRow hr' hu hbe hul hN) (by omega) ?_
  rintro z M1 ⟨hz, zr, rfl⟩
  try simp only [kb_X8_settle_0, w_ald_0, w_iv0, tfr_0, tfr_1, tfr_2, tfr_3, tfr_4, w_lst_1, tkl_n, tkl_i, tkl_l, tkl_r, w_lld_1, w_ld2, w_lcmp, ne_eq, tlc_r, tlc_eq, tlc_lt, tlc_ge, tlc_gt, tlc_le, w_if_ge, w_gf_10_7, tw_f, w_ic, w_ic_ge, w_nil, true_and, and_true, Nat.reduceAdd, Nat.reduceSub, eq_self, tsh_79, tyk_10, tcq_10, tyk_21, tyk_22, tcq_32, tcq_5, nat_n, hbe]
  repeat refine And.intro (by omega) ?_
  refine ⟨fun q => ?_, fun q => ?_⟩
  · refine n21 _ rfl ?_
    rcases hz with ⟨_, _, g⟩ | ⟨g, _⟩
    · exact Or.inr (Int.mul_le_of_le_ediv (TT_pos (5 * be)) (by omega))
    · exact Or.inl g
  repeat refine And.intro (by omega) ?_
  refine ⟨fun q2 => ?_, fun q2 => absurd (by omega) q2⟩
  obtain ⟨hue, e3, hze⟩ : u ≤ be + 3 ∧ N = SV M1 a be + z * TT (5 * be) ∧ z = N / TT (5 * be) := by
    rcases hz with g | ⟨g1, g2⟩
    · exact g
    · exfalso; omega
  -- what is behind the cut
  have n75 : ∀ (m : Int) (w : Option tV), (0 ≤ m ∧ m ≤ 1) → (m = 0 ↔ SV M1 a (be - 2) = 0) → tT e d 2570 75 [some (.inr (.inr (.inl (79)))), some (.inr (.inl (z))), none, some (.inl (m)), w] [] M1 n (tQn n (fun M' => (∃ t, RN M' t ∧ (t = cd N (TT (5 * (be - 2))) ∨ (be + 3 < u ∨ 10000000000000 * TT (5 * be) ≤ N))) ∧ (CI M' ∧ pE b M1 M') ∧ ∀ (k : Nat) (i : Int), k ≠ 80 → ¬(k = 79 ∧ i = 1) → M' k i = M1 k i)) := by
    intro m w hm hms
    have p1 := hN.1 (be - 2) (by omega)
    have p2 := hN.1 (be - 1) (by omega)
    have hS := SV_r (k := be - 2) (r := a) (M := M1) (fun j q => hN.1 j (by omega))
    have hS2 := SV_r (k := be) (r := a) (M := M1) (fun j q => hN.1 j (by omega))
    have e2 := SV_2 (M := M1) (r := a) (k := be - 2)
    rw [show be - 2 + 2 = be by omega, show be - 2 + 1 = be - 1 by omega] at e2
    have hN2 : N = SV M1 a (be - 2) + (z * 10000000000 + (M1 a ((be - 2 : Nat) : Int) + 100000 * M1 a ((be - 1 : Nat) : Int))) * TT (5 * (be - 2)) := by
      rw [e3, e2, eK, vm, Int.add_mul (_ * 10000000000)]
      omega
    have hdm := dm_v hN2 hS
    have i2 : (be : Int) - 2 = ((be - 2 : Nat) : Int) := by omega
    have i1 : (be : Int) - 1 = ((be - 1 : Nat) : Int) := by omega
    refine tb_X8_settle_75 (c := false) ?_
    simp only [kb_X8_settle_75, w_ald_0, w_lld_1, w_gf_10_4, tw_f, w_gf_10_7, w_ic, w_isub, w_la, w_lax, w_ld2, w_lmul, w_ladd, w_ild_3, w_iv3, tfr_0, tfr_1, tfr_2, tfr_3, tfr_4, w_re, true_and, and_true, Nat.reduceAdd, Nat.reduceSub, eq_self, tsh_79, tyk_10, tcq_10, tyk_21, tyk_22, tcq_32, tcq_5, nat_n, hbe, h4, ta, i2, i1]
    repeat refine And.intro (by omega) ?_
    refine tc_n (D := 0) (fun d' hd' => y_rassign (b := b) (x1 := z) (x2 := M1 a ((be - 2 : Nat) : Int) + 100000 * M1 a ((be - 1 : Nat) : Int)) (x3 := m) (by omega) hm hb hC) (by omega) ?_
    rintro M2 ⟨q1, q2⟩
    try simp only [kb_X8_settle_75, w_ald_0, w_lld_1, w_gf_10_4, tw_f, w_gf_10_7, w_ic, w_isub, w_la, w_lax, w_ld2, w_lmul, w_ladd, w_ild_3, w_iv3, tfr_0, tfr_1, tfr_2, tfr_3, tfr_4, w_re, true_and, and_true, Nat.reduceAdd, Nat.reduceSub, eq_self, tsh_79, tyk_10, tcq_10, tyk_21, tyk_22, tcq_32, tcq_5, nat_n, hbe, h4, ta, i2, i1]
    refine ⟨rfl, rfl, ⟨_, q1, Or.inl ?_⟩, q2⟩
    · unfold cd
      rw [hdm.1, hdm.2]
      by_cases g : SV M1 a (be - 2) = 0
      · rw [if_pos g, hms.mpr g]
      · have : m ≠ 0 := fun g2 => g (hms.mp g2)
        rw [if_neg g]
        omega
  have n36 : ∀ (fu : Nat) (j : Nat) (m : Int), be - 2 - j ≤ fu → j ≤ be - 2 → (0 ≤ m ∧ m ≤ 1) → (m = 0 ↔ SV M1 a j = 0) → tT e d 2570 36 [some (.inr (.inr (.inl (79)))), some (.inr (.inl (z))), none, some (.inl (m)), some (.inl ((j : Int)))] [] M1 n (tQn n (fun M' => (∃ t, RN M' t ∧ (t = cd N (TT (5 * (be - 2))) ∨ (be + 3 < u ∨ 10000000000000 * TT (5 * be) ≤ N))) ∧ (CI M' ∧ pE b M1 M') ∧ ∀ (k : Nat) (i : Int), k ≠ 80 → ¬(k = 79 ∧ i = 1) → M' k i = M1 k i)) := by
    intro fu
    induction fu with
    | zero =>
      intro j m hf hj hm hms
      have hje : j = be - 2 := by omega
      subst hje
      refine tb_X8_settle_36 (c := false) ?_
      simp only [kb_X8_settle_36, w_ild4, w_ald_0, w_gf_10_7, tw_f, w_ic, w_isub, w_ic_ge, w_ild_3, w_if_ne, w_gf_10_4, w_la, w_lax, w_lc0, w_lcmp, ne_eq, tlc_r, tlc_eq, tlc_lt, tlc_ge, tlc_gt, tlc_le, w_if_eq, w_nil, true_and, and_true, Nat.reduceAdd, Nat.reduceSub, eq_self, tsh_79, tyk_10, tcq_10, tyk_21, tyk_22, tcq_32, tcq_5, nat_n, hbe]
      repeat refine And.intro (by omega) ?_
      refine ⟨fun _ => n75 _ _ hm hms, fun q => absurd (by omega) q⟩
    | succ fu ih =>
      intro j m hf hj hm hms
      rcases Nat.lt_or_ge j (be - 2) with hlt | hge
      · have hpl := hN.1 j (by omega)
        have hSj := SV_r (k := j) (r := a) (M := M1) (fun i q => hN.1 i (by omega))
        have hTj := TT_pos (5 * j)
        have hpr := Int.mul_nonneg hpl.1 (Int.le_of_lt hTj)
        have n68 : ∀ m' : Int, (0 ≤ m' ∧ m' ≤ 1) → (m' = 0 ↔ SV M1 a (j + 1) = 0) → tT e d 2570 68 [some (.inr (.inr (.inl (79)))), some (.inr (.inl (z))), none, some (.inl (m)), some (.inl ((j : Int)))] [.inl m'] M1 n (tQn n (fun M' => (∃ t, RN M' t ∧ (t = cd N (TT (5 * (be - 2))) ∨ (be + 3 < u ∨ 10000000000000 * TT (5 * be) ≤ N))) ∧ (CI M' ∧ pE b M1 M') ∧ ∀ (k : Nat) (i : Int), k ≠ 80 → ¬(k = 79 ∧ i = 1) → M' k i = M1 k i)) := by
          intro m' hm' hms'
          refine tb_X8_settle_68 (c := false) ?_
          simp only [kb_X8_settle_68, w_ist_3, tkl_n, tkl_i, tkl_l, tkl_r, w_inc4, w_goto, true_and, and_true, Nat.reduceAdd, Nat.reduceSub, eq_self]
          repeat refine And.intro (by omega) ?_
          rw [show ((j : Nat) : Int) + 1 = ((j + 1 : Nat) : Int) by omega]
          exact ih (j + 1) m' (by omega) (by omega) hm' hms'
        refine tb_X8_settle_36 (c := false) ?_
        simp only [kb_X8_settle_36, w_ild4, w_ald_0, w_gf_10_7, tw_f, w_ic, w_isub, w_ic_ge, w_ild_3, w_if_ne, w_gf_10_4, w_la, w_lax, w_lc0, w_lcmp, ne_eq, tlc_r, tlc_eq, tlc_lt, tlc_ge, tlc_gt, tlc_le, w_if_eq, w_nil, true_and, and_true, Nat.reduceAdd, Nat.reduceSub, eq_self, tsh_79, tyk_10, tcq_10, tyk_21, tyk_22, tcq_32, tcq_5, nat_n, hbe, h4, ta]
        repeat refine And.intro (by omega) ?_
        first | refine ⟨fun q => absurd q (by omega), fun _ => ?_⟩ | refine fun _ => ?_
        repeat refine And.intro (by omega) ?_
        have n63 : SV M1 a (j + 1) ≠ 0 → tT e d 2570 63 [some (.inr (.inr (.inl (79)))), some (.inr (.inl (z))), none, some (.inl (m)), some (.inl ((j : Int)))] [] M1 n (tQn n (fun M' => (∃ t, RN M' t ∧ (t = cd N (TT (5 * (be - 2))) ∨ (be + 3 < u ∨ 10000000000000 * TT (5 * be) ≤ N))) ∧ (CI M' ∧ pE b M1 M') ∧ ∀ (k : Nat) (i : Int), k ≠ 80 → ¬(k = 79 ∧ i = 1) → M' k i = M1 k i)) := by
          intro g
          refine tb_X8_settle_63 (c := false) ?_
          simp only [kb_X8_settle_63, w_ic, w_goto, true_and, and_true, Nat.reduceAdd, Nat.reduceSub, eq_self]
          exact n68 1 (by omega) ⟨fun h => absurd h (by omega), fun h => absurd h g⟩
        refine ⟨fun q => n63 ?_, fun q => ?_⟩
        · rw [SV_s]
          have : SV M1 a j ≠ 0 := fun g => q (hms.mpr g)
          omega
        · have hm0 : m = 0 := by omega
          have hs0 := hms.mp hm0
          repeat refine And.intro (by omega) ?_
          refine ⟨fun q3 => ?_, fun q3 => n63 ?_⟩
          · refine tb_X8_settle_67 (c := false) ?_
            simp only [kb_X8_settle_67, w_ic, w_nil, true_and, and_true, Nat.reduceAdd, Nat.reduceSub, eq_self]
            refine n68 0 (by omega) ⟨fun _ => ?_, fun _ => rfl⟩
            rw [SV_s, hs0, q3, Int.zero_mul]
            rfl
          · rw [SV_s, hs0]
            intro g
            have g2 : M1 a (j : Int) * TT (5 * j) = 0 := by omega
            rcases Int.mul_eq_zero.mp g2 with g3 | g3
            · exact q3 g3
            · omega
      · have hje : j = be - 2 := by omega
        subst hje
        refine tb_X8_settle_36 (c := false) ?_
        simp only [kb_X8_settle_36, w_ild4, w_ald_0, w_gf_10_7, tw_f, w_ic, w_isub, w_ic_ge, w_ild_3, w_if_ne, w_gf_10_4, w_la, w_lax, w_lc0, w_lcmp, ne_eq, tlc_r, tlc_eq, tlc_lt, tlc_ge, tlc_gt, tlc_le, w_if_eq, w_nil, true_and, and_true, Nat.reduceAdd, Nat.reduceSub, eq_self, tsh_79, tyk_10, tcq_10, tyk_21, tyk_22, tcq_32, tcq_5, nat_n, hbe]
        repeat refine And.intro (by omega) ?_
        refine ⟨fun _ => n75 _ _ hm hms, fun q => absurd (by omega) q⟩
  refine tb_X8_settle_31 (c := false) ?_
  simp only [kb_X8_settle_31, w_ic, w_ist_3, tkl_n, tkl_i, tkl_l, tkl_r, w_ist4, w_nil, true_and, and_true, Nat.reduceAdd, Nat.reduceSub, eq_self]
  exact n36 (be - 2) 0 0 (by omega) (by omega) (by omega) ⟨fun _ => rfl, fun _ => rfl⟩
end HAND
