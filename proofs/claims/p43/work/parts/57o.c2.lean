/-! THE CLASS BY VALUES: long numbers divided, compared, read. -/
section HAND
variable {e : tE} {b d n : Nat} {M : tM}
theorem f_setLimb {r I : Nat} {v N : Int} (hr : FXC r) (hI : I < 8) (hv : 0 ≤ v ∧ v < 1000000000) (hN : LX M r N) (hb : b < 2) (hC : CI M) : tC e d 1546 [.inr (.inr (.inl r)), .inl (I : Int), .inr (.inl v)] M n (tQn n (fun M' => LX M' r (N + (v - M (r + 1) (I : Int)) * TT (9 * I)) ∧ (∀ j : Int, j ≠ (I : Int) → M' (r + 1) j = M (r + 1) j) ∧ GE b M M' r)) := by
  obtain ⟨t0, t1, t2⟩ := FS_of hr
  refine tst_X4_setLimb ?_
  refine tb_X4_setLimb_0 (c := false) ?_
  simp only [kb_X4_setLimb_0, w_ild_1, w_if_lt, w_bi, w_ic_ge, w_ald_0, w_gf_6_0, tw_f, w_lld_2, w_las, w_nil, true_and, and_true, Nat.reduceAdd, Nat.reduceSub, eq_self, tyk_6, tcq_6, tyk_23, tyk_24, tcq_8n, tcq_10n, t0, t1]
  repeat refine And.intro (by omega) ?_
  first | refine ⟨fun q => absurd q (by omega), fun _ => ?_⟩ | refine fun _ => ?_
  repeat refine And.intro (by omega) ?_
  first | refine ⟨fun q => absurd q (by omega), fun _ => ?_⟩ | refine fun _ => ?_
  repeat refine And.intro (by omega) ?_
  refine tb_X4_setLimb_17 (c := false) ?_
  simp only [kb_X4_setLimb_17, w_re, true_and, and_true, Nat.reduceAdd, Nat.reduceSub, eq_self]
  refine ⟨rfl, rfl, ⟨fun j hj => ?_, ?_⟩, fun j hj => tU_ni hj, lim_put (i := (I : Int)) (v := v) hb hC hr (by omega)⟩
  · by_cases hjI : j = I
    · rw [hjI, tU_eq]
      exact hv
    · rw [tU_ni (by omega)]
      exact hN.1 j hj
  · rw [S9_set hI, hN.2]
theorem f_limbAt {r I : Nat} (hr : FXC r) (hI : I < 8) : tC e d 1541 [.inr (.inr (.inl r)), .inl (I : Int)] M n (tQl n (fun z M' => z = M (r + 1) (I : Int) ∧ M' = M)) := by
  obtain ⟨t0, t1, t2⟩ := FS_of hr
  refine tst_X4_limbAt ?_
  refine tb_X4_limbAt_0 (c := false) ?_
  simp only [kb_X4_limbAt_0, w_ild_1, w_if_lt, w_bi, w_ic_lt, w_nil, true_and, and_true, Nat.reduceAdd, Nat.reduceSub, eq_self, t0, t1]
  repeat refine And.intro (by omega) ?_
  first | refine ⟨fun q => absurd q (by omega), fun _ => ?_⟩ | refine fun _ => ?_
  repeat refine And.intro (by omega) ?_
  refine ⟨fun _ => ?_, fun q => absurd (by omega) q⟩
  refine tb_X4_limbAt_14 (c := false) ?_
  simp only [kb_X4_limbAt_14, w_ald_0, w_gf_6_0, tw_f, w_ild_1, w_la, w_lax, w_nil, true_and, and_true, Nat.reduceAdd, Nat.reduceSub, eq_self, tyk_6, tcq_6, tyk_23, tyk_24, tcq_8n, tcq_10n, t0, t1]
  repeat refine And.intro (by omega) ?_
  refine tb_X4_limbAt_20 (c := false) ?_
  simp only [kb_X4_limbAt_20, w_lre, true_and, and_true, Nat.reduceAdd, Nat.reduceSub, eq_self]
  exact ⟨_, rfl, rfl, rfl, rfl⟩
theorem f_isZero {r : Nat} {N : Int} (hr : FXC r) (hN : LX M r N) : tC e d 1540 [.inr (.inr (.inl r))] M n (tQi n (fun z M' => ((z = 1 ∧ N = 0) ∨ (z = 0 ∧ ¬ N = 0)) ∧ M' = M)) := by
  obtain ⟨t0, t1, t2⟩ := FS_of hr
  refine tst_X4_isZero ?_
  have n4 : ∀ (fu : Nat) (I : Nat) (m : Int), 8 - I = fu → I ≤ 8 → (0 ≤ m ∧ m ≤ 1) → (m = 1 → ∀ j : Nat, j < I → M (r + 1) (j : Int) = 0) → (m = 0 → N ≠ 0) → tT e d 1540 4 [some (.inr (.inr (.inl (r)))), some (.inl (m)), some (.inl ((I : Int)))] [] M n (tQi n (fun z M' => ((z = 1 ∧ N = 0) ∨ (z = 0 ∧ ¬ N = 0)) ∧ M' = M)) := by
    intro fu
    induction fu with
    | zero =>
      intro I m hf hI hm h1 h0
      have hIe : I = 8 := by omega
      subst hIe
      refine tb_X4_isZero_4 (c := false) ?_
      simp only [kb_X4_isZero_4, w_ild_2, w_bi, w_ic_ge, w_ild_1, w_if_eq, w_ald_0, w_gf_6_0, tw_f, w_la, w_lax, w_lc0, w_lcmp, ne_eq, tlc_r, tlc_eq, tlc_lt, tlc_ge, tlc_gt, tlc_le, w_if_ne, w_ic, w_goto, true_and, and_true, Nat.reduceAdd, Nat.reduceSub, eq_self, tyk_6, tcq_6, tyk_23, tyk_24, tcq_8n, tcq_10n]
      repeat refine And.intro (by omega) ?_
      refine ⟨fun _ => ?_, fun q => absurd (by omega) q⟩
      refine tb_X4_isZero_37 (c := false) ?_
      simp only [kb_X4_isZero_37, w_ild_1, w_ire, trg, true_and, and_true, Nat.reduceAdd, Nat.reduceSub, eq_self]
      refine ⟨by omega, _, rfl, rfl, ?_, rfl⟩
      rcases (show m = 0 ∨ m = 1 by omega) with g | g
      · exact Or.inr ⟨g, h0 g⟩
      · refine Or.inl ⟨g, ?_⟩
        rw [← hN.2]
        exact S9_z (h1 g)
    | succ fu ih =>
      intro I m hf hI hm h1 h0
      have n30 : ∀ m' : Int, (0 ≤ m' ∧ m' ≤ 1) → (m' = 1 → ∀ j : Nat, j < I + 1 → M (r + 1) (j : Int) = 0) → (m' = 0 → N ≠ 0) → tT e d 1540 30 [some (.inr (.inr (.inl (r)))), some (.inl (m)), some (.inl ((I : Int)))] [.inl m'] M n (tQi n (fun z M' => ((z = 1 ∧ N = 0) ∨ (z = 0 ∧ ¬ N = 0)) ∧ M' = M)) := by
        intro m' a1 a2 a3
        refine tb_X4_isZero_30 (c := false) ?_
        simp only [kb_X4_isZero_30, w_ist_1, tkl_n, tkl_i, tkl_l, tkl_r, w_inc2, w_goto, true_and, and_true, Nat.reduceAdd, Nat.reduceSub, eq_self]
        repeat refine And.intro (by omega) ?_
        rw [show ((I : Nat) : Int) + 1 = ((I + 1 : Nat) : Int) by omega]
        exact ih (I + 1) m' (by omega) (by omega) a1 a2 a3
      refine tb_X4_isZero_4 (c := false) ?_
      simp only [kb_X4_isZero_4, w_ild_2, w_bi, w_ic_ge, w_ild_1, w_if_eq, w_ald_0, w_gf_6_0, tw_f, w_la, w_lax, w_lc0, w_lcmp, ne_eq, tlc_r, tlc_eq, tlc_lt, tlc_ge, tlc_gt, tlc_le, w_if_ne, w_ic, w_goto, true_and, and_true, Nat.reduceAdd, Nat.reduceSub, eq_self, tyk_6, tcq_6, tyk_23, tyk_24, tcq_8n, tcq_10n, t0, t1]
      repeat refine And.intro (by omega) ?_
      first | refine ⟨fun q => absurd q (by omega), fun _ => ?_⟩ | refine fun _ => ?_
      repeat refine And.intro (by omega) ?_
      refine ⟨fun q => ?_, fun q => ?_⟩
      · refine tb_X4_isZero_37 (c := false) ?_
        simp only [kb_X4_isZero_37, w_ild_1, w_ire, trg, true_and, and_true, Nat.reduceAdd, Nat.reduceSub, eq_self]
        refine ⟨by omega, _, rfl, rfl, Or.inr ⟨q, h0 q⟩, rfl⟩
      · have hl := hN.1 I (by omega)
        repeat refine And.intro (by omega) ?_
        refine ⟨fun q2 => ?_, fun q2 => ?_⟩
        · refine tb_X4_isZero_29 (c := false) ?_
          simp only [kb_X4_isZero_29, w_ic, w_nil, true_and, and_true, Nat.reduceAdd, Nat.reduceSub, eq_self]
          refine n30 0 (by decide) (fun g => absurd g (by decide)) (fun _ hz => q2 ?_)
          have hS := S9_r (k := I) (r := r + 1) (M := M) (fun j q => hN.1 j (by omega))
          have hmono : ∀ k : Nat, k ≤ 8 → I + 1 ≤ k → S9 M (r + 1) (I + 1) ≤ S9 M (r + 1) k := by
            intro k
            induction k with
            | zero => intro _ g; exact absurd g (by omega)
            | succ k ihk =>
              intro g1 g2
              rcases Nat.lt_or_ge I k with g3 | g3
              · have e1 := ihk (by omega) (by omega)
                have e2 := Int.mul_nonneg (hN.1 k (by omega)).1 (Int.le_of_lt (TT_pos (9 * k)))
                rw [S9_s M (r + 1) k]
                omega
              · rw [show k = I by omega]
                exact Int.le_refl _
          have g := hmono 8 (Nat.le_refl _) (by omega)
          rw [hN.2, hz, S9_s] at g
          have hp := Int.mul_nonneg hl.1 (Int.le_of_lt (TT_pos (9 * I)))
          have h0 : M (r + 1) (I : Int) * TT (9 * I) = 0 := by omega
          rcases Int.mul_eq_zero.mp h0 with g3 | g3
          · exact g3
          · have := TT_pos (9 * I)
            omega
        · refine n30 1 (by decide) (fun _ j hj => ?_) (fun g => absurd g (by decide))
          rcases Nat.lt_or_ge j I with g | g
          · exact h1 (by omega) j g
          · rw [show j = I by omega]
            omega
  refine tb_X4_isZero_0 (c := false) ?_
  simp only [kb_X4_isZero_0, w_ic, w_ist_1, tkl_n, tkl_i, tkl_l, tkl_r, w_ist_2, w_nil, true_and, and_true, Nat.reduceAdd, Nat.reduceSub, eq_self]
  repeat refine And.intro (by omega) ?_
  exact n4 8 0 1 (by omega) (by omega) (by decide) (fun _ j hj => absurd hj (Nat.not_lt_zero j)) (fun g => absurd g (by decide))
theorem f_isBelow {r x : Nat} {N W : Int} (hr : FXC r) (hx : FXC x) (hN : LX M r N) (hW : LX M x W) : tC e d 1539 [.inr (.inr (.inl r)), .inr (.inr (.inl x))] M n (tQi n (fun z M' => ((z = 1 ∧ N < W) ∨ (z = 0 ∧ ¬ N < W)) ∧ M' = M)) := by
  obtain ⟨t0, t1, t2⟩ := FS_of hr
  obtain ⟨u0, u1, u2⟩ := FS_of hx
  refine tst_X4_isBelow ?_
  have n50 : ∀ (z : Int) (w : Option tV), ((z = 1 ∧ N < W) ∨ (z = 0 ∧ ¬ N < W)) → tT e d 1539 50 [some (.inr (.inr (.inl (r)))), some (.inr (.inr (.inl (x)))), w] [.inl z] M n (tQi n (fun z M' => ((z = 1 ∧ N < W) ∨ (z = 0 ∧ ¬ N < W)) ∧ M' = M)) := by
    intro z w hz
    refine tb_X4_isBelow_50 (c := false) ?_
    simp only [kb_X4_isBelow_50, w_ire, trg, true_and, and_true, Nat.reduceAdd, Nat.reduceSub, eq_self]
    exact ⟨by omega, _, rfl, rfl, hz, rfl⟩
  have n29 : ∀ (I : Nat), I < 8 → N - S9 M (r + 1) (I + 1) = W - S9 M (x + 1) (I + 1) → (I = 0 ∨ M (r + 1) (I : Int) ≠ M (x + 1) (I : Int)) → tT e d 1539 29 [some (.inr (.inr (.inl (r)))), some (.inr (.inr (.inl (x)))), some (.inl ((I : Int)))] [] M n (tQi n (fun z M' => ((z = 1 ∧ N < W) ∨ (z = 0 ∧ ¬ N < W)) ∧ M' = M)) := by
    intro I hI he hd2
    have a1 := hN.1 I hI
    have a2 := hW.1 I hI
    have s1 := S9_r (k := I) (r := r + 1) (M := M) (fun j q => hN.1 j (by omega))
    have s2 := S9_r (k := I) (r := x + 1) (M := M) (fun j q => hW.1 j (by omega))
    have hT := TT_pos (9 * I)
    rw [S9_s, S9_s] at he
    have key : M (r + 1) (I : Int) < M (x + 1) (I : Int) ↔ N < W := by
      generalize M (r + 1) (I : Int) = p at *
      generalize M (x + 1) (I : Int) = q at *
      generalize S9 M (r + 1) I = s at *
      generalize S9 M (x + 1) I = s' at *
      rcases Int.lt_trichotomy p q with g | g | g
      · have m : (p + 1) * TT (9 * I) ≤ q * TT (9 * I) := Int.mul_le_mul_of_nonneg_right (by omega) (Int.le_of_lt hT)
        rw [Int.add_mul, Int.one_mul] at m
        refine ⟨fun _ => by omega, fun _ => g⟩
      · have hI0 : I = 0 := by omega
        subst hI0
        rw [show 9 * 0 = 0 from rfl, TT_v.1] at *
        omega
      · have m : (q + 1) * TT (9 * I) ≤ p * TT (9 * I) := Int.mul_le_mul_of_nonneg_right (by omega) (Int.le_of_lt hT)
        rw [Int.add_mul, Int.one_mul] at m
        refine ⟨fun _ => by omega, fun _ => by omega⟩
    refine tb_X4_isBelow_29 (c := false) ?_
    simp only [kb_X4_isBelow_29, w_ald_0, w_gf_6_0, tw_f, w_ild_2, w_la, w_lax, w_ald_1, w_lcmp, ne_eq, tlc_r, tlc_eq, tlc_lt, tlc_ge, tlc_gt, tlc_le, w_if_ge, w_ic, w_goto, true_and, and_true, Nat.reduceAdd, Nat.reduceSub, eq_self, tyk_6, tcq_6, tyk_23, tyk_24, tcq_8n, tcq_10n, t0, t1, u0, u1]
    repeat refine And.intro (by omega) ?_
    refine ⟨fun q => ?_, fun q => ?_⟩
    · refine tb_X4_isBelow_49 (c := false) ?_
      simp only [kb_X4_isBelow_49, w_ic, w_nil, true_and, and_true, Nat.reduceAdd, Nat.reduceSub, eq_self]
      exact n50 0 _ (Or.inr ⟨rfl, fun g => by have := key.mpr g; omega⟩)
    · exact n50 1 _ (Or.inl ⟨rfl, key.mp (by omega)⟩)
  have n3 : ∀ (I : Nat), I < 8 → N - S9 M (r + 1) (I + 1) = W - S9 M (x + 1) (I + 1) → tT e d 1539 3 [some (.inr (.inr (.inl (r)))), some (.inr (.inr (.inl (x)))), some (.inl ((I : Int)))] [] M n (tQi n (fun z M' => ((z = 1 ∧ N < W) ∨ (z = 0 ∧ ¬ N < W)) ∧ M' = M)) := by
    intro I
    induction I with
    | zero =>
      intro hI he
      refine tb_X4_isBelow_3 (c := false) ?_
      simp only [kb_X4_isBelow_3, w_ild_2, w_if_le, w_ald_0, w_gf_6_0, tw_f, w_la, w_lax, w_ald_1, w_lcmp, ne_eq, tlc_r, tlc_eq, tlc_lt, tlc_ge, tlc_gt, tlc_le, w_if_ne, w_inc2, tkl_n, tkl_i, tkl_l, tkl_r, w_goto, true_and, and_true, Nat.reduceAdd, Nat.reduceSub, eq_self, tyk_6, tcq_6, tyk_23, tyk_24, tcq_8n, tcq_10n, t0, t1, u0, u1]
      repeat refine And.intro (by omega) ?_
      refine ⟨fun _ => ?_, fun q => absurd (by omega) q⟩
      exact n29 0 hI he (Or.inl rfl)
    | succ I ih =>
      intro hI he
      have a1 := hN.1 (I + 1) hI
      have a2 := hW.1 (I + 1) hI
      refine tb_X4_isBelow_3 (c := false) ?_
      simp only [kb_X4_isBelow_3, w_ild_2, w_if_le, w_ald_0, w_gf_6_0, tw_f, w_la, w_lax, w_ald_1, w_lcmp, ne_eq, tlc_r, tlc_eq, tlc_lt, tlc_ge, tlc_gt, tlc_le, w_if_ne, w_inc2, tkl_n, tkl_i, tkl_l, tkl_r, w_goto, true_and, and_true, Nat.reduceAdd, Nat.reduceSub, eq_self, tyk_6, tcq_6, tyk_23, tyk_24, tcq_8n, tcq_10n, t0, t1, u0, u1]
      repeat refine And.intro (by omega) ?_
      first | refine ⟨fun q => absurd q (by omega), fun _ => ?_⟩ | refine fun _ => ?_
      repeat refine And.intro (by omega) ?_
      refine ⟨fun q => n29 (I + 1) hI he (Or.inr q), fun q => ?_⟩
      repeat refine And.intro (by omega) ?_
      rw [show ((I + 1 : Nat) : Int) + -1 = (I : Int) by omega]
      refine ih (by omega) ?_
      have e1 := S9_s M (r + 1) (I + 1)
      have e2 := S9_s M (x + 1) (I + 1)
      have e3 : M (r + 1) ((I + 1 : Nat) : Int) = M (x + 1) ((I + 1 : Nat) : Int) := by omega
      rw [e3] at e1
      omega
  refine tb_X4_isBelow_0 (c := false) ?_
  simp only [kb_X4_isBelow_0, w_bi, w_ist_2, tkl_n, tkl_i, tkl_l, tkl_r, w_nil, true_and, and_true, Nat.reduceAdd, Nat.reduceSub, eq_self]
  repeat refine And.intro (by omega) ?_
  exact n3 7 (by omega) (by rw [show 7 + 1 = 8 from rfl, hN.2, hW.2]; omega)
theorem f_over {r : Nat} {N D : Int} (hr : FXC r) (hN : LX M r N) (hD : 1 ≤ D ∧ D ≤ 100000) (hb : b < 2) (hC : CI M) : tC e d 1544 [.inr (.inr (.inl r)), .inl D] M n (tQn n (fun M' => LX M' r (N / D) ∧ GE b M M' r)) := by
  obtain ⟨t0, t1, t2⟩ := FS_of hr
  refine tst_X4_over ?_
  have n12 : ∀ (I : Nat) (M1 : tM) (rs : Int) (w5 w6 : Option tV), I ≤ 8 → (0 ≤ rs ∧ rs < D) → (∀ j : Nat, j < 8 → 0 ≤ M1 (r + 1) (j : Int) ∧ M1 (r + 1) (j : Int) < 1000000000) → (∀ j : Nat, j < I → M1 (r + 1) (j : Int) = M (r + 1) (j : Int)) → (S9 M1 (r + 1) 8 - S9 M1 (r + 1) I) * D + rs * TT (9 * I) = N - S9 M (r + 1) I → GE b M M1 r → tT e d 1544 12 [some (.inr (.inr (.inl (r)))), some (.inl (D)), some (.inr (.inl (rs))), none, some (.inl ((I : Int) + -1)), w5, w6] [] M1 n (tQn n (fun M' => LX M' r (N / D) ∧ GE b M M' r)) := by
    intro I
    induction I with
    | zero =>
      intro M1 rs w5 w6 hI hrs hd1 hd2 hs hg
      refine tb_X4_over_12 (c := false) ?_
      simp only [kb_X4_over_12, w_ild4, w_if_lt, w_lld_2, w_ld2, w_lmul, tw_f, w_ald_0, w_gf_6_0, w_la, w_lax, w_ladd, w_lst5, tkl_n, tkl_i, tkl_l, tkl_r, w_lld5, w_ild_1, w_i2l, w_ldiv, w_las, w_lrem, w_lst_2, w_inc4, w_goto, true_and, and_true, Nat.reduceAdd, Nat.reduceSub, eq_self, tyk_6, tcq_6, tyk_23, tyk_24, tcq_8n, tcq_10n, t0, t1]
      repeat refine And.intro (by omega) ?_
      refine ⟨fun _ => ?_, fun q => absurd (by omega) q⟩
      refine tb_X4_over_56 (c := false) ?_
      simp only [kb_X4_over_56, w_re, true_and, and_true, Nat.reduceAdd, Nat.reduceSub, eq_self]
      refine ⟨rfl, rfl, ⟨hd1, ?_⟩, hg⟩
      have e0 : S9 M1 (r + 1) 0 = 0 := rfl
      have e1 : S9 M (r + 1) 0 = 0 := rfl
      rw [e0, e1, show 9 * 0 = 0 from rfl, TT_v.1, Int.sub_zero, Int.sub_zero, Int.mul_one] at hs
      exact (dm_v (N := N) (K := D) (r := rs) (q := S9 M1 (r + 1) 8) (by omega) hrs).1.symm
    | succ I ih =>
      intro M1 rs w5 w6 hI hrs hd1 hd2 hs hg
      have e1 := hd2 I (by omega)
      have a1 := hN.1 I (by omega)
      have p1 : 0 ≤ rs * 1000000000 + M (r + 1) (I : Int) := by omega
      have p2 : rs * 1000000000 + M (r + 1) (I : Int) < D * 1000000000 := by omega
      have td := td_e (y := rs * 1000000000 + M (r + 1) (I : Int)) (q := D) p1
      have q1 := Int.ediv_nonneg p1 (show 0 ≤ D by omega)
      have q2 : (rs * 1000000000 + M (r + 1) (I : Int)) / D < 1000000000 := Int.ediv_lt_of_lt_mul (by omega) (by rw [Int.mul_comm 1000000000 D]; exact p2)
      have m1 := Int.emod_nonneg (rs * 1000000000 + M (r + 1) (I : Int)) (show D ≠ 0 by omega)
      have m2 := Int.emod_lt_of_pos (rs * 1000000000 + M (r + 1) (I : Int)) (show 0 < D by omega)
      have m3 := Int.emod_add_mul_ediv (rs * 1000000000 + M (r + 1) (I : Int)) D
      have ei : ((I + 1 : Nat) : Int) + -1 = (I : Int) := by omega
      rw [ei]
      refine tb_X4_over_12 (c := false) ?_
      simp only [kb_X4_over_12, w_ild4, w_if_lt, w_lld_2, w_ld2, w_lmul, tw_f, w_ald_0, w_gf_6_0, w_la, w_lax, w_ladd, w_lst5, tkl_n, tkl_i, tkl_l, tkl_r, w_lld5, w_ild_1, w_i2l, w_ldiv, w_las, w_lrem, w_lst_2, w_inc4, w_goto, true_and, and_true, Nat.reduceAdd, Nat.reduceSub, eq_self, tyk_6, tcq_6, tyk_23, tyk_24, tcq_8n, tcq_10n, t0, t1, e1]
      repeat refine And.intro (by omega) ?_
      first | refine ⟨fun q => absurd q (by omega), fun _ => ?_⟩ | refine fun _ => ?_
      repeat refine And.intro (by omega) ?_
      rw [td.1, td.2]
      repeat refine And.intro (by omega) ?_
      refine ih _ _ _ _ (by omega) ⟨m1, m2⟩ (fun j hj => ?_) (fun j hj => ?_) ?_ (GE_tr hg (lim_put (i := (I : Int)) (v := (rs * 1000000000 + M (r + 1) (I : Int)) / D) hb hg.1.1 hr (by omega)))
      · by_cases hjI : j = I
        · rw [hjI, tU_eq]
          exact ⟨q1, q2⟩
        · rw [tU_ni (by omega)]
          exact hd1 j hj
      · rw [tU_ni (by omega)]
        exact hd2 j (by omega)
      · rw [S9_set (show I < 8 by omega), S9_u (M := M1) (r := r + 1) (k := I) (fun j q => tU_ni (by omega))]
        rw [S9_s M1 (r + 1) I, S9_s M (r + 1) I, TT_9s, e1] at hs
        generalize (rs * 1000000000 + M (r + 1) (I : Int)) / D = Q at *
        generalize (rs * 1000000000 + M (r + 1) (I : Int)) % D = R at *
        rw [e1]
        generalize M (r + 1) (I : Int) = p at *
        generalize TT (9 * I) = T at *
        have f1 : (S9 M1 (r + 1) 8 + (Q - p) * T - S9 M1 (r + 1) I) * D = (S9 M1 (r + 1) 8 - (S9 M1 (r + 1) I + p * T)) * D + D * Q * T := by
          rw [show S9 M1 (r + 1) 8 + (Q - p) * T - S9 M1 (r + 1) I = (S9 M1 (r + 1) 8 - (S9 M1 (r + 1) I + p * T)) + Q * T by rw [Int.sub_mul]; omega, Int.add_mul, Int.mul_comm D Q, Int.mul_right_comm]
        have f2 : (rs * 1000000000 + p) * T = rs * (T * 1000000000) + p * T := by rw [Int.add_mul, vm]
        have f3 : R * T + D * Q * T = (rs * 1000000000 + p) * T := by rw [← Int.add_mul, m3]
        rw [f1]
        omega
  refine tb_X4_over_0 (c := false) ?_
  simp only [kb_X4_over_0, w_ild_1, w_ic, w_ic_ge, w_re, true_and, and_true, Nat.reduceAdd, Nat.reduceSub, eq_self]
  repeat refine And.intro (by omega) ?_
  refine ⟨fun _ => ?_, fun q => absurd (by omega) q⟩
  refine tb_X4_over_6 (c := false) ?_
  simp only [kb_X4_over_6, w_lc0, w_lst_2, tkl_n, tkl_i, tkl_l, tkl_r, w_bi, w_ist4, w_nil, true_and, and_true, Nat.reduceAdd, Nat.reduceSub, eq_self]
  repeat refine And.intro (by omega) ?_
  exact n12 8 M 0 _ _ (Nat.le_refl _) (by omega) hN.1 (fun j _ => rfl) (by rw [hN.2, Int.sub_self, Int.zero_mul, Int.zero_mul]; rfl) (GE_refl hC)
end HAND
