/-! THE CLASS BY VALUES: what a row is worth; the number out of it. -/
/-- the code of a quotient -/
def cd (N K : Int) : Int := 2 * (N / K) + (if N % K = 0 then 0 else 1)
theorem cd_h {N K : Int} : cd N K / 2 = N / K ∧ cd N K % 2 = (if N % K = 0 then 0 else 1) := by
  unfold cd
  split <;> omega
theorem cd_n {N K : Int} (hK : 0 < K) : cd (-N) K = -cd N K := by
  have h := neg_div (x := N) hK
  unfold cd
  by_cases q : N % K = 0
  · obtain ⟨h1, h2⟩ := h.1 q
    rw [if_pos q, if_pos h2, h1]
    omega
  · obtain ⟨h1, h2⟩ := h.2 q
    rw [if_neg q, if_neg h2, h1]
    omega
theorem cd_le {N N' K : Int} (hK : 0 < K) (h : N ≤ N') : cd N K ≤ cd N' K := by
  have h1 := Int.ediv_le_ediv hK h
  have e1 := Int.emod_add_mul_ediv N K
  have e2 := Int.emod_add_mul_ediv N' K
  have m1 := Int.emod_nonneg N (Int.ne_of_gt hK)
  unfold cd
  rcases Classical.em (N / K = N' / K) with q | q
  · rw [q] at e1 ⊢
    generalize K * (N' / K) = w at e1 e2
    split
    · split <;> omega
    · split <;> omega
  · split
    · split <;> omega
    · split <;> omega
theorem cd_mul {N K c : Int} (hc : 0 < c) : cd (N * c) (K * c) = cd N K := by
  unfold cd
  rw [Int.mul_ediv_mul_of_pos_left _ _ hc, Int.mul_comm N c, Int.mul_comm K c, Int.mul_emod_mul_of_pos _ _ hc]
  have hz : c * (N % K) = 0 ↔ N % K = 0 := by
    rw [Int.mul_eq_zero]
    omega
  by_cases q : N % K = 0
  · rw [if_pos q, if_pos (hz.mpr q)]
  · rw [if_neg q, if_neg (fun g => q (hz.mp g))]
/-- quotients in order have codes in order -/
theorem cd_le2 {N N' K K' : Int} (hK : 0 < K) (hK' : 0 < K') (h : N * K' ≤ N' * K) : cd N K ≤ cd N' K' := by
  rw [← cd_mul (N := N) (K := K) hK', ← cd_mul (N := N') (K := K') hK, Int.mul_comm K' K]
  exact cd_le (Int.mul_pos hK hK') h
theorem cd_r {N K B : Int} (h : N / K < B) : cd N K < 2 * B := by
  unfold cd
  split <;> omega
theorem cd_0 {N K : Int} (hK : 0 < K) (h : 0 ≤ N) : 0 ≤ cd N K := by
  have := Int.ediv_nonneg h (Int.le_of_lt hK)
  unfold cd
  split <;> omega
/-- made out of a row: the code, or far too great -/
def SD (t N K : Int) : Prop := (t = cd N K ∧ N / K < 100000000000000000000000) ∨ t = 2 * 100000000000000000000000
/-- a made number: the code, or far too great -/
def FTc (t N K : Int) : Prop := (t = cd N K ∨ 20000000000000000000000 ≤ t ∨ t ≤ -20000000000000000000000) ∧ (-(2 * 100000000000000000000000) ≤ t ∧ t ≤ 2 * 100000000000000000000000)
theorem SD_F {t N K : Int} (hK : 0 < K) (hN : 0 ≤ N) (h : SD t N K) : FTc t N K ∧ FTc (-t) (-N) K := by
  have h0 := cd_0 hK hN
  rcases h with ⟨rfl, h2⟩ | rfl
  · have h3 := cd_r h2
    rw [← cd_n hK]
    refine ⟨⟨Or.inl rfl, by omega, by omega⟩, Or.inl rfl, ?_⟩
    rw [cd_n hK]
    omega
  · exact ⟨⟨Or.inr (Or.inl (by omega)), by omega, by omega⟩, Or.inr (Or.inr (by omega)), by omega, by omega⟩
theorem FTc_r {t N K : Int} (h : FTc t N K) : RV t := by
  obtain ⟨_, h2⟩ := h
  unfold RV
  omega
/-- the cells of the reckoner -/
def RF (b : Nat) (M M' : tM) : Prop := (CI M' ∧ pE b M M') ∧ ∀ (k : Nat) (i : Int), (k < 79 ∨ 85 < k) → M' k i = M k i
theorem RF_refl {b : Nat} {M : tM} (hC : CI M) : RF b M M := ⟨⟨hC, pE_refl⟩, fun _ _ _ => rfl⟩
theorem RF_tr {b : Nat} {M M1 M2 : tM} (h1 : RF b M M1) (h2 : RF b M1 M2) : RF b M M2 := ⟨⟨h2.1.1, pE_tr h1.1.2 h2.1.2⟩, fun k i g => (h2.2 k i g).trans (h1.2 k i g)⟩
theorem RF_d {b r : Nat} {M M1 : tM} (h : BD b M M1 r) (hr : 79 ≤ r ∧ r ≤ 85) : RF b M M1 := ⟨⟨h.1, h.2.1⟩, fun k i g => h.2.2 k i (by omega)⟩
theorem RF_c {b r : Nat} {M M1 : tM} (h : CE b M M1 r) (hr : 79 ≤ r ∧ r ≤ 85) : RF b M M1 := ⟨h.1, fun k i g => h.2 k i (by omega)⟩
/-- the rows are two -/
def RO (M : tM) : Prop := ∃ a c : Nat, RC M a c
theorem RO_u {M M' : tM} (h : RO M) (e4 : M' 79 4 = M 79 4) (e5 : M' 79 5 = M 79 5) : RO M' := by
  obtain ⟨a, c, h1, h2, h3⟩ := h
  exact ⟨a, c, h1, e4.trans h2, e5.trans h3⟩
/-- three places on top -/
theorem vm (y T c : Int) : y * (T * c) = y * c * T := by rw [Int.mul_comm T c, ← Int.mul_assoc]
theorem SV_3 {M : tM} {r k : Nat} : SV M r (k + 3) = SV M r k + (M r (k : Nat) + M r ((k + 1 : Nat) : Int) * 100000 + M r ((k + 2 : Nat) : Int) * 10000000000) * TT (5 * k) := by
  have e : SV M r (k + 3) = ((SV M r k + M r (k : Nat) * TT (5 * k)) + M r ((k + 1 : Nat) : Int) * TT (5 * (k + 1))) + M r ((k + 2 : Nat) : Int) * TT (5 * (k + 2)) := rfl
  have e2 : TT (5 * (k + 2)) = TT (5 * k) * 10000000000 := by
    rw [show 5 * (k + 2) = 5 * k + 10 by omega, TT_add, TT_10]
  rw [e, e2, TT_5s k, vm, vm, Int.add_mul, Int.add_mul]
  omega
theorem SV_2 {M : tM} {r k : Nat} : SV M r (k + 2) = SV M r k + (M r (k : Nat) + 100000 * M r ((k + 1 : Nat) : Int)) * TT (5 * k) := by
  have e : SV M r (k + 2) = (SV M r k + M r (k : Nat) * TT (5 * k)) + M r ((k + 1 : Nat) : Int) * TT (5 * (k + 1)) := rfl
  rw [e, TT_5s k, vm, Int.add_mul, Int.mul_comm 100000]
  omega
theorem SV_nz {M : tM} {r : Nat} : ∀ {k : Nat}, (∀ j : Nat, j < k → 0 ≤ M r (j : Nat) ∧ M r (j : Nat) < 100000) → SV M r k = 0 → ∀ j : Nat, j < k → M r (j : Nat) = 0 := by
  intro k
  induction k with
  | zero => intro _ _ j hj; exact absurd hj (Nat.not_lt_zero j)
  | succ k ih =>
    intro h hs j hj
    have g := SV_r (fun j q => h j (Nat.lt_succ_of_lt q))
    have hk := h k (Nat.lt_succ_self k)
    have t := TT_pos (5 * k)
    have p := Int.mul_nonneg hk.1 (Int.le_of_lt t)
    rw [SV_s] at hs
    have z1 : SV M r k = 0 := by omega
    have z2 : M r (k : Nat) * TT (5 * k) = 0 := by omega
    by_cases hjk : j = k
    · rw [hjk]
      rcases Int.mul_eq_zero.mp z2 with q | q
      · exact q
      · omega
    · exact ih (fun j q => h j (Nat.lt_succ_of_lt q)) z1 j (by omega)
theorem TT_le {a b : Nat} (h : a ≤ b) : TT a ≤ TT b := by
  have e : TT b = TT a * TT (b - a) := by rw [← TT_add, show a + (b - a) = b by omega]
  have h1 := TT_pos (b - a)
  have h2 : TT a * 1 ≤ TT a * TT (b - a) := Int.mul_le_mul_of_nonneg_left (by omega) (Int.le_of_lt (TT_pos a))
  rw [e]
  omega
/-- division by the weight of a place -/
theorem dm_v {N K q r : Int} (hN : N = r + q * K) (hr : 0 ≤ r ∧ r < K) : N / K = q ∧ N % K = r :=
  (Int.ediv_emod_unique (by omega)).mpr ⟨by rw [hN, Int.mul_comm], hr.1, hr.2⟩
section HAND
variable {e : tE} {b d n : Nat} {M : tM}
theorem y_wholeOfRow {a c u be : Nat} {N : Int} (hr : RC M a c) (hu : M 79 8 = (u : Int)) (hbe : M 79 7 = (be : Int)) (hul : be + 1 ≤ u ∧ u ≤ 32) (hN : RD M a u N) : tC e d 2580 [.inr (.inr (.inl 79))] M n (tQl n (fun z M' => ((u ≤ be + 3 ∧ N = SV M a be + z * TT (5 * be) ∧ z = N / TT (5 * be)) ∨ (be + 3 < u ∧ z = 10000000000000)) ∧ (0 ≤ z ∧ z < 1000000000000000) ∧ M' = M)) := by
  obtain ⟨ta, tc, nac, n79, n85⟩ := RC_t hr
  obtain ⟨hac, h4, h5⟩ := hr
  refine tst_X8_wholeOfRow ?_
  have n26 : ∀ (fu : Nat) (x : Int), u ≤ be + 3 → be + fu ≤ u → N = SV M a (be + fu) + x * TT (5 * (be + fu)) → (0 ≤ x ∧ x < TT (5 * (u - be - fu))) → tT e d 2580 26 [some (.inr (.inr (.inl (79)))), some (.inr (.inl (x))), none, some (.inl (((be + fu : Nat) : Int) + -1))] [] M n (tQl n (fun z M' => ((u ≤ be + 3 ∧ N = SV M a be + z * TT (5 * be) ∧ z = N / TT (5 * be)) ∨ (be + 3 < u ∧ z = 10000000000000)) ∧ (0 ≤ z ∧ z < 1000000000000000) ∧ M' = M)) := by
    intro fu
    induction fu with
    | zero =>
      intro x hue hf hx hxr
      have hS := SV_r (k := be) (r := a) (M := M) (fun j q => hN.1 j (by omega))
      have h15 : TT (5 * (u - be - 0)) ≤ TT 15 := TT_le (by omega)
      rw [TT_v.2.1] at h15
      refine tb_X8_wholeOfRow_26 (c := false) ?_
      simp only [kb_X8_wholeOfRow_26, w_ild_3, w_ald_0, w_gf_10_7, tw_f, w_ic_lt, w_lld_1, w_ld2, w_lmul, w_gf_10_4, w_la, w_lax, w_ladd, w_lst_1, tkl_n, tkl_i, tkl_l, tkl_r, w_inc3, w_goto, true_and, and_true, Nat.reduceAdd, Nat.reduceSub, eq_self, tsh_79, tyk_10, tcq_10, tyk_21, tyk_22, tcq_32, tcq_5, nat_n, hbe, h4, ta]
      repeat refine And.intro (by omega) ?_
      refine ⟨fun _ => ?_, fun q => absurd (by omega) q⟩
      refine tb_X8_wholeOfRow_53 (c := false) ?_
      simp only [kb_X8_wholeOfRow_53, w_lld_1, w_lre, true_and, and_true, Nat.reduceAdd, Nat.reduceSub, eq_self]
      exact ⟨_, rfl, rfl, Or.inl ⟨hue, hx, (dm_v hx hS).1.symm⟩, by omega, rfl⟩
    | succ fu ih =>
      intro x hue hf hx hxr
      have hpl := hN.1 (be + fu) (by omega)
      have h10 : TT (5 * (u - be - (fu + 1))) ≤ TT 10 := TT_le (by omega)
      rw [TT_10] at h10
      have ei : ((be + (fu + 1) : Nat) : Int) + -1 = ((be + fu : Nat) : Int) := by omega
      rw [ei]
      refine tb_X8_wholeOfRow_26 (c := false) ?_
      simp only [kb_X8_wholeOfRow_26, w_ild_3, w_ald_0, w_gf_10_7, tw_f, w_ic_lt, w_lld_1, w_ld2, w_lmul, w_gf_10_4, w_la, w_lax, w_ladd, w_lst_1, tkl_n, tkl_i, tkl_l, tkl_r, w_inc3, w_goto, true_and, and_true, Nat.reduceAdd, Nat.reduceSub, eq_self, tsh_79, tyk_10, tcq_10, tyk_21, tyk_22, tcq_32, tcq_5, nat_n, hbe, h4, ta]
      repeat refine And.intro (by omega) ?_
      first | refine ⟨fun q => absurd q (by omega), fun _ => ?_⟩ | refine fun _ => ?_
      repeat refine And.intro (by omega) ?_
      refine ih _ hue (by omega) ?_ ?_
      · rw [hx, show be + (fu + 1) = (be + fu) + 1 by omega, SV_s, TT_5s, vm, Int.add_mul]
        omega
      · have e5 : TT (5 * (u - be - fu)) = TT (5 * (u - be - (fu + 1))) * 100000 := by
          rw [show u - be - fu = (u - be - (fu + 1)) + 1 by omega, TT_5s]
        rw [e5]
        omega
  refine tb_X8_wholeOfRow_0 (c := false) ?_
  simp only [kb_X8_wholeOfRow_0, w_ald_0, w_gf_10_8, tw_f, w_gf_10_7, w_ic, w_iadd, w_ic_le, w_ld2, w_lre, true_and, and_true, Nat.reduceAdd, Nat.reduceSub, eq_self, tsh_79, tyk_10, tcq_10, tyk_21, tyk_22, tcq_32, tcq_5, nat_n, hu, hbe]
  repeat refine And.intro (by omega) ?_
  refine ⟨fun q => ?_, fun q => ?_⟩
  · refine tb_X8_wholeOfRow_17 (c := false) ?_
    simp only [kb_X8_wholeOfRow_17, w_lc0, w_lst_1, tkl_n, tkl_i, tkl_l, tkl_r, w_ald_0, w_gf_10_8, tw_f, w_ic, w_isub, w_ist_3, w_nil, true_and, and_true, Nat.reduceAdd, Nat.reduceSub, eq_self, tsh_79, tyk_10, tcq_10, tyk_21, tyk_22, tcq_32, tcq_5, nat_n, hu, hbe]
    repeat refine And.intro (by omega) ?_
    rw [show (u : Int) - 1 = ((be + (u - be) : Nat) : Int) + -1 by omega]
    refine n26 (u - be) 0 (by omega) (by omega) ?_ ?_
    · rw [show be + (u - be) = u by omega, hN.2, Int.zero_mul, Int.add_zero]
    · rw [show u - be - (u - be) = 0 by omega, TT_v.1]
      decide
  · exact ⟨_, rfl, rfl, Or.inr ⟨by omega, rfl⟩, by decide, rfl⟩
theorem y_rassign {x1 x2 x3 : Int} (h2 : 0 ≤ x2 ∧ x2 < 10000000000) (h3 : 0 ≤ x3 ∧ x3 ≤ 1) (hb : b < 2) (hC : CI M) : tC e d 2562 [.inr (.inr (.inl 79)), .inr (.inl x1), .inr (.inl x2), .inl x3] M n (tQn n (fun M' => RN M' (2 * (x1 * 10000000000 + x2) + x3) ∧ (CI M' ∧ pE b M M') ∧ ∀ (k : Nat) (i : Int), k ≠ 80 → ¬ (k = 79 ∧ i = 1) → M' k i = M k i)) := by
  refine tst_X8_assign ?_
  refine tb_X8_assign_0 (c := false) ?_
  simp only [kb_X8_assign_0, w_ald_0, w_gf_10_0, tw_f, w_lld_1, w_pf_3_0, w_lld_3, w_pf_3_1, w_ild5, w_pf_10_1, w_re, true_and, and_true, Nat.reduceAdd, Nat.reduceSub, eq_self, tsh_79, tyk_10, tcq_10, tyk_21, tyk_22, tcq_32, tcq_5, nat_n, tsh_80, tyk_3, tcq_3]
  have g1 := BD_0 (b := b) (v := x1) hC cl_80 (by omega)
  have g2 := BD_1 (b := b) (v := x2) g1.1 cl_80 (by omega)
  refine ⟨h3, rfl, rfl, RN_a ((tU_nk (by decide)).trans ((tU_ni (by decide)).trans (tU_eq ..))) ((tU_nk (by decide)).trans (tU_eq ..)) (tU_eq ..) h2 h3, ⟨?_, ?_⟩, fun k i q1 q2 => ?_⟩
  · exact CI_put (s := 10) g2.1 tsh_79 (fun _ => by show 0 ≤ x3 ∧ x3 ≤ 1; exact h3)
  · exact pE_tr (pE_tr g1.2.1 g2.2.1) (pE_put (prt_f (a := 10) (f := 1) (by omega) cl_79 (fun q => absurd q (by decide)) (fun q => absurd q (by decide)) (by decide)))
  · refine Eq.trans (b := tU (tU M 80 0 x1) 80 1 x2 k i) ?_ ((tU_nk q1).trans (tU_nk q1))
    by_cases hk : k = 79
    · rw [hk]
      exact tU_ni (fun q => q2 ⟨hk, q⟩)
    · exact tU_nk hk
theorem y_settle {a c u be : Nat} {N : Int} (hr : RC M a c) (hu : M 79 8 = (u : Int)) (hbe : M 79 7 = (be : Int)) (hul : be + 1 ≤ u ∧ u ≤ 32) (hb2 : 2 ≤ be) (hN : RD M a u N) (hb : b < 2) (hC : CI M) (hd : 1 ≤ d) : tC e d 2570 [.inr (.inr (.inl 79))] M n (tQn n (fun M' => (∃ t, RN M' t ∧ SD t N (TT (5 * (be - 2)))) ∧ (CI M' ∧ pE b M M') ∧ ∀ (k : Nat) (i : Int), k ≠ 80 → ¬ (k = 79 ∧ i = 1) → M' k i = M k i)) := by
  obtain ⟨ta, tc, nac, n79, n85⟩ := RC_t hr
  have hr' := hr
  obtain ⟨hac, h4, h5⟩ := hr
  have hK := TT_pos (5 * (be - 2))
  have eK : TT (5 * be) = TT (5 * (be - 2)) * 10000000000 := by
    rw [show 5 * be = 5 * (be - 2) + 10 by omega, TT_add, TT_10]
  refine tst_X8_settle ?_
  have n21 : ∀ (L : tL), L.head? = some (some (.inr (.inr (.inl (79))))) → tT e d 2570 21 L [] M n (tQn n (fun M' => (∃ t, RN M' t ∧ SD t N (TT (5 * (be - 2)))) ∧ (CI M' ∧ pE b M M') ∧ ∀ (k : Nat) (i : Int), k ≠ 80 → ¬ (k = 79 ∧ i = 1) → M' k i = M k i)) := by
    intro L hL
    cases L with
    | nil => cases hL
    | cons x L =>
      cases hL
      refine tb_X8_settle_21 (c := false) ?_
      simp only [kb_X8_settle_21, w_ald_0, w_ld2, w_lc0, w_ic, w_iv3, tfr_0, tfr_1, tfr_2, tfr_3, tfr_4, w_re, true_and, and_true, Nat.reduceAdd, Nat.reduceSub, eq_self, tsh_79, tyk_10, tcq_10, tyk_21, tyk_22, tcq_32, tcq_5, nat_n]
      refine tc_n (D := 0) (fun d' hd' => y_rassign (b := b) (x1 := 10000000000000) (x2 := 0) (x3 := 0) (by decide) (by decide) hb hC) (by omega) ?_
      rintro M1 ⟨q1, q2⟩
      try simp only [kb_X8_settle_21, w_ald_0, w_ld2, w_lc0, w_ic, w_iv3, tfr_0, tfr_1, tfr_2, tfr_3, tfr_4, w_re, true_and, and_true, Nat.reduceAdd, Nat.reduceSub, eq_self, tsh_79, tyk_10, tcq_10, tyk_21, tyk_22, tcq_32, tcq_5, nat_n]
      exact ⟨rfl, rfl, ⟨_, q1, Or.inr (by omega)⟩, q2⟩
  refine tb_X8_settle_0 (c := false) ?_
  simp only [kb_X8_settle_0, w_ald_0, w_iv0, tfr_0, tfr_1, tfr_2, tfr_3, tfr_4, w_lst_1, tkl_n, tkl_i, tkl_l, tkl_r, w_lld_1, w_ld2, w_lcmp, ne_eq, tlc_r, tlc_eq, tlc_lt, tlc_ge, tlc_gt, tlc_le, w_if_ge, w_gf_10_7, tw_f, w_ic, w_ic_ge, w_nil, true_and, and_true, Nat.reduceAdd, Nat.reduceSub, eq_self, tsh_79, tyk_10, tcq_10, tyk_21, tyk_22, tcq_32, tcq_5, nat_n]
  refine tc_l (D := 0) (fun d' hd' => y_wholeOfRow hr' hu hbe hul hN) (by omega) ?_
  rintro z M1 ⟨hz, zr, rfl⟩
  try simp only [kb_X8_settle_0, w_ald_0, w_iv0, tfr_0, tfr_1, tfr_2, tfr_3, tfr_4, w_lst_1, tkl_n, tkl_i, tkl_l, tkl_r, w_lld_1, w_ld2, w_lcmp, ne_eq, tlc_r, tlc_eq, tlc_lt, tlc_ge, tlc_gt, tlc_le, w_if_ge, w_gf_10_7, tw_f, w_ic, w_ic_ge, w_nil, true_and, and_true, Nat.reduceAdd, Nat.reduceSub, eq_self, tsh_79, tyk_10, tcq_10, tyk_21, tyk_22, tcq_32, tcq_5, nat_n, hbe]
  repeat refine And.intro (by omega) ?_
  refine ⟨fun q => by refine n21 _ ?_; rfl, fun q => ?_⟩
  repeat refine And.intro (by omega) ?_
  refine ⟨fun q2 => ?_, fun q2 => absurd (by omega) q2⟩
  obtain ⟨hue, e3, hze⟩ : u ≤ be + 3 ∧ N = SV M1 a be + z * TT (5 * be) ∧ z = N / TT (5 * be) := by
    rcases hz with g | ⟨g1, g2⟩
    · exact g
    · exfalso; omega
  -- what is behind the cut
  have n75 : ∀ (m : Int) (w : Option tV), (0 ≤ m ∧ m ≤ 1) → (m = 0 ↔ SV M1 a (be - 2) = 0) → tT e d 2570 75 [some (.inr (.inr (.inl (79)))), some (.inr (.inl (z))), none, some (.inl (m)), w] [] M1 n (tQn n (fun M' => (∃ t, RN M' t ∧ SD t N (TT (5 * (be - 2)))) ∧ (CI M' ∧ pE b M1 M') ∧ ∀ (k : Nat) (i : Int), k ≠ 80 → ¬(k = 79 ∧ i = 1) → M' k i = M1 k i)) := by
    intro m w hm hms
    have p1 := hN.1 (be - 2) (by omega)
    have p2 := hN.1 (be - 1) (by omega)
    have hS := SV_r (k := be - 2) (r := a) (M := M1) (fun j q => hN.1 j (by omega))
    have hS2 := SV_r (k := be) (r := a) (M := M1) (fun j q => hN.1 j (by omega))
    have e2 := SV_2 (M := M1) (r := a) (k := be - 2)
    rw [show be - 2 + 2 = be by omega, show be - 2 + 1 = be - 1 by omega] at e2
    have hN2 : N = SV M1 a (be - 2) + (z * 10000000000 + (M1 a ((be - 2 : Nat) : Int) + 100000 * M1 a ((be - 1 : Nat) : Int))) * TT (5 * (be - 2)) := by
      rw [e3, e2, eK, vm, Int.add_mul (_ * 10000000000)]
      omega
    have hdm := dm_v hN2 hS
    have i2 : (be : Int) - 2 = ((be - 2 : Nat) : Int) := by omega
    have i1 : (be : Int) - 1 = ((be - 1 : Nat) : Int) := by omega
    refine tb_X8_settle_75 (c := false) ?_
    simp only [kb_X8_settle_75, w_ald_0, w_lld_1, w_gf_10_4, tw_f, w_gf_10_7, w_ic, w_isub, w_la, w_lax, w_ld2, w_lmul, w_ladd, w_ild_3, w_iv3, tfr_0, tfr_1, tfr_2, tfr_3, tfr_4, w_re, true_and, and_true, Nat.reduceAdd, Nat.reduceSub, eq_self, tsh_79, tyk_10, tcq_10, tyk_21, tyk_22, tcq_32, tcq_5, nat_n, hbe, h4, ta, i2, i1]
    repeat refine And.intro (by omega) ?_
    refine tc_n (D := 0) (fun d' hd' => y_rassign (b := b) (x1 := z) (x2 := M1 a ((be - 2 : Nat) : Int) + 100000 * M1 a ((be - 1 : Nat) : Int)) (x3 := m) (by omega) hm hb hC) (by omega) ?_
    rintro M2 ⟨q1, q2⟩
    try simp only [kb_X8_settle_75, w_ald_0, w_lld_1, w_gf_10_4, tw_f, w_gf_10_7, w_ic, w_isub, w_la, w_lax, w_ld2, w_lmul, w_ladd, w_ild_3, w_iv3, tfr_0, tfr_1, tfr_2, tfr_3, tfr_4, w_re, true_and, and_true, Nat.reduceAdd, Nat.reduceSub, eq_self, tsh_79, tyk_10, tcq_10, tyk_21, tyk_22, tcq_32, tcq_5, nat_n, hbe, h4, ta, i2, i1]
    refine ⟨rfl, rfl, ⟨_, q1, Or.inl ⟨?_, ?_⟩⟩, q2⟩
    · unfold cd
      rw [hdm.1, hdm.2]
      by_cases g : SV M1 a (be - 2) = 0
      · rw [if_pos g, hms.mpr g]
      · have : m ≠ 0 := fun g2 => g (hms.mp g2)
        rw [if_neg g]
        omega
    · rw [hdm.1]
      omega
  have n36 : ∀ (fu : Nat) (j : Nat) (m : Int), be - 2 - j ≤ fu → j ≤ be - 2 → (0 ≤ m ∧ m ≤ 1) → (m = 0 ↔ SV M1 a j = 0) → tT e d 2570 36 [some (.inr (.inr (.inl (79)))), some (.inr (.inl (z))), none, some (.inl (m)), some (.inl ((j : Int)))] [] M1 n (tQn n (fun M' => (∃ t, RN M' t ∧ SD t N (TT (5 * (be - 2)))) ∧ (CI M' ∧ pE b M1 M') ∧ ∀ (k : Nat) (i : Int), k ≠ 80 → ¬(k = 79 ∧ i = 1) → M' k i = M1 k i)) := by
    intro fu
    induction fu with
    | zero =>
      intro j m hf hj hm hms
      have hje : j = be - 2 := by omega
      subst hje
      refine tb_X8_settle_36 (c := false) ?_
      simp only [kb_X8_settle_36, w_ild4, w_ald_0, w_gf_10_7, tw_f, w_ic, w_isub, w_ic_ge, w_ild_3, w_if_ne, w_gf_10_4, w_la, w_lax, w_lc0, w_lcmp, ne_eq, tlc_r, tlc_eq, tlc_lt, tlc_ge, tlc_gt, tlc_le, w_if_eq, w_nil, true_and, and_true, Nat.reduceAdd, Nat.reduceSub, eq_self, tsh_79, tyk_10, tcq_10, tyk_21, tyk_22, tcq_32, tcq_5, nat_n, hbe]
      repeat refine And.intro (by omega) ?_
      refine ⟨fun _ => n75 _ _ hm hms, fun q => absurd (by omega) q⟩
    | succ fu ih =>
      intro j m hf hj hm hms
      rcases Nat.lt_or_ge j (be - 2) with hlt | hge
      · have hpl := hN.1 j (by omega)
        have hSj := SV_r (k := j) (r := a) (M := M1) (fun i q => hN.1 i (by omega))
        have hTj := TT_pos (5 * j)
        have hpr := Int.mul_nonneg hpl.1 (Int.le_of_lt hTj)
        have n68 : ∀ m' : Int, (0 ≤ m' ∧ m' ≤ 1) → (m' = 0 ↔ SV M1 a (j + 1) = 0) → tT e d 2570 68 [some (.inr (.inr (.inl (79)))), some (.inr (.inl (z))), none, some (.inl (m)), some (.inl ((j : Int)))] [.inl m'] M1 n (tQn n (fun M' => (∃ t, RN M' t ∧ SD t N (TT (5 * (be - 2)))) ∧ (CI M' ∧ pE b M1 M') ∧ ∀ (k : Nat) (i : Int), k ≠ 80 → ¬(k = 79 ∧ i = 1) → M' k i = M1 k i)) := by
          intro m' hm' hms'
          refine tb_X8_settle_68 (c := false) ?_
          simp only [kb_X8_settle_68, w_ist_3, tkl_n, tkl_i, tkl_l, tkl_r, w_inc4, w_goto, true_and, and_true, Nat.reduceAdd, Nat.reduceSub, eq_self]
          repeat refine And.intro (by omega) ?_
          rw [show ((j : Nat) : Int) + 1 = ((j + 1 : Nat) : Int) by omega]
          exact ih (j + 1) m' (by omega) (by omega) hm' hms'
        refine tb_X8_settle_36 (c := false) ?_
        simp only [kb_X8_settle_36, w_ild4, w_ald_0, w_gf_10_7, tw_f, w_ic, w_isub, w_ic_ge, w_ild_3, w_if_ne, w_gf_10_4, w_la, w_lax, w_lc0, w_lcmp, ne_eq, tlc_r, tlc_eq, tlc_lt, tlc_ge, tlc_gt, tlc_le, w_if_eq, w_nil, true_and, and_true, Nat.reduceAdd, Nat.reduceSub, eq_self, tsh_79, tyk_10, tcq_10, tyk_21, tyk_22, tcq_32, tcq_5, nat_n, hbe, h4, ta]
        repeat refine And.intro (by omega) ?_
        first | refine ⟨fun q => absurd q (by omega), fun _ => ?_⟩ | refine fun _ => ?_
        repeat refine And.intro (by omega) ?_
        have n63 : SV M1 a (j + 1) ≠ 0 → tT e d 2570 63 [some (.inr (.inr (.inl (79)))), some (.inr (.inl (z))), none, some (.inl (m)), some (.inl ((j : Int)))] [] M1 n (tQn n (fun M' => (∃ t, RN M' t ∧ SD t N (TT (5 * (be - 2)))) ∧ (CI M' ∧ pE b M1 M') ∧ ∀ (k : Nat) (i : Int), k ≠ 80 → ¬(k = 79 ∧ i = 1) → M' k i = M1 k i)) := by
          intro g
          refine tb_X8_settle_63 (c := false) ?_
          simp only [kb_X8_settle_63, w_ic, w_goto, true_and, and_true, Nat.reduceAdd, Nat.reduceSub, eq_self]
          exact n68 1 (by omega) ⟨fun h => absurd h (by omega), fun h => absurd h g⟩
        refine ⟨fun q => n63 ?_, fun q => ?_⟩
        · rw [SV_s]
          have : SV M1 a j ≠ 0 := fun g => q (hms.mpr g)
          omega
        · have hm0 : m = 0 := by omega
          have hs0 := hms.mp hm0
          repeat refine And.intro (by omega) ?_
          refine ⟨fun q3 => ?_, fun q3 => n63 ?_⟩
          · refine tb_X8_settle_67 (c := false) ?_
            simp only [kb_X8_settle_67, w_ic, w_nil, true_and, and_true, Nat.reduceAdd, Nat.reduceSub, eq_self]
            refine n68 0 (by omega) ⟨fun _ => ?_, fun _ => rfl⟩
            rw [SV_s, hs0, q3, Int.zero_mul]
            rfl
          · rw [SV_s, hs0]
            intro g
            have g2 : M1 a (j : Int) * TT (5 * j) = 0 := by omega
            rcases Int.mul_eq_zero.mp g2 with g3 | g3
            · exact q3 g3
            · omega
      · have hje : j = be - 2 := by omega
        subst hje
        refine tb_X8_settle_36 (c := false) ?_
        simp only [kb_X8_settle_36, w_ild4, w_ald_0, w_gf_10_7, tw_f, w_ic, w_isub, w_ic_ge, w_ild_3, w_if_ne, w_gf_10_4, w_la, w_lax, w_lc0, w_lcmp, ne_eq, tlc_r, tlc_eq, tlc_lt, tlc_ge, tlc_gt, tlc_le, w_if_eq, w_nil, true_and, and_true, Nat.reduceAdd, Nat.reduceSub, eq_self, tsh_79, tyk_10, tcq_10, tyk_21, tyk_22, tcq_32, tcq_5, nat_n, hbe]
        repeat refine And.intro (by omega) ?_
        refine ⟨fun _ => n75 _ _ hm hms, fun q => absurd (by omega) q⟩
  refine tb_X8_settle_31 (c := false) ?_
  simp only [kb_X8_settle_31, w_ic, w_ist_3, tkl_n, tkl_i, tkl_l, tkl_r, w_ist4, w_nil, true_and, and_true, Nat.reduceAdd, Nat.reduceSub, eq_self]
  exact n36 (be - 2) 0 0 (by omega) (by omega) (by omega) ⟨fun _ => rfl, fun _ => rfl⟩
end HAND
