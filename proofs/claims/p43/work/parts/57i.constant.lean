/-! THE CLASS, exactly: a shelf filled; constant. -/
theorem tsh_6 : tsh 6 = 16 := by rw [tsh_def]; decide +kernel
theorem tsh_7 : tsh 7 = 17 := by rw [tsh_def]; decide +kernel
theorem tsh_38 : tsh 38 = 18 := by rw [tsh_def]; decide +kernel
theorem tsh_39 : tsh 39 = 19 := by rw [tsh_def]; decide +kernel
theorem tsh_40 : tsh 40 = 20 := by rw [tsh_def]; decide +kernel
theorem tyk_16 : tyk 16 = (3, 4, 10) := rfl
theorem tyk_17 : tyk 17 = (1, 3, 10) := rfl
theorem tyk_18 : tyk 18 = (3, 4, 12) := rfl
theorem tyk_19 : tyk 19 = (1, 3, 12) := rfl
theorem tyk_20 : tyk 20 = (1, 1, 12) := rfl
theorem tyk_25 : tyk 25 = (3, 4, 128) := rfl
theorem tel_4 {k : Nat} {i x : Int} : tel 4 k i x = k + tqo k + 3 * i.toNat := rfl
theorem tqo_6 : tqo 6 = 2 := rfl
theorem tqo_38 : tqo 38 = 3 := rfl
theorem tqo_112 : tqo 112 = 1 := rfl
theorem cl_6 {i : Int} (h : 0 ≤ i ∧ i < 10) : cl (8 + 3 * i.toNat) 4 := by
  have h1 := cq_of (r := 6) (i := i) ⟨by decide, by rw [tsh_6]; rfl, by rw [tsh_6, tyk_16]; omega⟩
  rwa [tqo_6] at h1
theorem cl_38 {i : Int} (h : 0 ≤ i ∧ i < 12) : cl (41 + 3 * i.toNat) 4 := by
  have h1 := cq_of (r := 38) (i := i) ⟨by decide, by rw [tsh_38]; rfl, by rw [tsh_38, tyk_18]; omega⟩
  rwa [tqo_38] at h1
theorem cl_113 : cl 113 4 := ⟨by rw [tsh_def]; decide +kernel, by decide⟩
section HAND
variable {e : tE} {b d n : Nat} {M : tM}
theorem x_copyB {r x1 : Nat} (h0 : cl r 4) (h1 : cl x1 4) (hb : b < 2) (hC : CI M) (hd : 1 ≤ d) : tC e d 1026 [.inr (.inr (.inl r)), .inr (.inr (.inl x1))] M n (tQn n (fun M' => (CI M' ∧ pE b M M') ∧ ∀ (k : Nat) (i : Int), k ≠ r + 1 → k ≠ r + 2 → M' k i = M k i)) := by
  have hr := h0.1
  have hx := h1.1
  have hm1 := (bxl_1 h0).1
  have hm2 := (bxl_2 h0).1
  have hx1 := (bxl_1 h1).1
  have hx2 := (bxl_2 h1).1
  refine tst_X2_copy ?_
  refine tb_X2_copy_0 (c := true) ?_
  simp only [kb_X2_copy_0, w_ald_0, w_gf_4_0, tw_t, w_ald_1, w_iv1, tfr_0, tfr_1, tfr_2, tfr_3, tfr_4, w_gf_4_1, w_re, w64_r, true_and, and_true, Nat.reduceAdd, Nat.reduceSub, eq_self, tyk_4, tcq_4, tyk_3, tcq_3, hr, hx, hm1, hm2, hx1, hx2]
  refine tc_n (D := 0) (fun d' hd' => e_copy (b := b) (bxl_1 h0) (bxl_1 h1) (Or.inl hb) hC) (by omega) ?_
  rintro M1 ⟨-, q1⟩
  try simp only [kb_X2_copy_0, w_ald_0, w_gf_4_0, tw_t, w_ald_1, w_iv1, tfr_0, tfr_1, tfr_2, tfr_3, tfr_4, w_gf_4_1, w_re, w64_r, true_and, and_true, Nat.reduceAdd, Nat.reduceSub, eq_self, tyk_4, tcq_4, tyk_3, tcq_3, hr, hx, hm1, hm2, hx1, hx2]
  refine tc_n (D := 0) (fun d' hd' => e_copy (b := b) (bxl_2 h0) (bxl_2 h1) (Or.inl hb) q1.1) (by omega) ?_
  rintro M2 ⟨-, q2⟩
  try simp only [kb_X2_copy_0, w_ald_0, w_gf_4_0, tw_t, w_ald_1, w_iv1, tfr_0, tfr_1, tfr_2, tfr_3, tfr_4, w_gf_4_1, w_re, w64_r, true_and, and_true, Nat.reduceAdd, Nat.reduceSub, eq_self, tyk_4, tcq_4, tyk_3, tcq_3, hr, hx, hm1, hm2, hx1, hx2]
  exact ⟨rfl, rfl, ⟨q2.1, pE_tr q1.2.1 q2.2.1⟩, fun k i g1 g2 => (q2.2.2 k i g2).trans (q1.2.2 k i g1)⟩
theorem x_isShelf {x1 : Int} (h : 0 ≤ x1 ∧ x1 ≤ 9) : tC e d 2820 [.inr (.inr (.inl 5)), .inl x1] M n (tQi n (fun z M' => z = 1 ∧ M' = M)) := by
  refine tst_X9_isShelf ?_
  refine tb_X9_isShelf_0 (c := true) ?_
  simp only [kb_X9_isShelf_0, w_ild_1, w_if_lt, w_bi, w_ic_ge, w_ic, w_goto, w64_r, true_and, and_true, Nat.reduceAdd, Nat.reduceSub, eq_self]
  refine ⟨by omega, fun q => absurd q (by omega), fun _ => ?_⟩
  refine ⟨by omega, fun q => absurd q (by omega), fun _ => ?_⟩
  refine tb_X9_isShelf_15 (c := true) ?_
  simp only [kb_X9_isShelf_15, w_ire, trg, w64_r, true_and, and_true, Nat.reduceAdd, Nat.reduceSub, eq_self]
  exact ⟨by decide, _, rfl, rfl, rfl, rfl⟩
theorem x_fill {s : Int} {y : Nat} (hs : 0 ≤ s ∧ s ≤ 9) (hy : cl y 4) (hb : b < 2) (hC : CI M) (hd : 2 ≤ d) : tC e d 2818 [.inr (.inr (.inl 5)), .inl s, .inr (.inr (.inl y))] M n (tQn n (fun M' => (CI M' ∧ pE b M M') ∧ ∀ (k : Nat) (i : Int), 77 ≤ k → M' k i = M k i)) := by
  have hys := hy.1
  have k5 := cl_5
  refine tst_X9_fill ?_
  have n57 : ∀ (M1 : tM) (p : Int), (0 ≤ p ∧ p ≤ 11) → (CI M1 ∧ pE b M M1) → (∀ (k : Nat) (i : Int), 77 ≤ k → M1 k i = M k i) → tT e d 2818 57 [some (.inr (.inr (.inl (5)))), some (.inl (s)), some (.inr (.inr (.inl (y)))), some (.inl (p))] [] M1 n (tQn n (fun M' => (CI M' ∧ pE b M M') ∧ ∀ (k : Nat) (i : Int), 77 ≤ k → M' k i = M k i)) := by
    intro M1 p hp c1 f1
    have h7 : 0 ≤ M1 7 s ∧ M1 7 s ≤ 1 := by
      have h := c1.1.1 7 s (by decide) hs.1
      rw [tsh_7] at h
      exact h
    have c2 : CI (tU M1 40 p s) := CI_put c1.1 tsh_40 (fun _ => by show 0 ≤ s ∧ s ≤ 9; exact hs)
    have p2 : pE b M1 (tU M1 40 p s) := pE_put (prt_a (t := 1) (Or.inl hb) ⟨by decide, by rw [tsh_40]; rfl, by omega, by rw [tsh_40]; show _ < (12 : Int); omega⟩ (by decide) (fun q => by rw [tsh_40] at q; cases q))
    have c3 : CI (tU (tU M1 40 p s) 39 p (M1 7 s)) := CI_put c2 tsh_39 (fun _ => by show 0 ≤ M1 7 s ∧ M1 7 s ≤ 1; exact h7)
    have p3 : pE b (tU M1 40 p s) (tU (tU M1 40 p s) 39 p (M1 7 s)) := pE_put (prt_a (t := 3) (Or.inl hb) ⟨by decide, by rw [tsh_39]; rfl, by omega, by rw [tsh_39]; show _ < (12 : Int); omega⟩ (by decide) (fun q => by rw [tsh_39] at q; cases q))
    refine tb_X9_fill_57 (c := true) ?_
    simp only [kb_X9_fill_57, w_ald_0, w_gf_11_4, tw_t, w_ild_3, w_ild_1, w_ias, ne_eq, eq_self, not_true_eq_false, false_implies, w_gf_11_3, w_gf_11_1, w_ba, w_bas, w_gf_11_2, w_aa, w_gf_11_0, w_iv1, tfr_0, tfr_1, tfr_2, tfr_3, tfr_4, w_ald_2, w_ic, w_re, w64_r, true_and, and_true, Nat.reduceAdd, Nat.reduceSub, eq_self, tsh_5, tyk_11, tcq_11, tsh_6, tsh_7, tsh_38, tsh_39, tsh_40, tyk_16, tyk_17, tyk_18, tyk_19, tyk_20, tel_4, tqo_6, tqo_38, tyk_4, tcq_4]
    have e7 : tU M1 40 p s 7 s = M1 7 s := tU_nk (by decide)
    rw [e7]
    refine ⟨by omega, by omega, by omega, fun _ => h7, by omega, by omega, ?_⟩
    have f3 : ∀ (k : Nat) (i : Int), 77 ≤ k → tU (tU M1 40 p s) 39 p (M1 7 s) k i = M k i := fun k i q => (tU_nk (by omega)).trans ((tU_nk (by omega)).trans (f1 k i q))
    generalize tU (tU M1 40 p s) 39 p (M1 7 s) = M2 at c3 p3 f3 ⊢
    have hk1 := cl_38 (i := p) (by omega)
    have hk2 := cl_6 (i := s) (by omega)
    have s1 := hk1.1
    have s2 := hk2.1
    try simp only [kb_X9_fill_57, w_ald_0, w_gf_11_4, tw_t, w_ild_3, w_ild_1, w_ias, ne_eq, eq_self, not_true_eq_false, false_implies, w_gf_11_3, w_gf_11_1, w_ba, w_bas, w_gf_11_2, w_aa, w_gf_11_0, w_iv1, tfr_0, tfr_1, tfr_2, tfr_3, tfr_4, w_ald_2, w_ic, w_re, w64_r, true_and, and_true, Nat.reduceAdd, Nat.reduceSub, eq_self, tsh_5, tyk_11, tcq_11, tsh_6, tsh_7, tsh_38, tsh_39, tsh_40, tyk_16, tyk_17, tyk_18, tyk_19, tyk_20, tel_4, tqo_6, tqo_38, tyk_4, tcq_4, s1, s2]
    refine tc_n (D := 1) (fun d' hd' => x_copyB (b := b) hk1 hk2 hb c3 hd') (by omega) ?_
    rintro M3 ⟨⟨c4, p4⟩, f4⟩
    try simp only [kb_X9_fill_57, w_ald_0, w_gf_11_4, tw_t, w_ild_3, w_ild_1, w_ias, ne_eq, eq_self, not_true_eq_false, false_implies, w_gf_11_3, w_gf_11_1, w_ba, w_bas, w_gf_11_2, w_aa, w_gf_11_0, w_iv1, tfr_0, tfr_1, tfr_2, tfr_3, tfr_4, w_ald_2, w_ic, w_re, w64_r, true_and, and_true, Nat.reduceAdd, Nat.reduceSub, eq_self, tsh_5, tyk_11, tcq_11, tsh_6, tsh_7, tsh_38, tsh_39, tsh_40, tyk_16, tyk_17, tyk_18, tyk_19, tyk_20, tel_4, tqo_6, tqo_38, tyk_4, tcq_4, s1, s2]
    refine ⟨by omega, ?_⟩
    refine tc_n (D := 1) (fun d' hd' => x_copyB (b := b) hk2 hy hb c4 hd') (by omega) ?_
    rintro M4 ⟨⟨c5, p5⟩, f5⟩
    try simp only [kb_X9_fill_57, w_ald_0, w_gf_11_4, tw_t, w_ild_3, w_ild_1, w_ias, ne_eq, eq_self, not_true_eq_false, false_implies, w_gf_11_3, w_gf_11_1, w_ba, w_bas, w_gf_11_2, w_aa, w_gf_11_0, w_iv1, tfr_0, tfr_1, tfr_2, tfr_3, tfr_4, w_ald_2, w_ic, w_re, w64_r, true_and, and_true, Nat.reduceAdd, Nat.reduceSub, eq_self, tsh_5, tyk_11, tcq_11, tsh_6, tsh_7, tsh_38, tsh_39, tsh_40, tyk_16, tyk_17, tyk_18, tyk_19, tyk_20, tel_4, tqo_6, tqo_38, tyk_4, tcq_4, s1, s2]
    have c6 : CI (tU M4 7 s 1) := CI_put c5 tsh_7 (fun _ => by show (0 : Int) ≤ 1 ∧ (1 : Int) ≤ 1; decide)
    have p6 : pE b M4 (tU M4 7 s 1) := pE_put (prt_a (t := 3) (Or.inl hb) ⟨by decide, by rw [tsh_7]; rfl, by omega, by rw [tsh_7]; show _ < (10 : Int); omega⟩ (by decide) (fun q => by rw [tsh_7] at q; cases q))
    exact ⟨by omega, fun _ => by decide, rfl, rfl, ⟨c6, pE_tr c1.2 (pE_tr p2 (pE_tr p3 (pE_tr p4 (pE_tr p5 p6))))⟩, fun k i q => (tU_nk (by omega)).trans ((f5 k i (by omega) (by omega)).trans ((f4 k i (by omega) (by omega)).trans (f3 k i q)))⟩
  refine tb_X9_fill_0 (c := true) ?_
  simp only [kb_X9_fill_0, w_ald_0, w_ild_1, w_iv1, tfr_0, tfr_1, tfr_2, tfr_3, tfr_4, w_if_ne, w_re, w64_r, true_and, and_true, Nat.reduceAdd, Nat.reduceSub, eq_self, tsh_5, tyk_11, tcq_11, tsh_6, tsh_7, tsh_38, tsh_39, tsh_40, tyk_16, tyk_17, tyk_18, tyk_19, tyk_20, tel_4, tqo_6, tqo_38, tyk_4, tcq_4]
  refine tc_i (D := 0) (fun d' hd' => x_isShelf hs) (by omega) ?_
  rintro z M1 ⟨rfl, rfl⟩
  try simp only [kb_X9_fill_0, w_ald_0, w_ild_1, w_iv1, tfr_0, tfr_1, tfr_2, tfr_3, tfr_4, w_if_ne, w_re, w64_r, true_and, and_true, Nat.reduceAdd, Nat.reduceSub, eq_self, tsh_5, tyk_11, tcq_11, tsh_6, tsh_7, tsh_38, tsh_39, tsh_40, tyk_16, tyk_17, tyk_18, tyk_19, tyk_20, tel_4, tqo_6, tqo_38, tyk_4, tcq_4]
  refine ⟨by omega, fun _ => ?_, fun q => absurd q (by decide)⟩
  have h5 := CI_i (f := 5) hC cl_5 rfl
  have h6 := CI_i (f := 6) hC cl_5 rfl
  have h5 : 0 ≤ M1 5 5 ∧ M1 5 5 ≤ 11 := h5
  have h6 : 0 ≤ M1 5 6 ∧ M1 5 6 ≤ 12 := h6
  have em : ∀ x : Int, 0 ≤ x → x.tmod 12 = x % 12 := fun x h => Int.tmod_eq_emod_of_nonneg h
  refine tb_X9_fill_9 (c := true) ?_
  simp only [kb_X9_fill_9, w_ald_0, w_gf_11_5, tw_t, w_gf_11_6, w_iadd, w_bi, w_irem, w_ist_3, tkl_n, tkl_i, tkl_l, tkl_r, w_ic_ne, w_ic, w_pf_11_5, w_goto, w64_r, true_and, and_true, Nat.reduceAdd, Nat.reduceSub, eq_self, tsh_5, tyk_11, tcq_11, tsh_6, tsh_7, tsh_38, tsh_39, tsh_40, tyk_16, tyk_17, tyk_18, tyk_19, tyk_20, tel_4, tqo_6, tqo_38, tyk_4, tcq_4]
  rw [em _ (by omega)]
  refine ⟨by omega, by omega, fun q => ?_, fun q => ?_⟩
  · refine tb_X9_fill_47 (c := true) ?_
    simp only [kb_X9_fill_47, w_ald_0, w_dupi, w_dupr, w_gf_11_6, tw_t, w_ic, w_iadd, w_pf_11_6, w_nil, w64_r, true_and, and_true, Nat.reduceAdd, Nat.reduceSub, eq_self, tsh_5, tyk_11, tcq_11, tsh_6, tsh_7, tsh_38, tsh_39, tsh_40, tyk_16, tyk_17, tyk_18, tyk_19, tyk_20, tel_4, tqo_6, tqo_38, tyk_4, tcq_4]
    refine n57 _ _ (by omega) ⟨CI_put hC tsh_5 (fun _ => by show 0 ≤ M1 5 6 + 1 ∧ M1 5 6 + 1 ≤ 12; omega), pE_put (prt_f (a := 11) (f := 6) (Or.inl hb) cl_5 (by decide) (fun q => absurd q (by decide)) (by decide))⟩ (fun k i q => tU_nk (by omega))
  rw [em _ (by omega)]
  refine ⟨by omega, ?_⟩
  refine n57 _ _ (by omega) ⟨CI_put hC tsh_5 (fun _ => by show 0 ≤ (M1 5 5 + 1) % 12 ∧ (M1 5 5 + 1) % 12 ≤ 11; omega), pE_put (prt_f (a := 11) (f := 5) (Or.inl hb) cl_5 (by decide) (fun q => absurd q (by decide)) (by decide))⟩ (fun k i q => tU_nk (by omega))
theorem x_at0 : tC e d 2051 [.inr (.inr (.inl 77)), .inl 0] M n (tQr n (fun z M' => z = 113 ∧ M' = M)) := by
  refine tst_X6_at ?_
  refine tb_X6_at_0 (c := true) ?_
  simp only [kb_X6_at_0, w_ald_0, w_gf_8_1, tw_t, w_ild_1, w_if_lt, w_si, w_ic_lt, w_nil, w64_r, true_and, and_true, Nat.reduceAdd, Nat.reduceSub, eq_self, tsh_77, tsh_112, tyk_25, tel_4, tqo_112, tyk_8, tcq_8, tsh_78, tyk_2, tcq_2]
  refine ⟨by decide, fun q => absurd q (by decide), fun _ => ?_⟩
  refine ⟨by decide, fun _ => ?_, fun q => absurd (by decide) q⟩
  refine tb_X6_at_19 (c := true) ?_
  simp only [kb_X6_at_19, w_ild_1, w_nil, w64_r, true_and, and_true, Nat.reduceAdd, Nat.reduceSub, eq_self]
  refine tb_X6_at_20 (c := true) ?_
  simp only [kb_X6_at_20, w_aa, w_are, w64_r, true_and, and_true, Nat.reduceAdd, Nat.reduceSub, eq_self, tsh_77, tsh_112, tyk_25, tel_4, tqo_112, tyk_8, tcq_8, tsh_78, tyk_2, tcq_2]
  exact ⟨by decide, _, rfl, rfl, rfl, rfl⟩
theorem x_result (ht : M 77 2 = 1) (hd : 1 ≤ d) : tC e d 2063 [.inr (.inr (.inl 77))] M n (tQr n (fun z M' => z = 113 ∧ M' = M)) := by
  refine tst_X6_result ?_
  refine tb_X6_result_0 (c := true) ?_
  simp only [kb_X6_result_0, w_ald_0, w_gf_8_2, tw_t, w_ic, w_isub, w_iv1, tfr_0, tfr_1, tfr_2, tfr_3, tfr_4, w_are, w64_r, true_and, and_true, Nat.reduceAdd, Nat.reduceSub, eq_self, tsh_77, tsh_112, tyk_25, tel_4, tqo_112, tyk_8, tcq_8, tsh_78, tyk_2, tcq_2, ht]
  show tcall _ _ _ _ _ [_, .inl 0] _ _ _ _ _ _
  refine tc_r (D := 0) (fun d' hd' => x_at0) (by omega) ?_
  rintro z M1 ⟨rfl, rfl⟩
  try simp only [kb_X6_result_0, w_ald_0, w_gf_8_2, tw_t, w_ic, w_isub, w_iv1, tfr_0, tfr_1, tfr_2, tfr_3, tfr_4, w_are, w64_r, true_and, and_true, Nat.reduceAdd, Nat.reduceSub, eq_self, tsh_77, tsh_112, tyk_25, tel_4, tqo_112, tyk_8, tcq_8, tsh_78, tyk_2, tcq_2, ht]
  exact ⟨_, rfl, rfl, rfl, rfl⟩
/-- up to the act: the box that is made is the first of the stack -/
theorem x_make {x1 x3 x2 : Int} {Q : tR → tM → Nat → Prop} (h1 : x1 = 112 ∨ x1 = 69 ∨ x1 = 35) (ht : M 77 2 = 0) (hC : CI M) (hd : 1 ≤ d) (k : ∀ w5 w6, tT e d 2055 71 [some (.inr (.inr (.inl (77)))), some (.inl (x1)), some (.inr (.inl (x2))), none, some (.inl (x3)), w5, w6, some (.inr (.inr (.inl (113))))] [] M n Q) : tC e d 2055 [.inr (.inr (.inl 77)), .inl x1, .inr (.inl x2), .inl x3] M n Q := by
  refine tst_X6_make ?_
  refine tb_X6_make_0 (c := true) ?_
  simp only [kb_X6_make_0, w_ald_0, w_gf_8_2, tw_t, w_si, w_ic_lt, w_ic, w_ire, trg, w64_r, true_and, and_true, Nat.reduceAdd, Nat.reduceSub, eq_self, tsh_77, tsh_112, tyk_25, tel_4, tqo_112, tyk_8, tcq_8, tsh_78, tyk_2, tcq_2, ht]
  refine ⟨by omega, fun _ => ?_, fun h => absurd h (by decide)⟩
  refine tb_X6_make_12 (c := true) ?_
  simp only [kb_X6_make_12, w_ald_0, w_gf_8_2, tw_t, w_ic, w_isub, w_iv1, tfr_0, tfr_1, tfr_2, tfr_3, tfr_4, w_ast5, tkl_n, tkl_i, tkl_l, tkl_r, w_ast6, w_ast7, w_ild_1, w_is1, w_if_eq, w_ic_le, w_dupi, w_dupr, w_pf_8_2, w_nil, w64_r, true_and, and_true, Nat.reduceAdd, Nat.reduceSub, eq_self, tsh_77, tsh_112, tyk_25, tel_4, tqo_112, tyk_8, tcq_8, tsh_78, tyk_2, tcq_2, ht]
  refine tz_r (D := 0) (fun d' hd' => k_X6_at cl_77 (by omega) hd') hC (by omega) ?_
  intro x5 h5
  try simp only [kb_X6_make_12, w_ald_0, w_gf_8_2, tw_t, w_ic, w_isub, w_iv1, tfr_0, tfr_1, tfr_2, tfr_3, tfr_4, w_ast5, tkl_n, tkl_i, tkl_l, tkl_r, w_ast6, w_ast7, w_ild_1, w_is1, w_if_eq, w_ic_le, w_dupi, w_dupr, w_pf_8_2, w_nil, w64_r, true_and, and_true, Nat.reduceAdd, Nat.reduceSub, eq_self, tsh_77, tsh_112, tyk_25, tel_4, tqo_112, tyk_8, tcq_8, tsh_78, tyk_2, tcq_2, ht]
  refine tz_r (D := 0) (fun d' hd' => k_X6_at cl_77 (by omega) hd') hC (by omega) ?_
  intro x6 h6
  try simp only [kb_X6_make_12, w_ald_0, w_gf_8_2, tw_t, w_ic, w_isub, w_iv1, tfr_0, tfr_1, tfr_2, tfr_3, tfr_4, w_ast5, tkl_n, tkl_i, tkl_l, tkl_r, w_ast6, w_ast7, w_ild_1, w_is1, w_if_eq, w_ic_le, w_dupi, w_dupr, w_pf_8_2, w_nil, w64_r, true_and, and_true, Nat.reduceAdd, Nat.reduceSub, eq_self, tsh_77, tsh_112, tyk_25, tel_4, tqo_112, tyk_8, tcq_8, tsh_78, tyk_2, tcq_2, ht]
  refine tc_r (D := 0) (fun d' hd' => x_at0) (by omega) ?_
  rintro x7 M1 ⟨rfl, rfl⟩
  try simp only [kb_X6_make_12, w_ald_0, w_gf_8_2, tw_t, w_ic, w_isub, w_iv1, tfr_0, tfr_1, tfr_2, tfr_3, tfr_4, w_ast5, tkl_n, tkl_i, tkl_l, tkl_r, w_ast6, w_ast7, w_ild_1, w_is1, w_if_eq, w_ic_le, w_dupi, w_dupr, w_pf_8_2, w_nil, w64_r, true_and, and_true, Nat.reduceAdd, Nat.reduceSub, eq_self, tsh_77, tsh_112, tyk_25, tel_4, tqo_112, tyk_8, tcq_8, tsh_78, tyk_2, tcq_2, ht]
  refine tz_i (D := 0) (fun d' hd' => k_X5_isPair (by omega) hd') hC (by omega) ?_
  intro z hz
  try simp only [kb_X6_make_12, w_ald_0, w_gf_8_2, tw_t, w_ic, w_isub, w_iv1, tfr_0, tfr_1, tfr_2, tfr_3, tfr_4, w_ast5, tkl_n, tkl_i, tkl_l, tkl_r, w_ast6, w_ast7, w_ild_1, w_is1, w_if_eq, w_ic_le, w_dupi, w_dupr, w_pf_8_2, w_nil, w64_r, true_and, and_true, Nat.reduceAdd, Nat.reduceSub, eq_self, tsh_77, tsh_112, tyk_25, tel_4, tqo_112, tyk_8, tcq_8, tsh_78, tyk_2, tcq_2, ht]
  refine ⟨by omega, fun _ => k _ _, fun _ => ?_⟩
  refine ⟨by omega, fun _ => k _ _, fun h => absurd h (by decide)⟩
/-- the box of a constant is never single -/
def CW (M : tM) : Prop := (M 114 0 * 10000000000 + M 114 1 < M 115 0 * 10000000000 + M 115 1) ∧ (-5 ≤ M 114 0 ∧ M 114 0 ≤ 5) ∧ (-5 ≤ M 115 0 ∧ M 115 0 ≤ 5) ∧ (0 ≤ M 114 1 ∧ M 114 1 < 10000000000) ∧ (0 ≤ M 115 1 ∧ M 115 1 < 10000000000)
theorem x_makeC {x1 x3 x2 : Int} (h1 : x1 = 112 ∨ x1 = 69) (hu : 1 ≤ M 78 5 ∧ M 78 5 ≤ 10000000000) (ht : M 77 2 = 0) (hb : b < 2) (hC : CI M) (hd : 7 ≤ d) : tC e d 2055 [.inr (.inr (.inl 77)), .inl x1, .inr (.inl x2), .inl x3] M n (tQi n (fun z M' => z = 0 ∧ (CI M' ∧ pE b M M') ∧ M' 77 2 = 1 ∧ CW M')) := by
  refine x_make (by omega) ht hC (by omega) (fun w5 w6 => ?_)
  have n195 : tT e d 2055 195 [some (.inr (.inr (.inl (77)))), some (.inl (x1)), some (.inr (.inl (x2))), none, some (.inl (x3)), w5, w6, some (.inr (.inr (.inl (113))))] [] M n (tQi n (fun z M' => z = 0 ∧ (CI M' ∧ pE b M M') ∧ M' 77 2 = 1 ∧ CW M')) := by
    refine tb_X6_make_195 (c := true) ?_
    simp only [kb_X6_make_195, w_ald_0, w_dupi, w_dupr, w_gf_8_2, tw_t, w_ic, w_iadd, w_pf_8_2, w_gf_8_0, w_ald7, w_ild_1, w_iv2, tfr_0, tfr_1, tfr_2, tfr_3, tfr_4, w_ire, trg, w64_r, true_and, and_true, Nat.reduceAdd, Nat.reduceSub, eq_self, tsh_77, tsh_112, tyk_25, tel_4, tqo_112, tyk_8, tcq_8, tsh_78, tyk_2, tcq_2, ht]
    have hp : pE b M (tU M 77 2 1) := pE_put (prt_f (a := 8) (f := 2) (Or.inl hb) cl_77 (by decide) (fun _ q => absurd q (by decide)) (by decide))
    have hC2 : CI (tU M 77 2 1) := CI_put (s := 8) hC tsh_77 (fun _ => by show (0 : Int) ≤ 1 ∧ (1 : Int) ≤ 128; omega)
    have hu2 : tU M 77 2 1 78 5 = M 78 5 := tU_nk (by decide)
    have h7 : tU M 77 2 1 77 2 = 1 := tU_eq ..
    have hz1 : (0 : Int) + 1 = 1 := rfl
    rw [hz1]
    generalize tU M 77 2 1 = M2 at hp hC2 hu2 h7 ⊢
    refine tc_i (D := 3) (fun d' hd' => x_tellConstant (b := b) cl_113 (by omega) (by rw [hu2]; exact hu) hb hC2 hd') (by omega) ?_
    rintro z M1 ⟨rfl, q1, ⟨q2, q3⟩, q4⟩
    try simp only [kb_X6_make_195, w_ald_0, w_dupi, w_dupr, w_gf_8_2, tw_t, w_ic, w_iadd, w_pf_8_2, w_gf_8_0, w_ald7, w_ild_1, w_iv2, tfr_0, tfr_1, tfr_2, tfr_3, tfr_4, w_ire, trg, w64_r, true_and, and_true, Nat.reduceAdd, Nat.reduceSub, eq_self, tsh_77, tsh_112, tyk_25, tel_4, tqo_112, tyk_8, tcq_8, tsh_78, tyk_2, tcq_2, ht]
    exact ⟨_, rfl, rfl, rfl, ⟨q2, pE_tr hp q3⟩, (q4 77 2 (by decide) (by decide) (by decide) (by decide)).trans h7, q1⟩
  rcases h1 with rfl | rfl
  · refine tb_X6_make_71 (c := true) ?_
    simp only [kb_X6_make_71, w_ild_1, w_sw, tsw, w64_r, true_and, and_true, Nat.reduceAdd, Nat.reduceSub, eq_self]
    refine ⟨by omega, ?_⟩
    repeat refine ⟨fun h => absurd h (by decide), fun _ => ?_⟩
    refine ⟨fun _ => ?_, fun h => absurd rfl h⟩
    exact n195
  · refine tb_X6_make_71 (c := true) ?_
    simp only [kb_X6_make_71, w_ild_1, w_sw, tsw, w64_r, true_and, and_true, Nat.reduceAdd, Nat.reduceSub, eq_self]
    refine ⟨by omega, ?_⟩
    repeat refine ⟨fun h => absurd h (by decide), fun _ => ?_⟩
    refine ⟨fun _ => ?_, fun h => absurd rfl h⟩
    exact n195
theorem tsh_113 : tsh 113 = 4 := cl_113.1
/-- the first box of the stack, as bounds are -/
def BW (M : tM) : Prop := ((-9223372036854775808 ≤ M 114 0 ∧ M 114 0 < 9223372036854775808) ∧ (-9223372036854775808 ≤ M 115 0 ∧ M 115 0 < 9223372036854775808)) ∧ ((-9223372036854775808 ≤ M 114 1 ∧ M 114 1 < 9223372036854775808) ∧ (-9223372036854775808 ≤ M 115 1 ∧ M 115 1 < 9223372036854775808))
def BS (M : tM) : Prop := M 114 0 = M 115 0 ∧ M 114 1 = M 115 1
theorem x_fillX {s : Int} (hs : 0 ≤ s ∧ s ≤ 9) (hw : BW M) (hb : b < 2) (hC : CI M) (hd : 3 ≤ d) : tC e d 3357 [.inr (.inr (.inl 0)), .inl s, .inr (.inr (.inl 113))] M n (tQi n (fun z M' => ((z = 1 ∧ BS M) ∨ (z = 0 ∧ ¬ BS M)) ∧ (CI M' ∧ pE b M M'))) := by
  refine tst_X11_fill ?_
  refine tb_X11_fill_0 (c := true) ?_
  simp only [kb_X11_fill_0, w_ald_0, w_gf_13_3, tw_t, w_ild_1, w_ald_2, w_iv2, tfr_0, tfr_1, tfr_2, tfr_3, tfr_4, w_iv0, w_ire, trg, w64_r, true_and, and_true, Nat.reduceAdd, Nat.reduceSub, eq_self, tsh_0, tyk_13, tsh_77, tyk_8, tcq_8, tsh_5, tyk_11, tcq_13, tcq_11, tyk_4, tcq_4, tsh_113]
  refine tc_n (D := 2) (fun d' hd' => x_fill (b := b) hs cl_113 hb hC hd') (by omega) ?_
  rintro M1 ⟨⟨c1, p1⟩, f1⟩
  try simp only [kb_X11_fill_0, w_ald_0, w_gf_13_3, tw_t, w_ild_1, w_ald_2, w_iv2, tfr_0, tfr_1, tfr_2, tfr_3, tfr_4, w_iv0, w_ire, trg, w64_r, true_and, and_true, Nat.reduceAdd, Nat.reduceSub, eq_self, tsh_0, tyk_13, tsh_77, tyk_8, tcq_8, tsh_5, tyk_11, tcq_13, tcq_11, tyk_4, tcq_4, tsh_113]
  have g1 : ∀ i, M1 114 i = M 114 i := fun i => f1 114 i (by decide)
  have g2 : ∀ i, M1 115 i = M 115 i := fun i => f1 115 i (by decide)
  refine tc_i (D := 2) (fun d' hd' => x_isSingle (M := M1) cl_113 (by rw [g1, g1, g2, g2]; exact hw) hd') (by omega) ?_
  rintro z M2 ⟨q, rfl⟩
  try simp only [kb_X11_fill_0, w_ald_0, w_gf_13_3, tw_t, w_ild_1, w_ald_2, w_iv2, tfr_0, tfr_1, tfr_2, tfr_3, tfr_4, w_iv0, w_ire, trg, w64_r, true_and, and_true, Nat.reduceAdd, Nat.reduceSub, eq_self, tsh_0, tyk_13, tsh_77, tyk_8, tcq_8, tsh_5, tyk_11, tcq_13, tcq_11, tyk_4, tcq_4, tsh_113]
  rw [g1, g1, g2, g2] at q
  exact ⟨by omega, _, rfl, rfl, q, c1, p1⟩
theorem x_become {s : Int} (hs : 0 ≤ s ∧ s ≤ 9) (ht : M 77 2 = 1) (hw : BW M) (hb : b < 2) (hC : CI M) (hd : 4 ≤ d) : tC e d 3332 [.inr (.inr (.inl 0)), .inl s, .inl 0] M n (tQi n (fun z M' => ((z = 1 ∧ BS M) ∨ (z = 0 ∧ ¬ BS M)) ∧ (CI M' ∧ pE b M M'))) := by
  refine tst_X11_become ?_
  refine tb_X11_become_0 (c := true) ?_
  simp only [kb_X11_become_0, w_ald_0, w_ild_2, w_iv1, tfr_0, tfr_1, tfr_2, tfr_3, tfr_4, w_ild_1, w_gf_13_4, tw_t, w_iv0, w_iv2, w_ire, trg, w64_r, true_and, and_true, Nat.reduceAdd, Nat.reduceSub, eq_self, tsh_0, tyk_13, tsh_77, tyk_8, tcq_8, tsh_5, tyk_11, tcq_13, tcq_11, tyk_4, tcq_4, tsh_113]
  refine tz_xn (D := 0) (fun d' hd' => k_X11_checkStatus cl_0 (by omega) hd') hC (by omega) rfl ?_ ?_
  · intro _
    try simp only [kb_X11_become_0, w_ald_0, w_ild_2, w_iv1, tfr_0, tfr_1, tfr_2, tfr_3, tfr_4, w_ild_1, w_gf_13_4, tw_t, w_iv0, w_iv2, w_ire, trg, w64_r, true_and, and_true, Nat.reduceAdd, Nat.reduceSub, eq_self, tsh_0, tyk_13, tsh_77, tyk_8, tcq_8, tsh_5, tyk_11, tcq_13, tcq_11, tyk_4, tcq_4, tsh_113]
    refine tc_r (D := 1) (fun d' hd' => x_result ht hd') (by omega) ?_
    rintro r M1 ⟨rfl, rfl⟩
    try simp only [kb_X11_become_0, w_ald_0, w_ild_2, w_iv1, tfr_0, tfr_1, tfr_2, tfr_3, tfr_4, w_ild_1, w_gf_13_4, tw_t, w_iv0, w_iv2, w_ire, trg, w64_r, true_and, and_true, Nat.reduceAdd, Nat.reduceSub, eq_self, tsh_0, tyk_13, tsh_77, tyk_8, tcq_8, tsh_5, tyk_11, tcq_13, tcq_11, tyk_4, tcq_4, tsh_113]
    refine tc_i (D := 3) (fun d' hd' => x_fillX (b := b) hs hw hb hC hd') (by omega) ?_
    rintro z M2 ⟨q1, q2⟩
    try simp only [kb_X11_become_0, w_ald_0, w_ild_2, w_iv1, tfr_0, tfr_1, tfr_2, tfr_3, tfr_4, w_ild_1, w_gf_13_4, tw_t, w_iv0, w_iv2, w_ire, trg, w64_r, true_and, and_true, Nat.reduceAdd, Nat.reduceSub, eq_self, tsh_0, tyk_13, tsh_77, tyk_8, tcq_8, tsh_5, tyk_11, tcq_13, tcq_11, tyk_4, tcq_4, tsh_113]
    exact ⟨by omega, _, rfl, rfl, q1, q2⟩
  · intro s hs
    exfalso
    rcases hs with h | h <;> omega
theorem x_checkShelf {x1 : Int} (h1 : -2147483648 ≤ x1 ∧ x1 ≤ 2147483647) : tC e d 3344 [.inr (.inr (.inl 0)), .inl x1] M n (fun v M' n' => ((0 ≤ x1 ∧ x1 ≤ 9) ∧ v = .inl none ∧ n' = n ∧ M' = M) ∨ (¬ (0 ≤ x1 ∧ x1 ≤ 9) ∧ v = .inr "java/lang/IndexOutOfBoundsException" ∧ n' = n + 1 ∧ M' = M)) := by
  refine tst_X11_checkShelf ?_
  have n10 : ¬ (0 ≤ x1 ∧ x1 ≤ 9) → tT e d 3344 10 [some (.inr (.inr (.inl (0)))), some (.inl (x1))] [] M n (fun v M' n' => ((0 ≤ x1 ∧ x1 ≤ 9) ∧ v = .inl none ∧ n' = n ∧ M' = M) ∨ (¬ (0 ≤ x1 ∧ x1 ≤ 9) ∧ v = .inr "java/lang/IndexOutOfBoundsException" ∧ n' = n + 1 ∧ M' = M)) := by
    intro h
    refine tb_X11_checkShelf_10 (c := true) ?_
    simp only [kb_X11_checkShelf_10, w_new, w64_r, true_and, and_true, Nat.reduceAdd, Nat.reduceSub, eq_self]
    exact Or.inr ⟨h, rfl⟩
  refine tb_X11_checkShelf_0 (c := true) ?_
  simp only [kb_X11_checkShelf_0, w_ild_1, w_if_lt, w_bi, w_ic_lt, w_nil, w64_r, true_and, and_true, Nat.reduceAdd, Nat.reduceSub, eq_self]
  refine ⟨by omega, fun h => n10 (by omega), fun h => ?_⟩
  refine ⟨by omega, fun h2 => ?_, fun h2 => n10 (by omega)⟩
  refine tb_X11_checkShelf_21 (c := true) ?_
  simp only [kb_X11_checkShelf_21, w_re, w64_r, true_and, and_true, Nat.reduceAdd, Nat.reduceSub, eq_self]
  exact Or.inl (by omega)
theorem tc_cs {mi D a : Nat} {x1 : Int} {o : bO} {rest : List tV} {L : tL} {Q : tR → tM → Nat → Prop} {k : tL → List tV → tM → Nat → Prop} (h1 : -2147483648 ≤ x1 ∧ x1 ≤ 2147483647) (hd : 1 ≤ d) (ht : tth mi o = true) (hk : (0 ≤ x1 ∧ x1 ≤ 9) → k L rest M n) (hx : ¬ (0 ≤ x1 ∧ x1 ≤ 9) → Q (.inr "java/lang/IndexOutOfBoundsException") M (n + 1)) : tcall e d mi 3344 o [.inr (.inr (.inl 0)), .inl x1] rest L M n Q k := by
  refine ⟨d - 1, by omega, _, x_checkShelf h1, ?_, ?_⟩
  · rintro v M' n' (⟨h, q, rfl, rfl⟩ | ⟨h, q, _⟩)
    · cases q
      exact hk h
    · cases q
  · rintro x M' n' (⟨h, q, _⟩ | ⟨h, q, rfl, rfl⟩)
    · cases q
    · cases q
      exact ⟨ht, hx h⟩
theorem x_constant {x1 x2 : Int} (h1 : -2147483648 ≤ x1 ∧ x1 ≤ 2147483647) (h2 : 0 ≤ x2 ∧ x2 ≤ 65535) (hu : 1 ≤ M 78 5 ∧ M 78 5 ≤ 10000000000) (hC : CI M) (hd : 8 ≤ d) : tC e d 3350 [.inr (.inr (.inl 0)), .inl x1, .inl x2] M n (fun v M' n' => ((0 ≤ x1 ∧ x1 ≤ 9) ∧ (x2 = 112 ∨ x2 = 101) ∧ v = .inl (some (.inl 0)) ∧ n' = n ∧ CI M' ∧ pE 0 M M') ∨ (¬ (0 ≤ x1 ∧ x1 ≤ 9) ∧ v = .inr "java/lang/IndexOutOfBoundsException" ∧ n' = n + 1 ∧ M' = M) ∨ ((0 ≤ x1 ∧ x1 ≤ 9) ∧ ¬ (x2 = 112 ∨ x2 = 101) ∧ v = .inr "java/lang/IllegalArgumentException" ∧ n' = n + 1 ∧ M' = M)) := by
  refine tst_X11_constant ?_
  have n53 : ∀ (M1 : tM) (z : Int), (0 ≤ x1 ∧ x1 ≤ 9) → (x2 = 112 ∨ x2 = 101) → (z = 112 ∨ z = 69) → M1 77 2 = 0 → CI M1 → pE 0 M M1 → tT e d 3350 53 [some (.inr (.inr (.inl (0)))), some (.inl (x1)), some (.inl (x2))] [.inl z, .inr (.inr (.inl 77)), .inl x1, .inr (.inr (.inl 0))] M1 n (fun v M' n' => ((0 ≤ x1 ∧ x1 ≤ 9) ∧ (x2 = 112 ∨ x2 = 101) ∧ v = .inl (some (.inl 0)) ∧ n' = n ∧ CI M' ∧ pE 0 M M') ∨ (¬ (0 ≤ x1 ∧ x1 ≤ 9) ∧ v = .inr "java/lang/IndexOutOfBoundsException" ∧ n' = n + 1 ∧ M' = M) ∨ ((0 ≤ x1 ∧ x1 ≤ 9) ∧ ¬ (x2 = 112 ∨ x2 = 101) ∧ v = .inr "java/lang/IllegalArgumentException" ∧ n' = n + 1 ∧ M' = M)) := by
    intro M1 z hs hx hz ht hC1 hE
    have e78 : M1 78 5 = M 78 5 := hE 78 5 (Or.inr (Or.inr (Or.inr ⟨rfl, rfl⟩)))
    refine tb_X11_constant_53 (c := true) ?_
    simp only [kb_X11_constant_53, w_lc0, w_ic, w_iv3, tfr_0, tfr_1, tfr_2, tfr_3, tfr_4, w_iv2, w_ire, trg, w64_r, true_and, and_true, Nat.reduceAdd, Nat.reduceSub, eq_self, tsh_0, tyk_13, tsh_77, tyk_8, tcq_8, tsh_5, tyk_11, tcq_13, tcq_11, tyk_4, tcq_4, tsh_113]
    refine tc_i (D := 7) (fun d' hd' => x_makeC (b := 0) hz (by rw [e78]; exact hu) ht (by decide) hC1 hd') (by omega) ?_
    rintro z1 M2 ⟨rfl, ⟨q1, q2⟩, q3, q4⟩
    try simp only [kb_X11_constant_53, w_lc0, w_ic, w_iv3, tfr_0, tfr_1, tfr_2, tfr_3, tfr_4, w_iv2, w_ire, trg, w64_r, true_and, and_true, Nat.reduceAdd, Nat.reduceSub, eq_self, tsh_0, tyk_13, tsh_77, tyk_8, tcq_8, tsh_5, tyk_11, tcq_13, tcq_11, tyk_4, tcq_4, tsh_113]
    have hbw : BW M2 := by
      unfold CW at q4
      unfold BW
      omega
    have hbs : ¬ BS M2 := by
      unfold CW at q4
      unfold BS
      rintro ⟨g1, g2⟩
      omega
    refine tc_i (D := 4) (fun d' hd' => x_become (b := 0) hs q3 hbw (by decide) q1 hd') (by omega) ?_
    rintro z M3 ⟨q5, c1, c2⟩
    try simp only [kb_X11_constant_53, w_lc0, w_ic, w_iv3, tfr_0, tfr_1, tfr_2, tfr_3, tfr_4, w_iv2, w_ire, trg, w64_r, true_and, and_true, Nat.reduceAdd, Nat.reduceSub, eq_self, tsh_0, tyk_13, tsh_77, tyk_8, tcq_8, tsh_5, tyk_11, tcq_13, tcq_11, tyk_4, tcq_4, tsh_113]
    have hz0 : z = 0 := by
      rcases q5 with q | q
      · exact absurd q.2 hbs
      · exact q.1
    subst hz0
    exact ⟨by decide, Or.inl ⟨hs, hx, rfl, c1, pE_tr hE (pE_tr q2 c2)⟩⟩
  have n27 : (0 ≤ x1 ∧ x1 ≤ 9) → (x2 = 112 ∨ x2 = 101) → tT e d 3350 27 [some (.inr (.inr (.inl (0)))), some (.inl (x1)), some (.inl (x2))] [] M n (fun v M' n' => ((0 ≤ x1 ∧ x1 ≤ 9) ∧ (x2 = 112 ∨ x2 = 101) ∧ v = .inl (some (.inl 0)) ∧ n' = n ∧ CI M' ∧ pE 0 M M') ∨ (¬ (0 ≤ x1 ∧ x1 ≤ 9) ∧ v = .inr "java/lang/IndexOutOfBoundsException" ∧ n' = n + 1 ∧ M' = M) ∨ ((0 ≤ x1 ∧ x1 ≤ 9) ∧ ¬ (x2 = 112 ∨ x2 = 101) ∧ v = .inr "java/lang/IllegalArgumentException" ∧ n' = n + 1 ∧ M' = M)) := by
    intro hs hx
    refine tb_X11_constant_27 (c := true) ?_
    simp only [kb_X11_constant_27, w_ald_0, w_gf_13_4, tw_t, w_iv0, tfr_0, tfr_1, tfr_2, tfr_3, tfr_4, w_ild_1, w_ild_2, w_bi, w_ic_ne, w_goto, w64_r, true_and, and_true, Nat.reduceAdd, Nat.reduceSub, eq_self, tsh_0, tyk_13, tsh_77, tyk_8, tcq_8, tsh_5, tyk_11, tcq_13, tcq_11, tyk_4, tcq_4, tsh_113]
    refine tc_n (D := 0) (fun d' hd' => e_clear (b := 0) (by decide) hC) (by omega) ?_
    rintro M1 ⟨q1, q2, q3⟩
    try simp only [kb_X11_constant_27, w_ald_0, w_gf_13_4, tw_t, w_iv0, tfr_0, tfr_1, tfr_2, tfr_3, tfr_4, w_ild_1, w_ild_2, w_bi, w_ic_ne, w_goto, w64_r, true_and, and_true, Nat.reduceAdd, Nat.reduceSub, eq_self, tsh_0, tyk_13, tsh_77, tyk_8, tcq_8, tsh_5, tyk_11, tcq_13, tcq_11, tyk_4, tcq_4, tsh_113]
    refine ⟨by omega, fun h => ?_, fun h => ?_⟩
    · refine tb_X11_constant_51 (c := true) ?_
      simp only [kb_X11_constant_51, w_bi, w_nil, w64_r, true_and, and_true, Nat.reduceAdd, Nat.reduceSub, eq_self]
      exact n53 M1 69 hs hx (Or.inr rfl) q1 q2 q3
    exact n53 M1 112 hs hx (Or.inl rfl) q1 q2 q3
  refine tb_X11_constant_0 (c := true) ?_
  simp only [kb_X11_constant_0, w_ald_0, w_ild_1, w_iv1, tfr_0, tfr_1, tfr_2, tfr_3, tfr_4, w_ild_2, w_bi, w_ic_eq, w_new, w64_r, true_and, and_true, Nat.reduceAdd, Nat.reduceSub, eq_self, tsh_0, tyk_13, tsh_77, tyk_8, tcq_8, tsh_5, tyk_11, tcq_13, tcq_11, tyk_4, tcq_4, tsh_113]
  refine tc_cs (D := 0) (a := 0) h1 (by omega) rfl (fun hs => ?_) (fun hs => Or.inr (Or.inl ⟨hs, rfl, rfl, rfl⟩))
  try simp only [kb_X11_constant_0, w_ald_0, w_ild_1, w_iv1, tfr_0, tfr_1, tfr_2, tfr_3, tfr_4, w_ild_2, w_bi, w_ic_eq, w_new, w64_r, true_and, and_true, Nat.reduceAdd, Nat.reduceSub, eq_self, tsh_0, tyk_13, tsh_77, tyk_8, tcq_8, tsh_5, tyk_11, tcq_13, tcq_11, tyk_4, tcq_4, tsh_113]
  refine ⟨by omega, fun h => n27 hs (by omega), fun h => ?_⟩
  refine ⟨by omega, fun h3 => n27 hs (by omega), fun h3 => ?_⟩
  exact Or.inr (Or.inr ⟨hs, by omega, rfl⟩)
end HAND
