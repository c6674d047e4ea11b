/-! WHAT HOLDS BETWEEN CALLS: kept by what fills a shelf. -/
/-- where a formula's parts start -/
def STF (M : tM) (r : Nat) : Prop := ∀ i : Nat, (i : Int) < M r 4 → ∃ s : Nat, M (r + 4) (i : Int) = (s : Int) ∧ s ≤ i ∧ hA (fun k => M (r + 1) (k : Int)) s + 1 = hA (fun k => M (r + 1) (k : Int)) (i + 1) ∧ ∀ j : Nat, s < j → j ≤ i → hA (fun k => M (r + 1) (k : Int)) s + 1 ≤ hA (fun k => M (r + 1) (k : Int)) j
/-- what holds between calls -/
def KW (M : tM) : Prop := CV M ∧ ((∀ k : Nat, k < 12 → BXG M (41 + 3 * k)) ∧ ∀ i : Nat, i < 8 → BXG M (532 + 3 * i)) ∧ ∀ r : Nat, FMC r → M r 6 = 1 → STF M r
/-- the kept cells -/
def KPC (k : Nat) : Prop := (8 ≤ k ∧ k ≤ 37) ∨ (41 ≤ k ∧ k ≤ 76) ∨ (500 ≤ k ∧ k ≤ 529) ∨ (532 ≤ k ∧ k ≤ 555)
theorem STF_f {M M1 : tM} {r : Nat} (h : STF M r) (q : ∀ (k : Nat) (i : Int), r ≤ k ∧ k ≤ r + 5 → M1 k i = M k i) : STF M1 r := by
  have q1 : (fun k : Nat => M1 (r + 1) (k : Int)) = fun k : Nat => M (r + 1) (k : Int) := funext fun k => q _ _ (by omega)
  unfold STF
  rw [q1, q r 4 (by omega)]
  intro i hi
  rw [q (r + 4) _ (by omega)]
  exact h i hi
theorem UN_f {M M1 : tM} (h : UN M) (p : pE 0 M M1) : UN M1 := by
  unfold UN
  rw [UN_78 p, p 0 0 (Or.inl (Or.inr (Or.inl ⟨rfl, rfl⟩)))]
  exact h
theorem KW_f {M M1 : tM} (h : KW M) (p : pE 0 M M1) (ro : RO M1) (f : ∀ (k : Nat) (i : Int), KPC k → M1 k i = M k i) : KW M1 := by
  obtain ⟨⟨⟨h1, h2⟩, h3, h4⟩, ⟨h5, h6⟩, h7⟩ := h
  have fr : ∀ r : Nat, FMC r → ∀ (k : Nat) (i : Int), r ≤ k ∧ k ≤ r + 5 → M1 k i = M k i := fun r hr k i g => f k i (by unfold FMC at hr; unfold KPC; omega)
  refine ⟨⟨⟨UN_f h1 p, ro⟩, fun s hs => BXG_f (h3 s hs) (fun i => f _ _ (by unfold KPC; omega)) (fun i => f _ _ (by unfold KPC; omega)), fun r hr hd => ?_⟩, ⟨fun k hk => BXG_f (h5 k hk) (fun i => f _ _ (by unfold KPC; omega)) (fun i => f _ _ (by unfold KPC; omega)), fun k hk => BXG_f (h6 k hk) (fun i => f _ _ (by unfold KPC; omega)) (fun i => f _ _ (by unfold KPC; omega))⟩, fun r hr hd => ?_⟩
  · rw [f r 6 (by unfold FMC at hr; unfold KPC; omega)] at hd
    obtain ⟨c, hc⟩ := h4 r hr hd
    exact ⟨c, WFF_f hc (fr r hr)⟩
  · rw [f r 6 (by unfold FMC at hr; unfold KPC; omega)] at hd
    exact STF_f (h7 r hr hd) (fr r hr)
theorem BXG_c {b q x : Nat} {M M1 : tM} (h : BXG M q) (hq : cl q 4) (hx : cl x 4) (f : BE b M M1 x) (g : BXG M1 x) : BXG M1 q := by
  by_cases e : q = x
  · rw [e]
    exact g
  · have a := bx_ne hq hx
    exact BXG_f h (fun i => f.2 _ _ (by omega) (by omega)) (fun i => f.2 _ _ (by omega) (by omega))
theorem cl_kp {s : Nat} (h : s < 12) : cl (41 + 3 * s) 4 := by
  have g : (List.range 12).all (fun i => Nat.beq (tshl.getD (41 + 3 * i) 0) 4) = true := by decide +kernel
  refine ⟨?_, by omega⟩
  rw [tsh_def]
  exact Nat.eq_of_beq_eq_true (List.all_eq_true.mp g s (List.mem_range.mpr h))
theorem cl_fd {s : Nat} (h : s < 8) : cl (532 + 3 * s) 4 := by
  have g : (List.range 8).all (fun i => Nat.beq (tshl.getD (532 + 3 * i) 0) 4) = true := by decide +kernel
  refine ⟨?_, by omega⟩
  rw [tsh_def]
  exact Nat.eq_of_beq_eq_true (List.all_eq_true.mp g s (List.mem_range.mpr h))
/-- a good box comes to stand in any box -/
theorem KW_c {x : Nat} {M M1 : tM} (h : KW M) (hx : cl x 4) (f : BE 0 M M1 x) (g : BXG M1 x) : KW M1 := by
  obtain ⟨⟨⟨h1, h2⟩, h3, h4⟩, ⟨h5, h6⟩, h7⟩ := h
  have n3 : ∀ (k : Nat) (i : Int), tsh k ≠ 3 → M1 k i = M k i := fun k i q => f.2 k i (fun e => q (by rw [e]; exact (bxl_1 hx).1)) (fun e => q (by rw [e]; exact (bxl_2 hx).1))
  have fr : ∀ r : Nat, FMC r → ∀ (k : Nat) (i : Int), r ≤ k ∧ k ≤ r + 5 → M1 k i = M k i := fun r hr k i g => n3 k i (by
    obtain ⟨a1, a2, a3, a4, a5, a6⟩ := FM_of hr
    rcases (show k = r ∨ k = r + 1 ∨ k = r + 2 ∨ k = r + 3 ∨ k = r + 4 ∨ k = r + 5 by omega) with rfl | rfl | rfl | rfl | rfl | rfl
    · rw [a1]; decide
    · rw [a2]; decide
    · rw [a3]; decide
    · rw [a4]; decide
    · rw [a5]; decide
    · rw [a6]; decide)
  have t79 : tsh 79 ≠ 3 := by rw [tsh_def]; decide +kernel
  refine ⟨⟨⟨UN_f h1 f.1.2, RO_u h2 (n3 79 4 t79) (n3 79 5 t79)⟩, fun s hs => BXG_c (h3 s hs) (cl_sh hs) hx f g, fun r hr hd => ?_⟩, ⟨fun k hk => BXG_c (h5 k hk) (cl_kp hk) hx f g, fun k hk => BXG_c (h6 k hk) (cl_fd hk) hx f g⟩, fun r hr hd => ?_⟩
  · rw [fr r hr r 6 (by omega)] at hd
    obtain ⟨c, hc⟩ := h4 r hr hd
    exact ⟨c, WFF_f hc (fr r hr)⟩
  · rw [fr r hr r 6 (by omega)] at hd
    exact STF_f (h7 r hr hd) (fr r hr)
/-- what a call leaves -/
def KA (M M' : tM) : Prop := (CI M' ∧ pE 0 M M') ∧ KW M'
theorem KA_refl {M : tM} (hC : CI M) (h : KW M) : KA M M := ⟨⟨hC, pE_refl⟩, h⟩
theorem KA_tr {M M1 M2 : tM} (h : pE 0 M M1) (g : KA M1 M2) : KA M M2 := ⟨⟨g.1.1, pE_tr h g.1.2⟩, g.2⟩
/-- the machine's cells, the class's own boxes: not kept -/
theorem KA_f {M M1 : tM} (h : KW M) (hC : CI M1) (p : pE 0 M M1) (ro : RO M1) (f : ∀ (k : Nat) (i : Int), KPC k → M1 k i = M k i) : KA M M1 := ⟨⟨hC, p⟩, KW_f h p ro f⟩
theorem KA_m {M M1 : tM} (h : KW M) (ro : RO M1) (f : MKF 0 M M1) : KA M M1 := KA_f h f.1.1 f.1.2 ro (fun k i g => f.2.2 k i (by unfold KPC at g; omega))
theorem KA_b {M M1 : tM} {x : Nat} (h : KW M) (hx : 649 < x) (f : BE 0 M M1 x) : KA M M1 := KA_f h f.1.1 f.1.2 (RO_b h.1.1.2 f (by omega)) (fun k i g => f.2 k i (by unfold KPC at g; omega) (by unfold KPC at g; omega))
section HAND
variable {e : tE} {d n : Nat} {M : tM}
theorem v_fillS {s : Int} {y : Nat} (hs : 0 ≤ s ∧ s ≤ 9) (hy : cl y 4) (hg : BXG M y) (hn : 76 < y) (hK : KW M) (hC : CI M) (hd : 2 ≤ d) : tC e d 2818 [.inr (.inr (.inl 5)), .inl s, .inr (.inr (.inl y))] M n (tQn n (fun M' => KA M M' ∧ ∀ (k : Nat) (i : Int), 77 ≤ k → M' k i = M k i)) := by
  have hys := hy.1
  have k5 := cl_5
  refine tst_X9_fill ?_
  have n57 : ∀ (M1 : tM) (p : Int), (0 ≤ p ∧ p ≤ 11) → KA M M1 → (∀ (k : Nat) (i : Int), 77 ≤ k → M1 k i = M k i) → tT e d 2818 57 [some (.inr (.inr (.inl (5)))), some (.inl (s)), some (.inr (.inr (.inl (y)))), some (.inl (p))] [] M1 n (tQn n (fun M' => KA M M' ∧ ∀ (k : Nat) (i : Int), 77 ≤ k → M' k i = M k i)) := by
    intro M1 p hp c1 f1
    have h7 : 0 ≤ M1 7 s ∧ M1 7 s ≤ 1 := by
      have h := c1.1.1.1 7 s (by decide) hs.1
      rw [tsh_7] at h
      exact h
    have c2 : CI (tU M1 40 p s) := CI_put c1.1.1 tsh_40 (fun _ => by show 0 ≤ s ∧ s ≤ 9; exact hs)
    have p2 : pE 0 M1 (tU M1 40 p s) := pE_put (prt_a (t := 1) (Or.inl (by decide)) ⟨by decide, by rw [tsh_40]; rfl, by omega, by rw [tsh_40]; show _ < (12 : Int); omega⟩ (by decide) (fun _ => rfl))
    have c3 : CI (tU (tU M1 40 p s) 39 p (M1 7 s)) := CI_put c2 tsh_39 (fun _ => by show 0 ≤ M1 7 s ∧ M1 7 s ≤ 1; exact h7)
    have p3 : pE 0 (tU M1 40 p s) (tU (tU M1 40 p s) 39 p (M1 7 s)) := pE_put (prt_a (t := 3) (Or.inl (by decide)) ⟨by decide, by rw [tsh_39]; rfl, by omega, by rw [tsh_39]; show _ < (12 : Int); omega⟩ (by decide) (fun _ => rfl))
    have w3 : KW (tU (tU M1 40 p s) 39 p (M1 7 s)) := KW_f c1.2 (pE_tr p2 p3) (RO_u c1.2.1.1.2 ((tU_nk (by decide)).trans (tU_nk (by decide))) ((tU_nk (by decide)).trans (tU_nk (by decide)))) (fun k i g => (tU_nk (by unfold KPC at g; omega)).trans (tU_nk (by unfold KPC at g; omega)))
    refine tb_X9_fill_57 (c := true) ?_
    simp only [kb_X9_fill_57, w_ald_0, w_gf_11_4, tw_t, w_ild_3, w_ild_1, w_ias, ne_eq, eq_self, not_true_eq_false, false_implies, w_gf_11_3, w_gf_11_1, w_ba, w_bas, w_gf_11_2, w_aa, w_gf_11_0, w_iv1, tfr_0, tfr_1, tfr_2, tfr_3, tfr_4, w_ald_2, w_ic, w_re, w64_r, true_and, and_true, Nat.reduceAdd, Nat.reduceSub, eq_self, tsh_5, tyk_11, tcq_11, tsh_6, tsh_7, tsh_38, tsh_39, tsh_40, tyk_16, tyk_17, tyk_18, tyk_19, tyk_20, tel_4, tqo_6, tqo_38, tyk_4, tcq_4]
    have e7 : tU M1 40 p s 7 s = M1 7 s := tU_nk (by decide)
    rw [e7]
    refine ⟨by omega, by omega, by omega, fun _ => h7, by omega, by omega, ?_⟩
    have f3 : ∀ (k : Nat) (i : Int), 77 ≤ k → tU (tU M1 40 p s) 39 p (M1 7 s) k i = M k i := fun k i q => (tU_nk (by omega)).trans ((tU_nk (by omega)).trans (f1 k i q))
    have pp : pE 0 M (tU (tU M1 40 p s) 39 p (M1 7 s)) := pE_tr c1.1.2 (pE_tr p2 p3)
    generalize tU (tU M1 40 p s) 39 p (M1 7 s) = M2 at c3 pp f3 w3 ⊢
    have hk1 := cl_38 (i := p) (by omega)
    have hk2 := cl_6 (i := s) (by omega)
    have s1 := hk1.1
    have s2 := hk2.1
    obtain ⟨v, g1, g2⟩ := w3.1.2.1 s.toNat (by omega)
    try simp only [kb_X9_fill_57, w_ald_0, w_gf_11_4, tw_t, w_ild_3, w_ild_1, w_ias, ne_eq, eq_self, not_true_eq_false, false_implies, w_gf_11_3, w_gf_11_1, w_ba, w_bas, w_gf_11_2, w_aa, w_gf_11_0, w_iv1, tfr_0, tfr_1, tfr_2, tfr_3, tfr_4, w_ald_2, w_ic, w_re, w64_r, true_and, and_true, Nat.reduceAdd, Nat.reduceSub, eq_self, tsh_5, tyk_11, tcq_11, tsh_6, tsh_7, tsh_38, tsh_39, tsh_40, tyk_16, tyk_17, tyk_18, tyk_19, tyk_20, tel_4, tqo_6, tqo_38, tyk_4, tcq_4, s1, s2]
    refine tc_n (D := 1) (fun d' hd' => z_copy (b := 0) hk1 hk2 g1 (by decide) c3 hd') (by omega) ?_
    rintro M3 ⟨x3, f4⟩
    have w4 : KW M3 := KW_c w3 hk1 f4 ⟨v, x3, g2⟩
    try simp only [kb_X9_fill_57, w_ald_0, w_gf_11_4, tw_t, w_ild_3, w_ild_1, w_ias, ne_eq, eq_self, not_true_eq_false, false_implies, w_gf_11_3, w_gf_11_1, w_ba, w_bas, w_gf_11_2, w_aa, w_gf_11_0, w_iv1, tfr_0, tfr_1, tfr_2, tfr_3, tfr_4, w_ald_2, w_ic, w_re, w64_r, true_and, and_true, Nat.reduceAdd, Nat.reduceSub, eq_self, tsh_5, tyk_11, tcq_11, tsh_6, tsh_7, tsh_38, tsh_39, tsh_40, tyk_16, tyk_17, tyk_18, tyk_19, tyk_20, tel_4, tqo_6, tqo_38, tyk_4, tcq_4, s1, s2]
    refine ⟨by omega, ?_⟩
    obtain ⟨v2, g3, g4⟩ := hg
    have by4 : BX M3 y v2.1 v2.2 := BX_f g3 (fun j => (f4.2 _ _ (by omega) (by omega)).trans (f3 _ _ (by omega))) (fun j => (f4.2 _ _ (by omega) (by omega)).trans (f3 _ _ (by omega)))
    refine tc_n (D := 1) (fun d' hd' => z_copy (b := 0) hk2 hy by4 (by decide) f4.1.1 hd') (by omega) ?_
    rintro M4 ⟨x4, f5⟩
    have w5 : KW M4 := KW_c w4 hk2 f5 ⟨v2, x4, g4⟩
    try simp only [kb_X9_fill_57, w_ald_0, w_gf_11_4, tw_t, w_ild_3, w_ild_1, w_ias, ne_eq, eq_self, not_true_eq_false, false_implies, w_gf_11_3, w_gf_11_1, w_ba, w_bas, w_gf_11_2, w_aa, w_gf_11_0, w_iv1, tfr_0, tfr_1, tfr_2, tfr_3, tfr_4, w_ald_2, w_ic, w_re, w64_r, true_and, and_true, Nat.reduceAdd, Nat.reduceSub, eq_self, tsh_5, tyk_11, tcq_11, tsh_6, tsh_7, tsh_38, tsh_39, tsh_40, tyk_16, tyk_17, tyk_18, tyk_19, tyk_20, tel_4, tqo_6, tqo_38, tyk_4, tcq_4, s1, s2]
    have c6 : CI (tU M4 7 s 1) := CI_put f5.1.1 tsh_7 (fun _ => by show (0 : Int) ≤ 1 ∧ (1 : Int) ≤ 1; decide)
    have p6 : pE 0 M4 (tU M4 7 s 1) := pE_put (prt_a (t := 3) (Or.inl (by decide)) ⟨by decide, by rw [tsh_7]; rfl, by omega, by rw [tsh_7]; show _ < (10 : Int); omega⟩ (by decide) (fun _ => rfl))
    have w6 : KW (tU M4 7 s 1) := KW_f w5 p6 (RO_u w5.1.1.2 (tU_nk (by decide)) (tU_nk (by decide))) (fun k i g => tU_nk (by unfold KPC at g; omega))
    exact ⟨by omega, fun _ => by decide, rfl, rfl, ⟨⟨c6, pE_tr pp (pE_tr f4.1.2 (pE_tr f5.1.2 p6))⟩, w6⟩, fun k i q => (tU_nk (by omega)).trans ((f5.2 k i (by omega) (by omega)).trans ((f4.2 k i (by omega) (by omega)).trans (f3 k i q)))⟩
  refine tb_X9_fill_0 (c := true) ?_
  simp only [kb_X9_fill_0, w_ald_0, w_ild_1, w_iv1, tfr_0, tfr_1, tfr_2, tfr_3, tfr_4, w_if_ne, w_re, w64_r, true_and, and_true, Nat.reduceAdd, Nat.reduceSub, eq_self, tsh_5, tyk_11, tcq_11, tsh_6, tsh_7, tsh_38, tsh_39, tsh_40, tyk_16, tyk_17, tyk_18, tyk_19, tyk_20, tel_4, tqo_6, tqo_38, tyk_4, tcq_4]
  refine tc_i (D := 0) (fun d' hd' => x_isShelf hs) (by omega) ?_
  rintro z M1 ⟨rfl, rfl⟩
  try simp only [kb_X9_fill_0, w_ald_0, w_ild_1, w_iv1, tfr_0, tfr_1, tfr_2, tfr_3, tfr_4, w_if_ne, w_re, w64_r, true_and, and_true, Nat.reduceAdd, Nat.reduceSub, eq_self, tsh_5, tyk_11, tcq_11, tsh_6, tsh_7, tsh_38, tsh_39, tsh_40, tyk_16, tyk_17, tyk_18, tyk_19, tyk_20, tel_4, tqo_6, tqo_38, tyk_4, tcq_4]
  refine ⟨by omega, fun _ => ?_, fun q => absurd q (by decide)⟩
  have h5 := CI_i (f := 5) hC cl_5 rfl
  have h6 := CI_i (f := 6) hC cl_5 rfl
  have h5 : 0 ≤ M1 5 5 ∧ M1 5 5 ≤ 11 := h5
  have h6 : 0 ≤ M1 5 6 ∧ M1 5 6 ≤ 12 := h6
  have em : ∀ x : Int, 0 ≤ x → x.tmod 12 = x % 12 := fun x h => Int.tmod_eq_emod_of_nonneg h
  have ku : ∀ (f : Int) (v : Int), (f = 5 ∨ f = 6) → CI (tU M1 5 f v) → KA M1 (tU M1 5 f v) := fun f v hf c => by
    have p : pE 0 M1 (tU M1 5 f v) := by
      rcases hf with rfl | rfl
      · exact pE_put (prt_f (a := 11) (f := 5) (Or.inl (by decide)) cl_5 (by decide) (fun q => absurd q (by decide)) (by decide))
      · exact pE_put (prt_f (a := 11) (f := 6) (Or.inl (by decide)) cl_5 (by decide) (fun q => absurd q (by decide)) (by decide))
    exact KA_f hK c p (RO_u hK.1.1.2 (tU_nk (by decide)) (tU_nk (by decide))) (fun k i g => tU_nk (by unfold KPC at g; omega))
  refine tb_X9_fill_9 (c := true) ?_
  simp only [kb_X9_fill_9, w_ald_0, w_gf_11_5, tw_t, w_gf_11_6, w_iadd, w_bi, w_irem, w_ist_3, tkl_n, tkl_i, tkl_l, tkl_r, w_ic_ne, w_ic, w_pf_11_5, w_goto, w64_r, true_and, and_true, Nat.reduceAdd, Nat.reduceSub, eq_self, tsh_5, tyk_11, tcq_11, tsh_6, tsh_7, tsh_38, tsh_39, tsh_40, tyk_16, tyk_17, tyk_18, tyk_19, tyk_20, tel_4, tqo_6, tqo_38, tyk_4, tcq_4]
  rw [em _ (by omega)]
  refine ⟨by omega, by omega, fun q => ?_, fun q => ?_⟩
  · refine tb_X9_fill_47 (c := true) ?_
    simp only [kb_X9_fill_47, w_ald_0, w_dupi, w_dupr, w_gf_11_6, tw_t, w_ic, w_iadd, w_pf_11_6, w_nil, w64_r, true_and, and_true, Nat.reduceAdd, Nat.reduceSub, eq_self, tsh_5, tyk_11, tcq_11, tsh_6, tsh_7, tsh_38, tsh_39, tsh_40, tyk_16, tyk_17, tyk_18, tyk_19, tyk_20, tel_4, tqo_6, tqo_38, tyk_4, tcq_4]
    refine n57 _ _ (by omega) (ku 6 _ (Or.inr rfl) (CI_put hC tsh_5 (fun _ => by show 0 ≤ M1 5 6 + 1 ∧ M1 5 6 + 1 ≤ 12; omega))) (fun k i q => tU_nk (by omega))
  rw [em _ (by omega)]
  refine ⟨by omega, ?_⟩
  refine n57 _ _ (by omega) (ku 5 _ (Or.inl rfl) (CI_put hC tsh_5 (fun _ => by show 0 ≤ (M1 5 5 + 1) % 12 ∧ (M1 5 5 + 1) % 12 ≤ 11; omega))) (fun k i q => tU_nk (by omega))
theorem v_fill {s : Int} {y : Nat} (hs : 0 ≤ s ∧ s ≤ 9) (hy : cl y 4) (hg : BXG M y) (hn : 76 < y) (hK : KW M) (hC : CI M) (hd : 3 ≤ d) : tC e d 3357 [.inr (.inr (.inl 0)), .inl s, .inr (.inr (.inl y))] M n (tQi n (fun z M' => (0 ≤ z ∧ z ≤ 1) ∧ KA M M')) := by
  have hys := hy.1
  refine tst_X11_fill ?_
  refine tb_X11_fill_0 (c := true) ?_
  simp only [kb_X11_fill_0, w_ald_0, w_gf_13_3, tw_t, w_ild_1, w_ald_2, w_iv2, tfr_0, tfr_1, tfr_2, tfr_3, tfr_4, w_iv0, w_ire, trg, w64_r, true_and, and_true, Nat.reduceAdd, Nat.reduceSub, eq_self, tsh_0, tyk_13, tsh_77, tyk_8, tcq_8, tsh_5, tyk_11, tcq_13, tcq_11, tyk_4, tcq_4, tsh_113, hys]
  refine tc_n (D := 2) (fun d' hd' => v_fillS hs hy hg hn hK hC hd') (by omega) ?_
  rintro M1 ⟨k1, f1⟩
  try simp only [kb_X11_fill_0, w_ald_0, w_gf_13_3, tw_t, w_ild_1, w_ald_2, w_iv2, tfr_0, tfr_1, tfr_2, tfr_3, tfr_4, w_iv0, w_ire, trg, w64_r, true_and, and_true, Nat.reduceAdd, Nat.reduceSub, eq_self, tsh_0, tyk_13, tsh_77, tyk_8, tcq_8, tsh_5, tyk_11, tcq_13, tcq_11, tyk_4, tcq_4, tsh_113, hys]
  obtain ⟨v, g1, g2⟩ := hg
  refine tc_i (D := 2) (fun d' hd' => z_isSingle hy (BX_f g1 (fun j => f1 _ _ (by omega)) (fun j => f1 _ _ (by omega))) (NF_r g2.1.1) (NF_r g2.1.2) hd') (by omega) ?_
  rintro z M2 ⟨hz, rfl⟩
  try simp only [kb_X11_fill_0, w_ald_0, w_gf_13_3, tw_t, w_ild_1, w_ald_2, w_iv2, tfr_0, tfr_1, tfr_2, tfr_3, tfr_4, w_iv0, w_ire, trg, w64_r, true_and, and_true, Nat.reduceAdd, Nat.reduceSub, eq_self, tsh_0, tyk_13, tsh_77, tyk_8, tcq_8, tsh_5, tyk_11, tcq_13, tcq_11, tyk_4, tcq_4, tsh_113, hys]
  exact ⟨by omega, _, rfl, rfl, by omega, k1⟩
/-- the status is looked at -/
theorem x_cs {z : Int} (hz : 0 ≤ z ∧ z ≤ 2) : tC e d 3346 [.inr (.inr (.inl 0)), .inl z] M n (tQx n (tQn n (fun M' => z = 0 ∧ M' = M)) (fun _ M' => M' = M)) := by
  refine tst_X11_checkStatus ?_
  refine tb_X11_checkStatus_0 (c := true) ?_
  simp only [kb_X11_checkStatus_0, w_ild_1, w_ic, w_ic_ne, w_new, w64_r, true_and, and_true, Nat.reduceAdd, Nat.reduceSub, eq_self]
  repeat refine And.intro (by omega) ?_
  refine ⟨fun _ => ?_, fun q => Or.inr ⟨_, rfl, rfl, rfl⟩⟩
  refine tb_X11_checkStatus_16 (c := true) ?_
  simp only [kb_X11_checkStatus_16, w_ild_1, w_if_eq, w_new, w64_r, true_and, and_true, Nat.reduceAdd, Nat.reduceSub, eq_self]
  repeat refine And.intro (by omega) ?_
  refine ⟨fun _ => ?_, fun q => Or.inr ⟨_, rfl, rfl, rfl⟩⟩
  refine tb_X11_checkStatus_31 (c := true) ?_
  simp only [kb_X11_checkStatus_31, w_re, w64_r, true_and, and_true, Nat.reduceAdd, Nat.reduceSub, eq_self]
  exact Or.inl ⟨rfl, rfl, by omega, rfl⟩
theorem csA_good {M : tM} {B : Nat → Int × Int} (h : SK M 1 B) : csA (M 77 2 - 1) = 113 ∧ BXG M 113 := by
  have h0 := h.2 0 (by decide)
  refine ⟨?_, ⟨B 0, h0⟩⟩
  rw [h.1]
  rfl
theorem v_become {s z : Int} (hs : 0 ≤ s ∧ s ≤ 9) (hz : 0 ≤ z ∧ z ≤ 2) (hg : z = 0 → ∃ B : Nat → Int × Int, SK M 1 B) (hK : KW M) (hC : CI M) (hd : 5 ≤ d) : tC e d 3332 [.inr (.inr (.inl 0)), .inl s, .inl z] M n (tQx n (tQi n (fun z M' => (0 ≤ z ∧ z ≤ 1) ∧ KA M M')) (fun _ M' => KA M M')) := by
  refine tst_X11_become ?_
  refine tb_X11_become_0 (c := true) ?_
  simp only [kb_X11_become_0, w_ald_0, w_ild_2, w_iv1, tfr_0, tfr_1, tfr_2, tfr_3, tfr_4, w_ild_1, w_gf_13_4, tw_t, w_iv0, w_iv2, w_ire, trg, w64_r, true_and, and_true, Nat.reduceAdd, Nat.reduceSub, eq_self, tsh_0, tyk_13, tsh_77, tyk_8, tcq_8, tsh_5, tyk_11, tcq_13, tcq_11, tyk_4, tcq_4, tsh_113]
  refine tc_xn (D := 0) (fun d' hd' => x_cs hz) (by omega) rfl ?_ (fun s M' q => Or.inr ⟨_, rfl, rfl, by rw [q]; exact KA_refl hC hK⟩)
  rintro M1 ⟨hz0, rfl⟩
  try simp only [kb_X11_become_0, w_ald_0, w_ild_2, w_iv1, tfr_0, tfr_1, tfr_2, tfr_3, tfr_4, w_ild_1, w_gf_13_4, tw_t, w_iv0, w_iv2, w_ire, trg, w64_r, true_and, and_true, Nat.reduceAdd, Nat.reduceSub, eq_self, tsh_0, tyk_13, tsh_77, tyk_8, tcq_8, tsh_5, tyk_11, tcq_13, tcq_11, tyk_4, tcq_4, tsh_113]
  obtain ⟨B, hB⟩ := hg hz0
  obtain ⟨a1, a2⟩ := csA_good hB
  refine tc_r (D := 1) (fun d' hd' => z_result hB.1 hd') (by omega) ?_
  rintro y M2 ⟨rfl, rfl⟩
  try simp only [kb_X11_become_0, w_ald_0, w_ild_2, w_iv1, tfr_0, tfr_1, tfr_2, tfr_3, tfr_4, w_ild_1, w_gf_13_4, tw_t, w_iv0, w_iv2, w_ire, trg, w64_r, true_and, and_true, Nat.reduceAdd, Nat.reduceSub, eq_self, tsh_0, tyk_13, tsh_77, tyk_8, tcq_8, tsh_5, tyk_11, tcq_13, tcq_11, tyk_4, tcq_4, tsh_113]
  refine tc_i (D := 3) (fun d' hd' => v_fill hs cl_113 a2 (by decide) hK hC hd') (by omega) ?_
  rintro w M3 ⟨hw, k3⟩
  try simp only [kb_X11_become_0, w_ald_0, w_ild_2, w_iv1, tfr_0, tfr_1, tfr_2, tfr_3, tfr_4, w_ild_1, w_gf_13_4, tw_t, w_iv0, w_iv2, w_ire, trg, w64_r, true_and, and_true, Nat.reduceAdd, Nat.reduceSub, eq_self, tsh_0, tyk_13, tsh_77, tyk_8, tcq_8, tsh_5, tyk_11, tcq_13, tcq_11, tyk_4, tcq_4, tsh_113]
  exact ⟨by omega, Or.inl ⟨_, rfl, rfl, hw, k3⟩⟩
theorem z_push {y m : Nat} {B : Nat → Int × Int} {v : Int × Int} (hm : m < 128) (hs : SK M m B) (hy : cl y 4) (hn : y + 2 < 113 ∨ 496 < y) (hv : BX M y v.1 v.2 ∧ GBX v) (hC : CI M) (hd : 2 ≤ d) : tC e d 2061 [.inr (.inr (.inl 77)), .inr (.inr (.inl y))] M n (tQn n (fun M' => SK M' (m + 1) (upB B m v) ∧ MKF 0 M M' ∧ (M' 79 4 = M 79 4 ∧ M' 79 5 = M 79 5))) := by
  have hys := hy.1
  have ht := hs.1
  refine tst_X6_push ?_
  refine tb_X6_push_0 (c := true) ?_
  simp only [kb_X6_push_0, w_ald_0, w_gf_8_2, tw_t, w_si, w_ic_ge, w_gf_8_1, w_aa, w_ald_1, w_iv1, tfr_0, tfr_1, tfr_2, tfr_3, tfr_4, w_dupi, w_dupr, w_ic, w_iadd, w_pf_8_2, w_nil, w64_r, true_and, and_true, Nat.reduceAdd, Nat.reduceSub, eq_self, tsh_77, tsh_112, tyk_25, tel_4, tqo_112, tyk_8, tcq_8, tsh_78, tyk_2, tcq_2, tyk_4, hys]
  repeat refine And.intro (by omega) ?_
  first | refine ⟨fun q => absurd q (by omega), fun _ => ?_⟩ | refine fun _ => ?_
  repeat refine And.intro (by omega) ?_
  have ck := cl_cs hm
  have cks := ck.1
  rw [ht, nat_n]
  try simp only [kb_X6_push_0, w_ald_0, w_gf_8_2, tw_t, w_si, w_ic_ge, w_gf_8_1, w_aa, w_ald_1, w_iv1, tfr_0, tfr_1, tfr_2, tfr_3, tfr_4, w_dupi, w_dupr, w_ic, w_iadd, w_pf_8_2, w_nil, w64_r, true_and, and_true, Nat.reduceAdd, Nat.reduceSub, eq_self, tsh_77, tsh_112, tyk_25, tel_4, tqo_112, tyk_8, tcq_8, tsh_78, tyk_2, tcq_2, tyk_4, hys, cks]
  repeat refine And.intro (by omega) ?_
  refine tc_n (D := 1) (fun d' hd' => z_copy (b := 0) ck hy hv.1 (by decide) hC hd') (by omega) ?_
  rintro M1 ⟨x1, f1⟩
  try simp only [kb_X6_push_0, w_ald_0, w_gf_8_2, tw_t, w_si, w_ic_ge, w_gf_8_1, w_aa, w_ald_1, w_iv1, tfr_0, tfr_1, tfr_2, tfr_3, tfr_4, w_dupi, w_dupr, w_ic, w_iadd, w_pf_8_2, w_nil, w64_r, true_and, and_true, Nat.reduceAdd, Nat.reduceSub, eq_self, tsh_77, tsh_112, tyk_25, tel_4, tqo_112, tyk_8, tcq_8, tsh_78, tyk_2, tcq_2, tyk_4, hys, cks]
  have t1 : M1 77 2 = (m : Int) := (f1.2 77 2 (by omega) (by omega)).trans ht
  rw [t1]
  repeat refine And.intro (by omega) ?_
  have c2 : CI (tU M1 77 2 ((m : Int) + 1)) := CI_put f1.1.1 tsh_77 (fun _ => by show 0 ≤ (m : Int) + 1 ∧ (m : Int) + 1 ≤ 128; omega)
  have p2 : pE 0 M1 (tU M1 77 2 ((m : Int) + 1)) := pE_put (prt_f (a := 8) (f := 2) (Or.inl (by decide)) cl_77 (by decide) (fun _ q => absurd q (by decide)) (by decide))
  have u2 : ∀ (k : Nat) (i : Int), k ≠ 77 → tU M1 77 2 ((m : Int) + 1) k i = M1 k i := fun k i q => tU_nk q
  have t2 : tU M1 77 2 ((m : Int) + 1) 77 2 = (m : Int) + 1 := tU_eq ..
  have u3 : ∀ i : Int, i ≠ 2 → tU M1 77 2 ((m : Int) + 1) 77 i = M1 77 i := fun i q => tU_ni q
  generalize tU M1 77 2 ((m : Int) + 1) = M2 at *
  refine tb_X6_push_33 (c := true) ?_
  simp only [kb_X6_push_33, w_re, w64_r, true_and, and_true, Nat.reduceAdd, Nat.reduceSub, eq_self]
  refine ⟨rfl, rfl, SK_push hs (by rw [t2]; omega) (BX_f x1 (fun j => u2 _ _ (by omega)) (fun j => u2 _ _ (by omega))) hv.2 (fun k i q => (u2 k i (by omega)).trans (f1.2 k i (by omega) (by omega))), ⟨⟨c2, pE_tr f1.1.2 p2⟩, fun i q => (u3 i q).trans (f1.2 77 i (by omega) (by omega)), fun k i q => (u2 k i (by omega)).trans (f1.2 k i (by omega) (by omega))⟩, (u2 79 4 (by decide)).trans (f1.2 79 4 (by omega) (by omega)), (u2 79 5 (by decide)).trans (f1.2 79 5 (by omega) (by omega))⟩
end HAND
