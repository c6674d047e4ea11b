/-! THE CLASS BY VALUES: products, powers, quotients of the reckoner. -/
/-- a row whose last place isn't 0 -/
theorem top_ge {M : tM} {r u : Nat} {N : Int} (h : RD M r u N) (hu : 1 ≤ u) (ht : M r ((u - 1 : Nat) : Int) ≠ 0) : TT (5 * (u - 1)) ≤ N := by
  have hs := SV_r (k := u - 1) (r := r) (M := M) (fun j q => h.1 j (by omega))
  have hd := h.1 (u - 1) (by omega)
  have e := SV_s M r (u - 1)
  rw [show u - 1 + 1 = u by omega, h.2] at e
  have p : 1 * TT (5 * (u - 1)) ≤ M r ((u - 1 : Nat) : Int) * TT (5 * (u - 1)) := Int.mul_le_mul_of_nonneg_right (by omega) (Int.le_of_lt (TT_pos _))
  omega
theorem neg_pow2 (V : Int) (x : Nat) : (-V) ^ x = if x % 2 = 0 then V ^ x else -(V ^ x) := by
  induction x with
  | zero => rw [Int.pow_zero, Int.pow_zero, if_pos rfl]
  | succ x ih =>
    rw [Int.pow_succ, Int.pow_succ, ih]
    by_cases h : x % 2 = 0
    · rw [if_pos h, if_neg (by omega), Int.mul_neg]
    · rw [if_neg h, if_pos (by omega), Int.neg_mul_neg]
/-- what changes as a power is raised -/
def FP (b : Nat) (M M' : tM) : Prop := (CI M' ∧ pE b M M') ∧ ∀ (k : Nat) (i : Int), (k < 79 ∨ k = 80 ∨ k = 82 ∨ 85 < k) → M' k i = M k i
theorem FP_refl {b : Nat} {M : tM} (hC : CI M) : FP b M M := ⟨⟨hC, pE_refl⟩, fun _ _ _ => rfl⟩
theorem FP_tr {b : Nat} {M M1 M2 : tM} (h1 : FP b M M1) (h2 : FP b M1 M2) : FP b M M2 := ⟨⟨h2.1.1, pE_tr h1.1.2 h2.1.2⟩, fun k i g => (h2.2 k i g).trans (h1.2 k i g)⟩
theorem FP_d {b r : Nat} {M M1 : tM} (h : BD b M M1 r) (hr : r = 81) : FP b M M1 := ⟨⟨h.1, h.2.1⟩, fun k i g => h.2.2 k i (by omega)⟩
theorem FP_c {b r : Nat} {M M1 : tM} (h : CE b M M1 r) (hr : r = 79 ∨ r = 83 ∨ r = 84 ∨ r = 85) : FP b M M1 := ⟨h.1, fun k i g => h.2 k i (by omega)⟩
theorem FP_R {b : Nat} {M M1 : tM} (h : FP b M M1) : RF b M M1 := ⟨h.1, fun k i g => h.2 k i (by omega)⟩
section HAND
variable {e : tE} {b d n : Nat} {M : tM}
theorem CE_7 {v : Int} (hv : -2147483648 ≤ v ∧ v ≤ 2147483647) (hb : b < 2) (hC : CI M) : CE b M (tU M 79 7 v) 79 := ⟨⟨CI_put (i := 7) hC tsh_79 (fun _ => hv), pE_put (prt_f (a := 10) (f := 7) (Or.inl hb) cl_79 (fun q => absurd q (by decide)) (fun q => absurd q (by decide)) (by decide))⟩, fun _ _ q => tU_nk q⟩
theorem CE_8 {v : Int} (hv : -2147483648 ≤ v ∧ v ≤ 2147483647) (hb : b < 2) (hC : CI M) : CE b M (tU M 79 8 v) 79 := ⟨⟨CI_put (i := 8) hC tsh_79 (fun _ => hv), pE_put (prt_f (a := 10) (f := 8) (Or.inl hb) cl_79 (fun q => absurd q (by decide)) (fun q => absurd q (by decide)) (by decide))⟩, fun _ _ q => tU_nk q⟩
theorem CE_l {f : Nat} {v : Int} (hf : f = 9 ∨ f = 10 ∨ f = 11 ∨ f = 12) (hb : b < 2) (hC : CI M) : CE b M (tU M 79 (f : Int) v) 79 := by
  rcases hf with rfl | rfl | rfl | rfl
  · exact ⟨⟨CI_put (i := 9) hC tsh_79 (fun _ => trivial), pE_put (prt_f (a := 10) (f := 9) (Or.inl hb) cl_79 (fun q => absurd q (by decide)) (fun q => absurd q (by decide)) (by decide))⟩, fun _ _ q => tU_nk q⟩
  · exact ⟨⟨CI_put (i := 10) hC tsh_79 (fun _ => trivial), pE_put (prt_f (a := 10) (f := 10) (Or.inl hb) cl_79 (fun q => absurd q (by decide)) (fun q => absurd q (by decide)) (by decide))⟩, fun _ _ q => tU_nk q⟩
  · exact ⟨⟨CI_put (i := 11) hC tsh_79 (fun _ => trivial), pE_put (prt_f (a := 10) (f := 11) (Or.inl hb) cl_79 (fun q => absurd q (by decide)) (fun q => absurd q (by decide)) (by decide))⟩, fun _ _ q => tU_nk q⟩
  · exact ⟨⟨CI_put (i := 12) hC tsh_79 (fun _ => trivial), pE_put (prt_f (a := 10) (f := 12) (Or.inl hb) cl_79 (fun q => absurd q (by decide)) (fun q => absurd q (by decide)) (by decide))⟩, fun _ _ q => tU_nk q⟩
theorem tsh_81 : tsh 81 = 3 := by rw [tsh_def]; decide +kernel
theorem tsh_82 : tsh 82 = 3 := by rw [tsh_def]; decide +kernel
theorem cl_81 : cl 81 3 := ⟨tsh_81, by decide⟩
theorem cl_82 : cl 82 3 := ⟨tsh_82, by decide⟩
/-- a number without its sign: its value and the sign -/
theorem abs_of {M' : tM} {r : Nat} {v z : Int} (hv : ((-100000000000000000000000 < v) ∧ v < 100000000000000000000000)) (h : (z = 1 ∧ v < 0 ∧ BB M' r (-v)) ∨ (z = 0 ∧ ¬ v < 0 ∧ BB M' r v)) : ∃ V : Int, BB M' r V ∧ (0 ≤ V ∧ V < 100000000000000000000000) ∧ ((z = 1 ∧ V = -v) ∨ (z = 0 ∧ V = v)) := by
  rcases h with ⟨q1, q2, q3⟩ | ⟨q1, q2, q3⟩
  · exact ⟨-v, q3, by omega, Or.inl ⟨q1, rfl⟩⟩
  · exact ⟨v, q3, by omega, Or.inr ⟨q1, rfl⟩⟩
theorem y_product {x1 x2 : Nat} {v w : Int} (h1 : cl x1 3) (h2 : cl x2 3) (hx1 : x1 < 79 ∨ 85 < x1) (hx2 : x2 < 79 ∨ 85 < x2) (hv : BB M x1 v) (hw : BB M x2 w) (rv : ((-100000000000000000000000 < v) ∧ v < 100000000000000000000000)) (rw_ : ((-100000000000000000000000 < w) ∧ w < 100000000000000000000000)) (hro : RO M) (hb : b < 2) (hC : CI M) (hd : 2 ≤ d) : tC e d 2567 [.inr (.inr (.inl 79)), .inr (.inr (.inl x1)), .inr (.inr (.inl x2))] M n (tQn n (fun M' => (∃ t, RN M' t ∧ FTc t (v * w) 10000000000) ∧ RO M' ∧ RF b M M')) := by
  obtain ⟨a, c, hr⟩ := hro
  have hrt := RC_t hr
  have Rv : RV v := by unfold RV; omega
  have Rw : RV w := by unfold RV; omega
  refine tst_X8_product ?_
  refine tb_X8_product_0 (c := false) ?_
  simp only [kb_X8_product_0, w_ald_0, w_gf_10_2, tw_f, w_ald_1, w_iv1, tfr_0, tfr_1, tfr_2, tfr_3, tfr_4, w_gf_10_3, w_ald_2, w_is1, w_ic_eq, w_ic, w_goto, true_and, and_true, Nat.reduceAdd, Nat.reduceSub, eq_self, tsh_79, tyk_10, tcq_10, tsh_81, tsh_82, tyk_3, tcq_3, tyk_21, tyk_22, tcq_32, tcq_5, nat_n]
  refine tc_n (D := 0) (fun d' hd' => y_copy (b := b) cl_81 h1 hv (Or.inl hb) hC) (by omega) ?_
  rintro M1 ⟨p1, f1⟩
  try simp only [kb_X8_product_0, w_ald_0, w_gf_10_2, tw_f, w_ald_1, w_iv1, tfr_0, tfr_1, tfr_2, tfr_3, tfr_4, w_gf_10_3, w_ald_2, w_is1, w_ic_eq, w_ic, w_goto, true_and, and_true, Nat.reduceAdd, Nat.reduceSub, eq_self, tsh_79, tyk_10, tcq_10, tsh_81, tsh_82, tyk_3, tcq_3, tyk_21, tyk_22, tcq_32, tcq_5, nat_n]
  refine tc_n (D := 0) (fun d' hd' => y_copy (b := b) cl_82 h2 (BB_u hw (fun i => f1.2.2 _ _ (by omega))) (Or.inl hb) f1.1) (by omega) ?_
  rintro M2 ⟨p2, f2⟩
  try simp only [kb_X8_product_0, w_ald_0, w_gf_10_2, tw_f, w_ald_1, w_iv1, tfr_0, tfr_1, tfr_2, tfr_3, tfr_4, w_gf_10_3, w_ald_2, w_is1, w_ic_eq, w_ic, w_goto, true_and, and_true, Nat.reduceAdd, Nat.reduceSub, eq_self, tsh_79, tyk_10, tcq_10, tsh_81, tsh_82, tyk_3, tcq_3, tyk_21, tyk_22, tcq_32, tcq_5, nat_n]
  refine tc_i (D := 1) (fun d' hd' => y_dropSign (b := b) cl_81 (BB_u p1 (fun i => f2.2.2 81 i (by decide))) Rv (Or.inl hb) f2.1 hd') (by omega) ?_
  rintro z1 M3 ⟨p3, f3⟩
  try simp only [kb_X8_product_0, w_ald_0, w_gf_10_2, tw_f, w_ald_1, w_iv1, tfr_0, tfr_1, tfr_2, tfr_3, tfr_4, w_gf_10_3, w_ald_2, w_is1, w_ic_eq, w_ic, w_goto, true_and, and_true, Nat.reduceAdd, Nat.reduceSub, eq_self, tsh_79, tyk_10, tcq_10, tsh_81, tsh_82, tyk_3, tcq_3, tyk_21, tyk_22, tcq_32, tcq_5, nat_n]
  refine tc_i (D := 1) (fun d' hd' => y_dropSign (b := b) cl_82 (BB_u p2 (fun i => f3.2.2 82 i (by decide))) Rw (Or.inl hb) f3.1 hd') (by omega) ?_
  rintro z2 M4 ⟨p5, f4⟩
  try simp only [kb_X8_product_0, w_ald_0, w_gf_10_2, tw_f, w_ald_1, w_iv1, tfr_0, tfr_1, tfr_2, tfr_3, tfr_4, w_gf_10_3, w_ald_2, w_is1, w_ic_eq, w_ic, w_goto, true_and, and_true, Nat.reduceAdd, Nat.reduceSub, eq_self, tsh_79, tyk_10, tcq_10, tsh_81, tsh_82, tyk_3, tcq_3, tyk_21, tyk_22, tcq_32, tcq_5, nat_n]
  obtain ⟨V, g1, g2, g3⟩ := abs_of rv p3
  obtain ⟨W, k1, k2, k3⟩ := abs_of rw_ p5
  have r04 : RF b M M4 := RF_tr (RF_d f1 (by decide)) (RF_tr (RF_d f2 (by decide)) (RF_tr (RF_d f3 (by decide)) (RF_d f4 (by decide))))
  have e4 : M4 79 4 = (a : Int) := (f4.2.2 79 4 (by decide)).trans ((f3.2.2 79 4 (by decide)).trans ((f2.2.2 79 4 (by decide)).trans ((f1.2.2 79 4 (by decide)).trans hr.2.1)))
  have e5 : M4 79 5 = (c : Int) := (f4.2.2 79 5 (by decide)).trans ((f3.2.2 79 5 (by decide)).trans ((f2.2.2 79 5 (by decide)).trans ((f1.2.2 79 5 (by decide)).trans hr.2.2)))
  have hac : a = 83 ∨ a = 84 := by have := hr.1; omega
  have n38 : ∀ (s : Int), (0 ≤ s ∧ s ≤ 1) → ((s = 0 → V * W = v * w) ∧ (s = 1 → V * W = -(v * w))) → tT e d 2567 38 [some (.inr (.inr (.inl (79)))), some (.inr (.inr (.inl (x1)))), some (.inr (.inr (.inl (x2)))), none] [.inl s] M4 n (tQn n (fun M' => (∃ t, RN M' t ∧ FTc t (v * w) 10000000000) ∧ RO M' ∧ RF b M M')) := by
    intro s hs hsv
    have n87 : ∀ (L : tL) (M' : tM), ((∃ t, RN M' t ∧ FTc t (v * w) 10000000000) ∧ RO M' ∧ RF b M M') → tT e d 2567 87 L [] M' n (tQn n (fun M' => (∃ t, RN M' t ∧ FTc t (v * w) 10000000000) ∧ RO M' ∧ RF b M M')) := by
      intro L M' h
      refine tb_X8_product_87 (c := false) ?_
      simp only [kb_X8_product_87, w_re, true_and, and_true, Nat.reduceAdd, Nat.reduceSub, eq_self]
      exact ⟨rfl, rfl, h⟩
    refine tb_X8_product_38 (c := false) ?_
    simp only [kb_X8_product_38, w_ist_3, tkl_n, tkl_i, tkl_l, tkl_r, w_ald_0, w_gf_10_2, tw_f, w_gf_10_4, w_is2, tfr_0, tfr_1, tfr_2, tfr_3, tfr_4, w_ic, w_pf_10_8, w_pf_10_7, w_gf_10_3, w_gf_10_6, w_iv0, w_ild_3, w_if_eq, w_nil, true_and, and_true, Nat.reduceAdd, Nat.reduceSub, eq_self, tsh_79, tyk_10, tcq_10, tsh_81, tsh_82, tyk_3, tcq_3, tyk_21, tyk_22, tcq_32, tcq_5, nat_n, e4]
    repeat refine And.intro (by omega) ?_
    refine tc_n (D := 0) (fun d' hd' => y_spread (b := b) cl_81 (BB_u g1 (fun i => f4.2.2 81 i (by decide))) g2 hac hb f4.1) (by omega) ?_
    rintro M5 ⟨p6, f5⟩
    try simp only [kb_X8_product_38, w_ist_3, tkl_n, tkl_i, tkl_l, tkl_r, w_ald_0, w_gf_10_2, tw_f, w_gf_10_4, w_is2, tfr_0, tfr_1, tfr_2, tfr_3, tfr_4, w_ic, w_pf_10_8, w_pf_10_7, w_gf_10_3, w_gf_10_6, w_iv0, w_ild_3, w_if_eq, w_nil, true_and, and_true, Nat.reduceAdd, Nat.reduceSub, eq_self, tsh_79, tyk_10, tcq_10, tsh_81, tsh_82, tyk_3, tcq_3, tyk_21, tyk_22, tcq_32, tcq_5, nat_n, e4]
    repeat refine And.intro (by omega) ?_
    have c8 := CE_8 (v := 5) (by decide) hb f5.1.1
    have c7 := CE_7 (v := 2) (by decide) hb c8.1.1
    have e48 : tU (tU M5 79 8 5) 79 7 2 79 4 = (a : Int) := by rw [tU_ni (by decide), tU_ni (by decide), f5.2 79 4 (by omega), e4]
    have e58 : tU (tU M5 79 8 5) 79 7 2 79 5 = (c : Int) := by rw [tU_ni (by decide), tU_ni (by decide), f5.2 79 5 (by omega), e5]
    have e88 : tU (tU M5 79 8 5) 79 7 2 79 8 = 5 := (tU_ni (by decide)).trans (tU_eq ..)
    have e78 : tU (tU M5 79 8 5) 79 7 2 79 7 = 2 := tU_eq ..
    have cf := CE_tr c8 c7
    generalize tU (tU M5 79 8 5) 79 7 2 = M6 at c7 cf e48 e58 e88 e78 ⊢
    have b6 : BB M6 82 W := BB_u k1 (fun i => (cf.2 82 i (by decide)).trans (f5.2 82 i (by omega)))
    refine tc_n (D := 0) (fun d' hd' => y_spreadF (b := b) cl_82 b6 k2 hb cf.1.1) (by omega) ?_
    rintro M7 ⟨p7, f7⟩
    try simp only [kb_X8_product_38, w_ist_3, tkl_n, tkl_i, tkl_l, tkl_r, w_ald_0, w_gf_10_2, tw_f, w_gf_10_4, w_is2, tfr_0, tfr_1, tfr_2, tfr_3, tfr_4, w_ic, w_pf_10_8, w_pf_10_7, w_gf_10_3, w_gf_10_6, w_iv0, w_ild_3, w_if_eq, w_nil, true_and, and_true, Nat.reduceAdd, Nat.reduceSub, eq_self, tsh_79, tyk_10, tcq_10, tsh_81, tsh_82, tyk_3, tcq_3, tyk_21, tyk_22, tcq_32, tcq_5, nat_n]
    have d6 : RD M7 a 5 V := RD_u p6 (fun i => (f7.2 a i (by omega)).trans (cf.2 a i (by omega)))
    refine tc_n (D := 0) (fun d' hd' => y_widen (b := b) (u := 5) (be := 2) ⟨hr.1, (f7.2 79 4 (by decide)).trans e48, (f7.2 79 5 (by decide)).trans e58⟩ ((f7.2 79 8 (by decide)).trans e88) ((f7.2 79 7 (by decide)).trans e78) (by decide) (by decide) d6 p7 hb f7.1.1) (by omega) ?_
    rintro M8 ⟨u', r1, r2, r3, r4, r5, r6, r7, r8⟩
    try simp only [kb_X8_product_38, w_ist_3, tkl_n, tkl_i, tkl_l, tkl_r, w_ald_0, w_gf_10_2, tw_f, w_gf_10_4, w_is2, tfr_0, tfr_1, tfr_2, tfr_3, tfr_4, w_ic, w_pf_10_8, w_pf_10_7, w_gf_10_3, w_gf_10_6, w_iv0, w_ild_3, w_if_eq, w_nil, true_and, and_true, Nat.reduceAdd, Nat.reduceSub, eq_self, tsh_79, tyk_10, tcq_10, tsh_81, tsh_82, tyk_3, tcq_3, tyk_21, tyk_22, tcq_32, tcq_5, nat_n]
    refine tc_n (D := 1) (fun d' hd' => y_settle (b := b) r1 r2 r3 (by omega) (by decide) r5 hb r7.1 hd') (by omega) ?_
    rintro M9 ⟨⟨t, q1, q2⟩, q3, q4⟩
    try simp only [kb_X8_product_38, w_ist_3, tkl_n, tkl_i, tkl_l, tkl_r, w_ald_0, w_gf_10_2, tw_f, w_gf_10_4, w_is2, tfr_0, tfr_1, tfr_2, tfr_3, tfr_4, w_ic, w_pf_10_8, w_pf_10_7, w_gf_10_3, w_gf_10_6, w_iv0, w_ild_3, w_if_eq, w_nil, true_and, and_true, Nat.reduceAdd, Nat.reduceSub, eq_self, tsh_79, tyk_10, tcq_10, tsh_81, tsh_82, tyk_3, tcq_3, tyk_21, tyk_22, tcq_32, tcq_5, nat_n]
    rw [show 5 * (2 + 2 - 2) = 10 from rfl, TT_10] at q2
    have hVW := Int.mul_nonneg g2.1 k2.1
    have ft := SD_F (by decide) hVW q2
    have hro9 : RO M9 := ⟨c, a, r1.1, (q4 79 4 (by decide) (by decide)).trans r1.2.1, (q4 79 5 (by decide) (by decide)).trans r1.2.2⟩
    have r09 : RF b M M9 := ⟨⟨q3.1, pE_tr r04.1.2 (pE_tr f5.1.2 (pE_tr cf.1.2 (pE_tr f7.1.2 (pE_tr r7.2 q3.2))))⟩, fun k i g => by
      have hc83 : c = 83 ∨ c = 84 := by have := hr.1; omega
      rw [q4 k i (by omega) (by omega), r8 k i (by omega) (by omega), f7.2 k i (by omega), cf.2 k i (by omega), f5.2 k i (by omega)]
      exact r04.2 k i g⟩
    refine ⟨by omega, fun h => n87 _ _ ⟨⟨t, q1, ?_⟩, hro9, r09⟩, fun h => ?_⟩
    · rw [← hsv.1 h]
      exact ft.1
    refine tc_n (D := 1) (fun d' hd' => y_rturn (b := b) q1 (FTc_r ft.1) hb q3.1 hd') (by omega) ?_
    rintro M10 ⟨q5, q6⟩
    try simp only [kb_X8_product_38, w_ist_3, tkl_n, tkl_i, tkl_l, tkl_r, w_ald_0, w_gf_10_2, tw_f, w_gf_10_4, w_is2, tfr_0, tfr_1, tfr_2, tfr_3, tfr_4, w_ic, w_pf_10_8, w_pf_10_7, w_gf_10_3, w_gf_10_6, w_iv0, w_ild_3, w_if_eq, w_nil, true_and, and_true, Nat.reduceAdd, Nat.reduceSub, eq_self, tsh_79, tyk_10, tcq_10, tsh_81, tsh_82, tyk_3, tcq_3, tyk_21, tyk_22, tcq_32, tcq_5, nat_n]
    refine n87 _ _ ⟨⟨-t, q5, ?_⟩, RO_u hro9 (q6.2.2 79 4 (by decide)) (q6.2.2 79 5 (by decide)), RF_tr r09 (RF_d q6 (by decide))⟩
    have e := hsv.2 (by omega)
    rw [show v * w = -(V * W) by omega]
    exact ft.2
  refine ⟨by omega, fun h => ?_, fun h => ?_⟩
  · refine tb_X8_product_37 (c := false) ?_
    simp only [kb_X8_product_37, w_ic, w_nil, true_and, and_true, Nat.reduceAdd, Nat.reduceSub, eq_self]
    refine n38 0 (by decide) ⟨fun _ => ?_, fun q => absurd q (by decide)⟩
    rcases g3 with ⟨a1, a2⟩ | ⟨a1, a2⟩
    · rcases k3 with ⟨b1, b2⟩ | ⟨b1, b2⟩
      · rw [a2, b2, Int.neg_mul_neg]
      · omega
    · rcases k3 with ⟨b1, b2⟩ | ⟨b1, b2⟩
      · omega
      · rw [a2, b2]
  · refine n38 1 (by decide) ⟨fun q => absurd q (by decide), fun _ => ?_⟩
    rcases g3 with ⟨a1, a2⟩ | ⟨a1, a2⟩
    · rcases k3 with ⟨b1, b2⟩ | ⟨b1, b2⟩
      · omega
      · rw [a2, b2, Int.neg_mul]
    · rcases k3 with ⟨b1, b2⟩ | ⟨b1, b2⟩
      · rw [a2, b2, Int.mul_neg]
      · omega
/-- what a raised row holds -/
def PW (v N : Int) (x be : Nat) : Prop := (x = 0 ∧ N = 10000000000 ∧ be = 2) ∨ (1 ≤ x ∧ ∃ j : Nat, (1 ≤ j ∧ j ≤ x) ∧ N = v ^ j ∧ be = 2 * j ∧ (j = x ∨ 1000000000000 * TT (5 * be) ≤ N))
theorem y_raise {x : Nat} {v : Int} (hx : x ≤ 9) (hv : BB M 81 v) (rv : 0 ≤ v ∧ v < 100000000000000000000000) (hro : RO M) (hb : b < 2) (hC : CI M) (hd : 1 ≤ d) : tC e d 2569 [.inr (.inr (.inl 79)), .inl (x : Int)] M n (tQn n (fun M' => (∃ a c u be : Nat, ∃ N : Int, RC M' a c ∧ (M' 79 8 = (u : Int) ∧ M' 79 7 = (be : Int)) ∧ (be + 1 ≤ u ∧ u ≤ 32) ∧ 2 ≤ be ∧ RD M' a u N ∧ (u ≤ be + 3 ∨ M' a ((u - 1 : Nat) : Int) ≠ 0) ∧ PW v N x be) ∧ FP b M M')) := by
  obtain ⟨a, c, hr⟩ := hro
  have hac : a = 83 ∨ a = 84 := by have := hr.1; omega
  refine tst_X8_raise ?_
  -- the loop
  have n58 : ∀ (fu : Nat) (M1 : tM) (j a c u be : Nat) (N : Int), x - j ≤ fu → RC M1 a c → (M1 79 8 = (u : Int) ∧ M1 79 7 = (be : Int)) → (be + 1 ≤ u ∧ u ≤ 32) → RD M1 a u N → (u ≤ be + 3 ∨ M1 a ((u - 1 : Nat) : Int) ≠ 0) → ((x = 0 ∧ N = 10000000000 ∧ be = 2 ∧ j = 1) ∨ (1 ≤ x ∧ (1 ≤ j ∧ j ≤ x) ∧ N = v ^ j ∧ be = 2 * j ∧ RD M1 85 5 v)) → FP b M M1 → tT e d 2569 58 [some (.inr (.inr (.inl (79)))), some (.inl ((x : Int))), some (.inl ((j : Int)))] [] M1 n (tQn n (fun M' => (∃ a c u be : Nat, ∃ N : Int, RC M' a c ∧ (M' 79 8 = (u : Int) ∧ M' 79 7 = (be : Int)) ∧ (be + 1 ≤ u ∧ u ≤ 32) ∧ 2 ≤ be ∧ RD M' a u N ∧ (u ≤ be + 3 ∨ M' a ((u - 1 : Nat) : Int) ≠ 0) ∧ PW v N x be) ∧ FP b M M')) := by
    intro fu
    induction fu with
    | zero =>
      intro M1 j a c u be N hf h1 h2 h3 h4 h5 h6 h7
      refine tb_X8_raise_58 (c := false) ?_
      simp only [kb_X8_raise_58, w_ild_2, w_ild_1, w_ic_ge, w_ald_0, w_iv0, tfr_0, tfr_1, tfr_2, tfr_3, tfr_4, w_ld2, w_lcmp, ne_eq, tlc_r, tlc_eq, tlc_lt, tlc_ge, tlc_gt, tlc_le, w_if_ge, w_inc2, tkl_n, tkl_i, tkl_l, tkl_r, w_goto, true_and, and_true, Nat.reduceAdd, Nat.reduceSub, eq_self, tsh_79, tyk_10, tcq_10, tsh_81, tsh_82, tyk_3, tcq_3, tyk_21, tyk_22, tcq_32, tcq_5, nat_n]
      repeat refine And.intro (by omega) ?_
      refine ⟨fun _ => ?_, fun q => absurd (by omega) q⟩
      refine tb_X8_raise_84 (c := false) ?_
      simp only [kb_X8_raise_84, w_re, true_and, and_true, Nat.reduceAdd, Nat.reduceSub, eq_self]
      refine ⟨rfl, rfl, ⟨a, c, u, be, N, h1, h2, h3, by omega, h4, h5, ?_⟩, h7⟩
      rcases h6 with ⟨g1, g2, g3, _⟩ | ⟨g1, g2, g3, g4, _⟩
      · exact Or.inl ⟨g1, g2, g3⟩
      · exact Or.inr ⟨g1, j, g2, g3, g4, Or.inl (by omega)⟩
    | succ fu ih =>
      intro M1 j a c u be N hf h1 h2 h3 h4 h5 h6 h7
      have n84 : (PW v N x be) → tT e d 2569 84 [some (.inr (.inr (.inl (79)))), some (.inl ((x : Int))), some (.inl ((j : Int)))] [] M1 n (tQn n (fun M' => (∃ a c u be : Nat, ∃ N : Int, RC M' a c ∧ (M' 79 8 = (u : Int) ∧ M' 79 7 = (be : Int)) ∧ (be + 1 ≤ u ∧ u ≤ 32) ∧ 2 ≤ be ∧ RD M' a u N ∧ (u ≤ be + 3 ∨ M' a ((u - 1 : Nat) : Int) ≠ 0) ∧ PW v N x be) ∧ FP b M M')) := by
        intro g
        refine tb_X8_raise_84 (c := false) ?_
        simp only [kb_X8_raise_84, w_re, true_and, and_true, Nat.reduceAdd, Nat.reduceSub, eq_self]
        exact ⟨rfl, rfl, ⟨a, c, u, be, N, h1, h2, h3, by unfold PW at g; omega, h4, h5, g⟩, h7⟩
      refine tb_X8_raise_58 (c := false) ?_
      simp only [kb_X8_raise_58, w_ild_2, w_ild_1, w_ic_ge, w_ald_0, w_iv0, tfr_0, tfr_1, tfr_2, tfr_3, tfr_4, w_ld2, w_lcmp, ne_eq, tlc_r, tlc_eq, tlc_lt, tlc_ge, tlc_gt, tlc_le, w_if_ge, w_inc2, tkl_n, tkl_i, tkl_l, tkl_r, w_goto, true_and, and_true, Nat.reduceAdd, Nat.reduceSub, eq_self, tsh_79, tyk_10, tcq_10, tsh_81, tsh_82, tyk_3, tcq_3, tyk_21, tyk_22, tcq_32, tcq_5, nat_n]
      repeat refine And.intro (by omega) ?_
      refine ⟨fun q => n84 ?_, fun q => ?_⟩
      · rcases h6 with ⟨g1, g2, g3, _⟩ | ⟨g1, g2, g3, g4, _⟩
        · exact Or.inl ⟨g1, g2, g3⟩
        · exact Or.inr ⟨g1, j, g2, g3, g4, Or.inl (by omega)⟩
      obtain ⟨g1, g2, g3, g4, g5⟩ : 1 ≤ x ∧ (1 ≤ j ∧ j ≤ x) ∧ N = v ^ j ∧ be = 2 * j ∧ RD M1 85 5 v := by
        rcases h6 with ⟨g1, g2, g3, g4⟩ | g
        · exfalso; omega
        · exact g
      refine tc_l (D := 0) (fun d' hd' => y_wholeOfRow h1 h2.1 h2.2 h3 h4) (by omega) ?_
      rintro z M2 ⟨hz, zr, rfl⟩
      try simp only [kb_X8_raise_58, w_ild_2, w_ild_1, w_ic_ge, w_ald_0, w_iv0, tfr_0, tfr_1, tfr_2, tfr_3, tfr_4, w_ld2, w_lcmp, ne_eq, tlc_r, tlc_eq, tlc_lt, tlc_ge, tlc_gt, tlc_le, w_if_ge, w_inc2, tkl_n, tkl_i, tkl_l, tkl_r, w_goto, true_and, and_true, Nat.reduceAdd, Nat.reduceSub, eq_self, tsh_79, tyk_10, tcq_10, tsh_81, tsh_82, tyk_3, tcq_3, tyk_21, tyk_22, tcq_32, tcq_5, nat_n]
      repeat refine And.intro (by omega) ?_
      have hT := TT_pos (5 * be)
      refine ⟨fun q2 => n84 (Or.inr ⟨g1, j, g2, g3, g4, Or.inr ?_⟩), fun q2 => ?_⟩
      · rcases hz with ⟨w1, w3, w2⟩ | ⟨w1, w2⟩
        · have hle := Int.mul_le_of_le_ediv hT (show (1000000000000 : Int) ≤ N / TT (5 * be) by omega)
          exact hle
        · have ht := top_ge h4 (by omega) (by omega)
          have h15 : TT (5 * be + 15) ≤ TT (5 * (u - 1)) := TT_le (by omega)
          rw [TT_add, TT_v.2.1] at h15
          omega
      have hue : u ≤ be + 3 := by omega
      refine tc_n (D := 0) (fun d' hd' => y_widen (b := b) h1 h2.1 h2.2 (by omega) (by omega) h4 g5 hb h7.1.1) (by omega) ?_
      rintro M3 ⟨u', r1, r2, r3, r4, r5, r6, r7, r8⟩
      try simp only [kb_X8_raise_58, w_ild_2, w_ild_1, w_ic_ge, w_ald_0, w_iv0, tfr_0, tfr_1, tfr_2, tfr_3, tfr_4, w_ld2, w_lcmp, ne_eq, tlc_r, tlc_eq, tlc_lt, tlc_ge, tlc_gt, tlc_le, w_if_ge, w_inc2, tkl_n, tkl_i, tkl_l, tkl_r, w_goto, true_and, and_true, Nat.reduceAdd, Nat.reduceSub, eq_self, tsh_79, tyk_10, tcq_10, tsh_81, tsh_82, tyk_3, tcq_3, tyk_21, tyk_22, tcq_32, tcq_5, nat_n]
      repeat refine And.intro (by omega) ?_
      have hac1 : (a = 83 ∨ a = 84) ∧ (c = 83 ∨ c = 84) := by have := h1.1; omega
      rw [show ((j : Nat) : Int) + 1 = ((j + 1 : Nat) : Int) by omega]
      refine ih M3 (j + 1) c a u' (be + 2) (N * v) (by omega) r1 ⟨r2, r3⟩ (by omega) r5 (Or.imp (fun h => by omega) id r6) (Or.inr ⟨g1, by omega, by rw [g3, Int.pow_succ], by omega, RD_u g5 (fun i => r8 85 i (by omega) (by omega))⟩) ⟨⟨r7.1, pE_tr h7.1.2 r7.2⟩, fun k i g => ?_⟩
      rw [r8 k i (by omega) (by omega)]
      exact h7.2 k i g
  refine tb_X8_raise_0 (c := false) ?_
  simp only [kb_X8_raise_0, w_ald_0, w_gf_10_2, tw_f, w_gf_10_4, w_is2, tfr_0, tfr_1, tfr_2, tfr_3, tfr_4, w_ic, w_pf_10_8, w_pf_10_7, w_gf_10_6, w_ild_1, w_if_ne, w_lc1, w_lc0, w_iv2, w_nil, true_and, and_true, Nat.reduceAdd, Nat.reduceSub, eq_self, tsh_79, tyk_10, tcq_10, tsh_81, tsh_82, tyk_3, tcq_3, tyk_21, tyk_22, tcq_32, tcq_5, nat_n, hr.2.1]
  repeat refine And.intro (by omega) ?_
  refine tc_n (D := 0) (fun d' hd' => y_spread (b := b) cl_81 hv rv hac hb hC) (by omega) ?_
  rintro M1 ⟨p1, f1⟩
  try simp only [kb_X8_raise_0, w_ald_0, w_gf_10_2, tw_f, w_gf_10_4, w_is2, tfr_0, tfr_1, tfr_2, tfr_3, tfr_4, w_ic, w_pf_10_8, w_pf_10_7, w_gf_10_6, w_ild_1, w_if_ne, w_lc1, w_lc0, w_iv2, w_nil, true_and, and_true, Nat.reduceAdd, Nat.reduceSub, eq_self, tsh_79, tyk_10, tcq_10, tsh_81, tsh_82, tyk_3, tcq_3, tyk_21, tyk_22, tcq_32, tcq_5, nat_n, hr.2.1]
  repeat refine And.intro (by omega) ?_
  have c8 := CE_8 (v := 5) (by decide) hb f1.1.1
  have c7 := CE_7 (v := 2) (by decide) hb c8.1.1
  have e48 : tU (tU M1 79 8 5) 79 7 2 79 4 = (a : Int) := by rw [tU_ni (by decide), tU_ni (by decide), f1.2 79 4 (by omega), hr.2.1]
  have e58 : tU (tU M1 79 8 5) 79 7 2 79 5 = (c : Int) := by rw [tU_ni (by decide), tU_ni (by decide), f1.2 79 5 (by omega), hr.2.2]
  have e88 : tU (tU M1 79 8 5) 79 7 2 79 8 = 5 := (tU_ni (by decide)).trans (tU_eq ..)
  have e78 : tU (tU M1 79 8 5) 79 7 2 79 7 = 2 := tU_eq ..
  have cf := CE_tr c8 c7
  generalize tU (tU M1 79 8 5) 79 7 2 = M2 at c7 cf e48 e58 e88 e78 ⊢
  have b2 : BB M2 81 v := BB_u hv (fun i => (cf.2 81 i (by decide)).trans (f1.2 81 i (by omega)))
  refine tc_n (D := 0) (fun d' hd' => y_spreadF (b := b) cl_81 b2 rv hb cf.1.1) (by omega) ?_
  rintro M3 ⟨p3, f3⟩
  try simp only [kb_X8_raise_0, w_ald_0, w_gf_10_2, tw_f, w_gf_10_4, w_is2, tfr_0, tfr_1, tfr_2, tfr_3, tfr_4, w_ic, w_pf_10_8, w_pf_10_7, w_gf_10_6, w_ild_1, w_if_ne, w_lc1, w_lc0, w_iv2, w_nil, true_and, and_true, Nat.reduceAdd, Nat.reduceSub, eq_self, tsh_79, tyk_10, tcq_10, tsh_81, tsh_82, tyk_3, tcq_3, tyk_21, tyk_22, tcq_32, tcq_5, nat_n]
  have fr3 : FP b M M3 := FP_tr (FP_c f1 (by omega)) (FP_tr (FP_c cf (by omega)) (FP_c f3 (by omega)))
  have rc3 : RC M3 a c := ⟨hr.1, (f3.2 79 4 (by decide)).trans e48, (f3.2 79 5 (by decide)).trans e58⟩
  have u3 : M3 79 8 = ((5 : Nat) : Int) ∧ M3 79 7 = ((2 : Nat) : Int) := ⟨(f3.2 79 8 (by decide)).trans e88, (f3.2 79 7 (by decide)).trans e78⟩
  have n56 : ∀ (M4 : tM) (w2 : Option tV) (N : Int), RC M4 a c → (M4 79 8 = ((5 : Nat) : Int) ∧ M4 79 7 = ((2 : Nat) : Int)) → RD M4 a 5 N → ((x = 0 ∧ N = 10000000000) ∨ (1 ≤ x ∧ N = v ∧ RD M4 85 5 v)) → FP b M M4 → tT e d 2569 56 [some (.inr (.inr (.inl (79)))), some (.inl ((x : Int))), w2] [] M4 n (tQn n (fun M' => (∃ a c u be : Nat, ∃ N : Int, RC M' a c ∧ (M' 79 8 = (u : Int) ∧ M' 79 7 = (be : Int)) ∧ (be + 1 ≤ u ∧ u ≤ 32) ∧ 2 ≤ be ∧ RD M' a u N ∧ (u ≤ be + 3 ∨ M' a ((u - 1 : Nat) : Int) ≠ 0) ∧ PW v N x be) ∧ FP b M M')) := by
    intro M4 w2 N q1 q2 q3 q4 q5
    refine tb_X8_raise_56 (c := false) ?_
    simp only [kb_X8_raise_56, w_ic, w_ist_2, tkl_n, tkl_i, tkl_l, tkl_r, w_nil, true_and, and_true, Nat.reduceAdd, Nat.reduceSub, eq_self]
    refine n58 x M4 1 a c 5 2 N (by omega) q1 q2 (by decide) q3 (Or.inl (by decide)) ?_ q5
    rcases q4 with ⟨g1, g2⟩ | ⟨g1, g2, g3⟩
    · exact Or.inl ⟨g1, g2, rfl, rfl⟩
    · exact Or.inr ⟨g1, by omega, by rw [g2, Int.pow_succ, Int.pow_zero, Int.one_mul], rfl, g3⟩
  have d3 : RD M3 a 5 v := RD_u p1 (fun i => (f3.2 a i (by omega)).trans (cf.2 a i (by omega)))
  refine ⟨by omega, fun h => n56 M3 _ v rc3 u3 d3 (Or.inr ⟨by omega, rfl, p3⟩) fr3, fun h => ?_⟩
  refine tc_n (D := 0) (fun d' hd' => y_assign (b := b) (w := 1) (p := 0) cl_81 (by decide) (Or.inl hb) f3.1.1) (by omega) ?_
  rintro M4 ⟨p4, f4⟩
  have e44 : M4 79 4 = (a : Int) := (f4.2.2 79 4 (by decide)).trans rc3.2.1
  try simp only [kb_X8_raise_0, w_ald_0, w_gf_10_2, tw_f, w_gf_10_4, w_is2, tfr_0, tfr_1, tfr_2, tfr_3, tfr_4, w_ic, w_pf_10_8, w_pf_10_7, w_gf_10_6, w_ild_1, w_if_ne, w_lc1, w_lc0, w_iv2, w_nil, true_and, and_true, Nat.reduceAdd, Nat.reduceSub, eq_self, tsh_79, tyk_10, tcq_10, tsh_81, tsh_82, tyk_3, tcq_3, tyk_21, tyk_22, tcq_32, tcq_5, nat_n, e44]
  repeat refine And.intro (by omega) ?_
  refine tc_n (D := 0) (fun d' hd' => y_spread (b := b) cl_81 p4 (by decide) hac hb f4.1) (by omega) ?_
  rintro M5 ⟨p5, f5⟩
  try simp only [kb_X8_raise_0, w_ald_0, w_gf_10_2, tw_f, w_gf_10_4, w_is2, tfr_0, tfr_1, tfr_2, tfr_3, tfr_4, w_ic, w_pf_10_8, w_pf_10_7, w_gf_10_6, w_ild_1, w_if_ne, w_lc1, w_lc0, w_iv2, w_nil, true_and, and_true, Nat.reduceAdd, Nat.reduceSub, eq_self, tsh_79, tyk_10, tcq_10, tsh_81, tsh_82, tyk_3, tcq_3, tyk_21, tyk_22, tcq_32, tcq_5, nat_n, e44]
  refine n56 M5 _ _ ⟨hr.1, (f5.2 79 4 (by omega)).trans e44, (f5.2 79 5 (by omega)).trans ((f4.2.2 79 5 (by decide)).trans rc3.2.2)⟩ ⟨(f5.2 79 8 (by omega)).trans ((f4.2.2 79 8 (by decide)).trans u3.1), (f5.2 79 7 (by omega)).trans ((f4.2.2 79 7 (by decide)).trans u3.2)⟩ p5 (Or.inl ⟨by omega, by omega⟩) (FP_tr fr3 (FP_tr (FP_d f4 rfl) (FP_c f5 (by omega))))
end HAND
