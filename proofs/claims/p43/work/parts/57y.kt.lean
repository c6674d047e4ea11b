/-! WHAT HOLDS BETWEEN CALLS: a formula is read, an act and an atom. -/
/-- a leaf is put behind -/
theorem FPI_leaf {r c w : Nat} {x1 x2 x3 : Int} {M M1 : tM} (h : FPI M r c w 0) (hc : c < 60) (a : APP r c x1 x2 x3 M M1) (h3 : 0 ≤ x3) (hx : x1 = 35 ∨ x1 = 112 ∨ x1 = 120 ∨ x1 = 121) (hn : x1 = 35 → ((-9223372036854775808 ≤ x2 ∧ x2 < 9223372036854775808)) ∧ x3 ≤ 18) : FPI M1 r (c + 1) w 1 := by
  have ok : AOK x1 x2 x3.toNat (wP (fW M r) w + 0) := by
    unfold AOK
    rcases hx with q | q | q | q
    · exact Or.inl ⟨q, (hn q).1, by have := (hn q).2; omega⟩
    · exact Or.inr (Or.inl q)
    · exact Or.inr (Or.inr (Or.inr (Or.inl q)))
    · exact Or.inr (Or.inr (Or.inr (Or.inr (Or.inl q))))
  obtain ⟨b1, b2, b3, b4⟩ := FPI_app h hc a h3 ok (by omega)
  refine ⟨b1, b2, ?_⟩
  rw [b3, b4, if_pos (by omega)]
/-- a power is put behind -/
theorem FPI_pow {r c w : Nat} {x3 : Int} {M M1 : tM} (h : FPI M r c w 1) (hc : c < 60) (a : APP r c 94 0 x3 M M1) (h3 : 0 ≤ x3 ∧ x3 ≤ 9) : FPI M1 r (c + 1) w 1 := by
  have ok : AOK 94 0 x3.toNat (wP (fW M r) w + 1) := by
    unfold AOK OOK
    exact Or.inr (Or.inr (Or.inr (Or.inr (Or.inr (Or.inr ⟨Or.inr (Or.inr (Or.inl ⟨rfl, by omega⟩)), by omega⟩)))))
  obtain ⟨b1, b2, b3, b4⟩ := FPI_app h hc a h3.1 ok (by decide)
  refine ⟨b1, b2, ?_⟩
  rw [b3, b4, if_neg (by decide), if_neg (by decide)]
/-- what waits, one more -/
theorem FPI_hold {r c w b b' : Nat} {x : Int} {M M1 : tM} (h : FPI M r c w b) (hw : w < 60) (f : ∀ i : Int, i ≠ 8 → M1 r i = M r i) (e8 : M1 r 8 = (w : Int) + 1) (u : ∀ (k : Nat) (i : Int), r < k → (k ≤ r + 4 ∨ i ≠ (w : Int)) → M1 k i = M k i) (ex : M1 (r + 5) (w : Int) = x) (hb : ((x = 43 ∨ x = 45 ∨ x = 42 ∨ x = 47) ∧ b = b' + 1) ∨ (¬ (x = 43 ∨ x = 45 ∨ x = 42 ∨ x = 47) ∧ b = b')) : FPI M1 r c (w + 1) b' := by
  obtain ⟨⟨⟨f1, f2⟩, f3, f4⟩, f5, f6⟩ := h
  refine ⟨⟨⟨(f 4 (by decide)).trans f1, by rw [e8]; omega⟩, f3, by omega⟩, FOK_u f5 (fun k i g1 g2 _ _ => u k i g1 (Or.inl (by omega))), ?_⟩
  have e1 : hA (fA M1 r) c = hA (fA M r) c := hA_u c (fun j _ => u (r + 1) (j : Int) (by omega) (Or.inl (by omega)))
  have e2 : wP (fW M1 r) w = wP (fW M r) w := wP_u w (fun j q => u (r + 5) (j : Int) (by omega) (Or.inr (by omega)))
  rw [e1, f6, wP_s, e2, show fW M1 r w = x from ex]
  rcases hb with ⟨q1, q2⟩ | ⟨q1, q2⟩
  · rw [if_pos q1]
    omega
  · rw [if_neg q1]
    omega
/-- the bracket that waits is taken -/
theorem FPI_open {r c w b : Nat} {M M1 : tM} (h : FPI M r c (w + 1) b) (hx : M (r + 5) (w : Int) = 40) (f4 : M1 r 4 = M r 4) (e8 : M1 r 8 = (w : Int)) (u : ∀ (k : Nat) (i : Int), r < k → M1 k i = M k i) : FPI M1 r c w b := by
  obtain ⟨⟨⟨f1, f2⟩, f3, g4⟩, f5, f6⟩ := h
  refine ⟨⟨⟨f4.trans f1, e8⟩, f3, by omega⟩, FOK_u f5 (fun k i g1 _ _ _ => u k i g1), ?_⟩
  have e1 : hA (fA M1 r) c = hA (fA M r) c := hA_u c (fun j _ => u (r + 1) (j : Int) (by omega))
  have e2 : wP (fW M1 r) w = wP (fW M r) w := wP_u w (fun j _ => u (r + 5) (j : Int) (by omega))
  rw [e1, f6, e2, wP_s, show fW M r w = 40 from hx, if_neg (by decide)]
  rfl
/-- what a piece of the text leaves -/
def TKP (r T : Nat) (M M' : tM) (z : Int) : Prop := (0 ≤ z ∧ z ≤ 1) ∧ FPF r M M' ∧ M' r 6 = M r 6 ∧ (z = 1 → ∃ c w b p : Nat, FPI M' r c w b ∧ c + w ≤ p ∧ M' r 9 = (p : Int) ∧ p ≤ T ∧ M' r 10 = 1 - (b : Int))
theorem sgA_in {M : tM} {p : Int} (h : sgA M p ≠ 0) : 0 ≤ p ∧ p < M 1 1 := by
  unfold sgA at h
  by_cases q : 0 ≤ p ∧ p < M 1 1
  · exact q
  · rw [if_neg q] at h
    exact absurd rfl h
theorem sgA_f {r : Nat} {M M1 : tM} (hr : FMC r) (f : FPF r M M1) (p : Int) : sgA M1 p = sgA M p := by
  have hr2 := FM_r hr
  unfold sgA
  rw [f.2 1 1 (by omega), f.2 2 p (by omega)]
section HAND
variable {e : tE} {d n : Nat} {M : tM}
theorem z_tExp {r c w p T : Nat} (hr : FMC r) (h : FPI M r c w 1) (hp : c + w ≤ p) (e9 : M r 9 = (p : Int)) (hT : M 1 1 = (T : Int)) (hpT : p < T) (e10 : M r 10 = 0) (hC : CI M) (hd : 2 ≤ d) : tC e d 1812 [.inr (.inr (.inl r)), .inr (.inr (.inl 1))] M n (tQi n (fun z M' => TKP r T M M' z)) := by
  obtain ⟨t0, t1, t2, t3, t4, t5⟩ := FM_of hr
  have hr2 := FM_r hr
  have tr := tx_r hC
  have r11 : 0 ≤ M r 11 ∧ M r 11 ≤ 1 := fm_c hC (FM_7 hr) (by decide) rfl
  refine tst_X5_takesExponent ?_
  refine tb_X5_takesExponent_0 (c := false) ?_
  simp only [kb_X5_takesExponent_0, w_ald_0, w_gf_7_11, tw_f, w_if_ne, w_ic, w_ire, trg, true_and, and_true, Nat.reduceAdd, Nat.reduceSub, eq_self, tyk_7, tcq_7, tyk_42, tyk_28, tyk_43, tyx_15, tcq_60, tsx_1, tyx_12, tcx_12, t0]
  repeat refine And.intro (by omega) ?_
  refine ⟨fun _ => ?_, fun _ => ?_⟩
  rotate_left
  · exact ⟨by decide, _, rfl, rfl, by decide, FPF_refl hC, rfl, fun q => absurd q (by decide)⟩
  have f1 := FPF_put (f := 9) (v := (p : Int) + 1) hr (fun _ => by show (-2147483648 : Int) ≤ (p : Int) + 1 ∧ (p : Int) + 1 ≤ 2147483647; omega) hC
  have u1 : ∀ (k : Nat) (i : Int), ¬ (k = r ∧ i = 9) → tU M r 9 ((p : Int) + 1) k i = M k i := fun k i q => if_neg q
  have u2 : tU M r 9 ((p : Int) + 1) r 9 = (p : Int) + 1 := tU_eq ..
  refine tb_X5_takesExponent_9 (c := false) ?_
  simp only [kb_X5_takesExponent_9, w_ald_0, w_dupi, w_dupr, w_gf_7_9, tw_f, w_ic, w_iadd, w_pf_7_9, w_ald_1, w_iv1, tfr_0, tfr_1, tfr_2, tfr_3, tfr_4, w_if_ne, w_ire, trg, true_and, and_true, Nat.reduceAdd, Nat.reduceSub, eq_self, tyk_7, tcq_7, tyk_42, tyk_28, tyk_43, tyx_15, tcq_60, tsx_1, tyx_12, tcx_12, t0]
  rw [e9]
  generalize tU M r 9 ((p : Int) + 1) = M1 at *
  rw [u2]
  repeat refine And.intro (by omega) ?_
  refine tc_i (D := 1) (fun d' hd' => z_isDig (by omega) f1.1.1 hd') (by omega) ?_
  rintro z1 M2 ⟨g1, rfl⟩
  have rz : 0 ≤ z1 ∧ z1 ≤ 1 := by rcases g1 with ⟨q, _⟩ | ⟨q, _⟩ <;> rw [q] <;> decide
  try simp only [kb_X5_takesExponent_9, w_ald_0, w_dupi, w_dupr, w_gf_7_9, tw_f, w_ic, w_iadd, w_pf_7_9, w_ald_1, w_iv1, tfr_0, tfr_1, tfr_2, tfr_3, tfr_4, w_if_ne, w_ire, trg, true_and, and_true, Nat.reduceAdd, Nat.reduceSub, eq_self, tyk_7, tcq_7, tyk_42, tyk_28, tyk_43, tyx_15, tcq_60, tsx_1, tyx_12, tcx_12, t0]
  repeat refine And.intro (by omega) ?_
  refine ⟨fun q => ?_, fun q => ?_⟩
  rotate_left
  · exact ⟨by decide, _, rfl, rfl, by decide, f1, u1 r 6 (by omega), fun q => absurd q (by decide)⟩
  have dg : 48 ≤ sgA M2 ((p : Int) + 1) ∧ sgA M2 ((p : Int) + 1) ≤ 57 := by
    rcases g1 with ⟨_, g⟩ | ⟨g, _⟩
    · exact g
    · omega
  have pT2 := (sgA_in (M := M2) (p := (p : Int) + 1) (by omega)).2
  rw [u1 1 1 (by omega), hT] at pT2
  have h1 : FPI M2 r c w 1 := FPI_f h (fun k i g => u1 k i (by omega)) (u1 r 4 (by omega)) (u1 r 8 (by omega))
  refine tb_X5_takesExponent_32 (c := false) ?_
  simp only [kb_X5_takesExponent_32, w_ald_0, w_bi, w_lc0, w_ald_1, w_gf_7_9, tw_f, w_iv1, tfr_0, tfr_1, tfr_2, tfr_3, tfr_4, w_isub, w_iv3, w_ic, w_pf_7_11, w_dupi, w_dupr, w_iadd, w_pf_7_9, w_ire, trg, true_and, and_true, Nat.reduceAdd, Nat.reduceSub, eq_self, tyk_7, tcq_7, tyk_42, tyk_28, tyk_43, tyx_15, tcq_60, tsx_1, tyx_12, tcx_12, t0]
  rw [u2]
  refine tc_i (D := 0) (fun d' hd' => z_tat (by omega) f1.1.1) (by omega) ?_
  rintro z2 M3 ⟨rfl, rfl⟩
  try simp only [kb_X5_takesExponent_32, w_ald_0, w_bi, w_lc0, w_ald_1, w_gf_7_9, tw_f, w_iv1, tfr_0, tfr_1, tfr_2, tfr_3, tfr_4, w_isub, w_iv3, w_ic, w_pf_7_11, w_dupi, w_dupr, w_iadd, w_pf_7_9, w_ire, trg, true_and, and_true, Nat.reduceAdd, Nat.reduceSub, eq_self, tyk_7, tcq_7, tyk_42, tyk_28, tyk_43, tyx_15, tcq_60, tsx_1, tyx_12, tcx_12, t0]
  repeat refine And.intro (by omega) ?_
  refine tc_n (D := 0) (fun d' hd' => z_fapp hr h1.1.1.1 (by omega) (by decide) (by decide) (by omega) (fun q => absurd q (by decide)) f1.1.1) (by omega) ?_
  rintro M4 ⟨f4, a4⟩
  have h4 := FPI_pow h1 (by omega) a4 (by omega)
  have f5 := FPF_put (f := 11) (v := 0) hr (fun _ => by show (0 : Int) ≤ 0 ∧ (0 : Int) ≤ 1; decide) f4.1.1
  have w1 : ∀ (k : Nat) (i : Int), ¬ (k = r ∧ i = 11) → tU M4 r 11 0 k i = M4 k i := fun k i q => if_neg q
  try simp only [kb_X5_takesExponent_32, w_ald_0, w_bi, w_lc0, w_ald_1, w_gf_7_9, tw_f, w_iv1, tfr_0, tfr_1, tfr_2, tfr_3, tfr_4, w_isub, w_iv3, w_ic, w_pf_7_11, w_dupi, w_dupr, w_iadd, w_pf_7_9, w_ire, trg, true_and, and_true, Nat.reduceAdd, Nat.reduceSub, eq_self, tyk_7, tcq_7, tyk_42, tyk_28, tyk_43, tyx_15, tcq_60, tsx_1, tyx_12, tcx_12, t0]
  generalize tU M4 r 11 0 = M5 at *
  have v9 : M5 r 9 = (p : Int) + 1 := (w1 r 9 (by omega)).trans ((a4.1 9 (by decide)).trans u2)
  rw [v9]
  repeat refine And.intro (by omega) ?_
  have f6 := FPF_put (f := 9) (v := (p : Int) + 1 + 1) hr (fun _ => by show (-2147483648 : Int) ≤ (p : Int) + 1 + 1 ∧ (p : Int) + 1 + 1 ≤ 2147483647; omega) f5.1.1
  refine ⟨_, rfl, rfl, by decide, FPF_tr f1 (FPF_tr f4 (FPF_tr f5 f6)), ?_, fun _ => ⟨c + 1, w, 1, p + 2, FPI_f h4 (fun k i g => ?_) ?_ ?_, by omega, ?_, by omega, ?_⟩⟩
  · rw [tU_ni (by decide), w1 r 6 (by omega), a4.1 6 (by decide), u1 r 6 (by omega)]
  · rw [tU_nk (by omega), w1 k i (by omega)]
  · rw [tU_ni (by decide), w1 r 4 (by omega)]
  · rw [tU_ni (by decide), w1 r 8 (by omega)]
  · rw [tU_eq]
    omega
  · rw [tU_ni (by decide), w1 r 10 (by omega), a4.1 10 (by decide), u1 r 10 (by omega), e10]
    rfl
theorem z_tClos {r c w p T : Nat} (hr : FMC r) (h : FPI M r c w 1) (hp : c + w ≤ p) (e9 : M r 9 = (p : Int)) (hT : M 1 1 = (T : Int)) (hpT : p < T) (hC : CI M) (hd : 3 ≤ d) : tC e d 1811 [.inr (.inr (.inl r))] M n (tQi n (fun z M' => TKP r T M M' z)) := by
  obtain ⟨t0, t1, t2, t3, t4, t5⟩ := FM_of hr
  have hr2 := FM_r hr
  have tr := tx_r hC
  refine tst_X5_takesClosing ?_
  refine tb_X5_takesClosing_0 (c := false) ?_
  simp only [kb_X5_takesClosing_0, w_ald_0, w_iv0, tfr_0, tfr_1, tfr_2, tfr_3, tfr_4, w_bi, w_ic_eq, w_ic, w_ire, trg, true_and, and_true, Nat.reduceAdd, Nat.reduceSub, eq_self, tyk_7, tcq_7, tyk_42, tyk_28, tyk_43, tyx_15, tcq_60, tsx_1, tyx_12, tcx_12, t0]
  refine tc_n (D := 2) (fun d' hd' => z_relP hr h (by omega) hC hd') (by omega) ?_
  rintro M1 ⟨f1, g1, c1, w1, q1, h1⟩
  try simp only [kb_X5_takesClosing_0, w_ald_0, w_iv0, tfr_0, tfr_1, tfr_2, tfr_3, tfr_4, w_bi, w_ic_eq, w_ic, w_ire, trg, true_and, and_true, Nat.reduceAdd, Nat.reduceSub, eq_self, tyk_7, tcq_7, tyk_42, tyk_28, tyk_43, tyx_15, tcq_60, tsx_1, tyx_12, tcx_12, t0]
  refine tc_n (D := 2) (fun d' hd' => z_relS hr h1 (by omega) f1.1.1 hd') (by omega) ?_
  rintro M2 ⟨f2, g2, c2, w2, q2, h2⟩
  have ff := FPF_tr f1 f2
  have gg : ∀ i : Int, i ≠ 4 → i ≠ 8 → M2 r i = M r i := fun i a b => (g2 i a b).trans (g1 i a b)
  try simp only [kb_X5_takesClosing_0, w_ald_0, w_iv0, tfr_0, tfr_1, tfr_2, tfr_3, tfr_4, w_bi, w_ic_eq, w_ic, w_ire, trg, true_and, and_true, Nat.reduceAdd, Nat.reduceSub, eq_self, tyk_7, tcq_7, tyk_42, tyk_28, tyk_43, tyx_15, tcq_60, tsx_1, tyx_12, tcx_12, t0]
  refine tc_i (D := 0) (fun d' hd' => z_last hr h2.1.1.2 ff.1.1) (by omega) ?_
  rintro z M3 ⟨g3, r3, rfl⟩
  try simp only [kb_X5_takesClosing_0, w_ald_0, w_iv0, tfr_0, tfr_1, tfr_2, tfr_3, tfr_4, w_bi, w_ic_eq, w_ic, w_ire, trg, true_and, and_true, Nat.reduceAdd, Nat.reduceSub, eq_self, tyk_7, tcq_7, tyk_42, tyk_28, tyk_43, tyx_15, tcq_60, tsx_1, tyx_12, tcx_12, t0]
  repeat refine And.intro (by omega) ?_
  refine ⟨fun q => ?_, fun q => ?_⟩
  rotate_left
  · exact ⟨by decide, _, rfl, rfl, by decide, ff, gg 6 (by decide) (by decide), fun q => absurd q (by decide)⟩
  obtain ⟨v, rfl, v2⟩ : ∃ v : Nat, w2 = v + 1 ∧ z = M3 (r + 5) (v : Int) := by
    rcases g3 with ⟨_, q3⟩ | q3
    · omega
    · exact q3
  have e8 := h2.1.1.2
  have w60 := h2.1.2.2
  have f4 := FPF_put (f := 8) (v := (v : Int)) hr (fun _ => by show 0 ≤ (v : Int) ∧ (v : Int) ≤ 60; omega) ff.1.1
  have u1 : ∀ (k : Nat) (i : Int), ¬ (k = r ∧ i = 8) → tU M3 r 8 (v : Int) k i = M3 k i := fun k i q => if_neg q
  have h4 : FPI (tU M3 r 8 (v : Int)) r c2 v 1 := FPI_open h2 (by omega) (u1 r 4 (by omega)) (tU_eq ..) (fun k i g => u1 k i (by omega))
  refine tb_X5_takesClosing_19 (c := false) ?_
  simp only [kb_X5_takesClosing_19, w_ald_0, w_dupi, w_dupr, w_gf_7_8, tw_f, w_ic, w_isub, w_pf_7_8, w_gf_7_9, w_iadd, w_pf_7_9, w_iv0, tfr_0, tfr_1, tfr_2, tfr_3, tfr_4, w_ire, trg, true_and, and_true, Nat.reduceAdd, Nat.reduceSub, eq_self, tyk_7, tcq_7, tyk_42, tyk_28, tyk_43, tyx_15, tcq_60, tsx_1, tyx_12, tcx_12, t0]
  rw [e8, show ((v + 1 : Nat) : Int) - 1 = (v : Int) by omega]
  repeat refine And.intro (by omega) ?_
  generalize tU M3 r 8 (v : Int) = M4 at *
  have e94 : M4 r 9 = (p : Int) := (u1 r 9 (by omega)).trans ((gg 9 (by decide) (by decide)).trans e9)
  rw [e94]
  repeat refine And.intro (by omega) ?_
  have f5 := FPF_put (f := 9) (v := (p : Int) + 1) hr (fun _ => by show (-2147483648 : Int) ≤ (p : Int) + 1 ∧ (p : Int) + 1 ≤ 2147483647; omega) f4.1.1
  have u5 : ∀ (k : Nat) (i : Int), ¬ (k = r ∧ i = 9) → tU M4 r 9 ((p : Int) + 1) k i = M4 k i := fun k i q => if_neg q
  have e95 : tU M4 r 9 ((p : Int) + 1) r 9 = (p : Int) + 1 := tU_eq ..
  generalize tU M4 r 9 ((p : Int) + 1) = M5 at *
  have h5 : FPI M5 r c2 v 1 := FPI_f h4 (fun k i g => u5 k i (by omega)) (u5 r 4 (by omega)) (u5 r 8 (by omega))
  refine tc_n (D := 2) (fun d' hd' => z_close hr h5 (by omega) f5.1.1 hd') (by omega) ?_
  rintro M6 ⟨f6, g6, k6, c6, w6, q6, h6⟩
  try simp only [kb_X5_takesClosing_19, w_ald_0, w_dupi, w_dupr, w_gf_7_8, tw_f, w_ic, w_isub, w_pf_7_8, w_gf_7_9, w_iadd, w_pf_7_9, w_iv0, tfr_0, tfr_1, tfr_2, tfr_3, tfr_4, w_ire, trg, true_and, and_true, Nat.reduceAdd, Nat.reduceSub, eq_self, tyk_7, tcq_7, tyk_42, tyk_28, tyk_43, tyx_15, tcq_60, tsx_1, tyx_12, tcx_12, t0]
  refine ⟨by decide, _, rfl, rfl, by decide, FPF_tr ff (FPF_tr f4 (FPF_tr f5 f6)), ?_, fun _ => ⟨c6, w6, 1, p + 1, h6, by omega, ?_, by omega, ?_⟩⟩
  · rw [g6 6 (by decide) (by decide) (by decide), u5 r 6 (by omega), u1 r 6 (by omega)]
    exact gg 6 (by decide) (by decide)
  · rw [g6 9 (by decide) (by decide) (by decide), e95]
    omega
  · rw [k6]
    rfl
theorem z_tAct {r c w p T : Nat} (hr : FMC r) (h : FPI M r c w 1) (hp : c + w ≤ p) (e9 : M r 9 = (p : Int)) (hT : M 1 1 = (T : Int)) (hpT : p < T) (e10 : M r 10 = 0) (hC : CI M) (hd : 4 ≤ d) : tC e d 1809 [.inr (.inr (.inl r)), .inr (.inr (.inl 1))] M n (tQi n (fun z M' => TKP r T M M' z)) := by
  obtain ⟨t0, t1, t2, t3, t4, t5⟩ := FM_of hr
  have hr2 := FM_r hr
  have tr := tx_r hC
  have sr := sgA_r hC (p : Int)
  refine tst_X5_takesAct ?_
  refine tb_X5_takesAct_0 (c := false) ?_
  simp only [kb_X5_takesAct_0, w_ald_1, w_ald_0, w_gf_7_9, tw_f, w_iv1, tfr_0, tfr_1, tfr_2, tfr_3, tfr_4, w_ist_2, tkl_n, tkl_i, tkl_l, tkl_r, w_ild_2, w_bi, w_ic_ne, w_ire, trg, true_and, and_true, Nat.reduceAdd, Nat.reduceSub, eq_self, tyk_7, tcq_7, tyk_42, tyk_28, tyk_43, tyx_15, tcq_60, tsx_1, tyx_12, tcx_12, t0]
  rw [e9]
  refine tc_i (D := 0) (fun d' hd' => z_tat (by omega) hC) (by omega) ?_
  rintro z M1 ⟨hz, rfl⟩
  rw [← hz] at sr
  try simp only [kb_X5_takesAct_0, w_ald_1, w_ald_0, w_gf_7_9, tw_f, w_iv1, tfr_0, tfr_1, tfr_2, tfr_3, tfr_4, w_ist_2, tkl_n, tkl_i, tkl_l, tkl_r, w_ild_2, w_bi, w_ic_ne, w_ire, trg, true_and, and_true, Nat.reduceAdd, Nat.reduceSub, eq_self, tyk_7, tcq_7, tyk_42, tyk_28, tyk_43, tyx_15, tcq_60, tsx_1, tyx_12, tcx_12, t0]
  repeat refine And.intro (by omega) ?_
  refine ⟨fun q1 => ?_, fun q1 => ?_⟩
  rotate_left
  · try simp only [kb_X5_takesAct_0, w_ald_1, w_ald_0, w_gf_7_9, tw_f, w_iv1, tfr_0, tfr_1, tfr_2, tfr_3, tfr_4, w_ist_2, tkl_n, tkl_i, tkl_l, tkl_r, w_ild_2, w_bi, w_ic_ne, w_ire, trg, true_and, and_true, Nat.reduceAdd, Nat.reduceSub, eq_self, tyk_7, tcq_7, tyk_42, tyk_28, tyk_43, tyx_15, tcq_60, tsx_1, tyx_12, tcx_12, t0]
    refine tc_i (D := 2) (fun d' hd' => z_tExp hr h hp e9 hT hpT e10 hC hd') (by omega) ?_
    rintro z1 M2 g1
    try simp only [kb_X5_takesAct_0, w_ald_1, w_ald_0, w_gf_7_9, tw_f, w_iv1, tfr_0, tfr_1, tfr_2, tfr_3, tfr_4, w_ist_2, tkl_n, tkl_i, tkl_l, tkl_r, w_ild_2, w_bi, w_ic_ne, w_ire, trg, true_and, and_true, Nat.reduceAdd, Nat.reduceSub, eq_self, tyk_7, tcq_7, tyk_42, tyk_28, tyk_43, tyx_15, tcq_60, tsx_1, tyx_12, tcx_12, t0]
    have := g1.1
    exact ⟨by omega, _, rfl, rfl, g1⟩
  refine tb_X5_takesAct_21 (c := false) ?_
  simp only [kb_X5_takesAct_21, w_ild_2, w_bi, w_ic_ne, w_ald_0, w_iv0, tfr_0, tfr_1, tfr_2, tfr_3, tfr_4, w_ire, trg, true_and, and_true, Nat.reduceAdd, Nat.reduceSub, eq_self, tyk_7, tcq_7, tyk_42, tyk_28, tyk_43, tyx_15, tcq_60, tsx_1, tyx_12, tcx_12, t0]
  repeat refine And.intro (by omega) ?_
  refine ⟨fun q2 => ?_, fun q2 => ?_⟩
  rotate_left
  · try simp only [kb_X5_takesAct_21, w_ild_2, w_bi, w_ic_ne, w_ald_0, w_iv0, tfr_0, tfr_1, tfr_2, tfr_3, tfr_4, w_ire, trg, true_and, and_true, Nat.reduceAdd, Nat.reduceSub, eq_self, tyk_7, tcq_7, tyk_42, tyk_28, tyk_43, tyx_15, tcq_60, tsx_1, tyx_12, tcx_12, t0]
    refine tc_i (D := 3) (fun d' hd' => z_tClos hr h hp e9 hT hpT hC hd') (by omega) ?_
    rintro z1 M2 g1
    try simp only [kb_X5_takesAct_21, w_ild_2, w_bi, w_ic_ne, w_ald_0, w_iv0, tfr_0, tfr_1, tfr_2, tfr_3, tfr_4, w_ire, trg, true_and, and_true, Nat.reduceAdd, Nat.reduceSub, eq_self, tyk_7, tcq_7, tyk_42, tyk_28, tyk_43, tyx_15, tcq_60, tsx_1, tyx_12, tcx_12, t0]
    have := g1.1
    exact ⟨by omega, _, rfl, rfl, g1⟩
  refine tb_X5_takesAct_32 (c := false) ?_
  simp only [kb_X5_takesAct_32, w_ild_2, w_is1, tfr_0, tfr_1, tfr_2, tfr_3, tfr_4, w_if_ne, w_ic, w_ire, trg, true_and, and_true, Nat.reduceAdd, Nat.reduceSub, eq_self, t0]
  refine tc_i (D := 0) (fun d' hd' => z_isPair sr) (by omega) ?_
  rintro z1 M2 ⟨g1, rfl⟩
  have rz : 0 ≤ z1 ∧ z1 ≤ 1 := by rcases g1 with ⟨q, _⟩ | ⟨q, _⟩ <;> rw [q] <;> decide
  try simp only [kb_X5_takesAct_32, w_ild_2, w_is1, tfr_0, tfr_1, tfr_2, tfr_3, tfr_4, w_if_ne, w_ic, w_ire, trg, true_and, and_true, Nat.reduceAdd, Nat.reduceSub, eq_self, t0]
  repeat refine And.intro (by omega) ?_
  refine ⟨fun q3 => ?_, fun q3 => ?_⟩
  rotate_left
  · exact ⟨by decide, _, rfl, rfl, by decide, FPF_refl hC, rfl, fun q => absurd q (by decide)⟩
  have pz : (z = 43 ∨ z = 45 ∨ z = 42 ∨ z = 47) := by
    rcases g1 with ⟨_, g⟩ | ⟨g, _⟩
    · exact g
    · omega
  have n61 : ∀ (N : tM) (c2 w2 : Nat), FPF r M2 N → (∀ i : Int, i ≠ 4 → i ≠ 8 → N r i = M2 r i) → c2 + w2 = c + w → FPI N r c2 w2 1 → tT e d 1809 61 [some (.inr (.inr (.inl (r)))), some (.inr (.inr (.inl (1)))), some (.inl (z))] [] N n (tQi n (fun z M' => TKP r T M2 M' z)) := by
    intro N c2 w2 fN gN hcw hN
    refine tb_X5_takesAct_61 (c := false) ?_
    simp only [kb_X5_takesAct_61, w_ald_0, w_ild_2, w_iv1, tfr_0, tfr_1, tfr_2, tfr_3, tfr_4, w_ic, w_pf_7_10, w_dupi, w_dupr, w_gf_7_9, tw_f, w_iadd, w_pf_7_9, w_ire, trg, true_and, and_true, Nat.reduceAdd, Nat.reduceSub, eq_self, tyk_7, tcq_7, tyk_42, tyk_28, tyk_43, tyx_15, tcq_60, tsx_1, tyx_12, tcx_12, t0]
    refine tc_n (D := 0) (fun d' hd' => z_fhold hr hN.1.1.2 (by omega) sr fN.1.1) (by omega) ?_
    rintro N1 ⟨f1, v1, v2, v3, v4⟩
    have h1 : FPI N1 r c2 (w2 + 1) 0 := FPI_hold hN (by omega) v1 v2 v3 v4 (Or.inl ⟨pz, rfl⟩)
    have f2 := FPF_put (f := 10) (v := 1) hr (fun _ => by show (0 : Int) ≤ 1 ∧ (1 : Int) ≤ 1; decide) f1.1.1
    have u2 : ∀ (k : Nat) (i : Int), ¬ (k = r ∧ i = 10) → tU N1 r 10 1 k i = N1 k i := fun k i q => if_neg q
    have u3 : tU N1 r 10 1 r 10 = 1 := tU_eq ..
    try simp only [kb_X5_takesAct_61, w_ald_0, w_ild_2, w_iv1, tfr_0, tfr_1, tfr_2, tfr_3, tfr_4, w_ic, w_pf_7_10, w_dupi, w_dupr, w_gf_7_9, tw_f, w_iadd, w_pf_7_9, w_ire, trg, true_and, and_true, Nat.reduceAdd, Nat.reduceSub, eq_self, tyk_7, tcq_7, tyk_42, tyk_28, tyk_43, tyx_15, tcq_60, tsx_1, tyx_12, tcx_12, t0]
    generalize tU N1 r 10 1 = N2 at *
    have e92 : N2 r 9 = (p : Int) := (u2 r 9 (by omega)).trans ((v1 9 (by decide)).trans ((gN 9 (by decide) (by decide)).trans e9))
    rw [e92]
    repeat refine And.intro (by omega) ?_
    have f3 := FPF_put (f := 9) (v := (p : Int) + 1) hr (fun _ => by show (-2147483648 : Int) ≤ (p : Int) + 1 ∧ (p : Int) + 1 ≤ 2147483647; omega) f2.1.1
    refine ⟨_, rfl, rfl, by decide, FPF_tr fN (FPF_tr f1 (FPF_tr f2 f3)), ?_, fun _ => ⟨c2, w2 + 1, 0, p + 1, FPI_f h1 (fun k i g => ?_) ?_ ?_, by omega, ?_, by omega, ?_⟩⟩
    · rw [tU_ni (by decide), u2 r 6 (by omega), v1 6 (by decide)]
      exact gN 6 (by decide) (by decide)
    · rw [tU_nk (by omega), u2 k i (by omega)]
    · rw [tU_ni (by decide), u2 r 4 (by omega)]
    · rw [tU_ni (by decide), u2 r 8 (by omega)]
    · rw [tU_eq]
      omega
    · rw [tU_ni (by decide), u3]
      rfl
  have n57 : ∀ (N : tM) (c2 w2 : Nat), FPF r M2 N → (∀ i : Int, i ≠ 4 → i ≠ 8 → N r i = M2 r i) → c2 + w2 = c + w → FPI N r c2 w2 1 → tT e d 1809 57 [some (.inr (.inr (.inl (r)))), some (.inr (.inr (.inl (1)))), some (.inl (z))] [] N n (tQi n (fun z M' => TKP r T M2 M' z)) := by
    intro N c2 w2 fN gN hcw hN
    refine tb_X5_takesAct_57 (c := false) ?_
    simp only [kb_X5_takesAct_57, w_ald_0, w_iv0, tfr_0, tfr_1, tfr_2, tfr_3, tfr_4, w_nil, true_and, and_true, Nat.reduceAdd, Nat.reduceSub, eq_self, tyk_7, tcq_7, tyk_42, tyk_28, tyk_43, tyx_15, tcq_60, tsx_1, tyx_12, tcx_12, t0]
    refine tc_n (D := 2) (fun d' hd' => z_relS hr hN (by omega) fN.1.1 hd') (by omega) ?_
    rintro N1 ⟨f1, v1, c3, w3, q3, h3⟩
    try simp only [kb_X5_takesAct_57, w_ald_0, w_iv0, tfr_0, tfr_1, tfr_2, tfr_3, tfr_4, w_nil, true_and, and_true, Nat.reduceAdd, Nat.reduceSub, eq_self, tyk_7, tcq_7, tyk_42, tyk_28, tyk_43, tyx_15, tcq_60, tsx_1, tyx_12, tcx_12, t0]
    exact n61 N1 c3 w3 (FPF_tr fN f1) (fun i a b => (v1 i a b).trans (gN i a b)) (by omega) h3
  refine tb_X5_takesAct_41 (c := false) ?_
  simp only [kb_X5_takesAct_41, w_ald_0, w_iv0, tfr_0, tfr_1, tfr_2, tfr_3, tfr_4, w_ild_2, w_bi, w_ic_eq, w_ic_ne, w_nil, true_and, and_true, Nat.reduceAdd, Nat.reduceSub, eq_self, tyk_7, tcq_7, tyk_42, tyk_28, tyk_43, tyx_15, tcq_60, tsx_1, tyx_12, tcx_12, t0]
  refine tc_n (D := 2) (fun d' hd' => z_relP hr h (by omega) hC hd') (by omega) ?_
  rintro N1 ⟨f1, v1, c3, w3, q4, h3⟩
  try simp only [kb_X5_takesAct_41, w_ald_0, w_iv0, tfr_0, tfr_1, tfr_2, tfr_3, tfr_4, w_ild_2, w_bi, w_ic_eq, w_ic_ne, w_nil, true_and, and_true, Nat.reduceAdd, Nat.reduceSub, eq_self, tyk_7, tcq_7, tyk_42, tyk_28, tyk_43, tyx_15, tcq_60, tsx_1, tyx_12, tcx_12, t0]
  repeat refine And.intro (by omega) ?_
  refine ⟨fun _ => n57 N1 c3 w3 f1 v1 q4 h3, fun _ => ?_⟩
  try simp only [kb_X5_takesAct_41, w_ald_0, w_iv0, tfr_0, tfr_1, tfr_2, tfr_3, tfr_4, w_ild_2, w_bi, w_ic_eq, w_ic_ne, w_nil, true_and, and_true, Nat.reduceAdd, Nat.reduceSub, eq_self, tyk_7, tcq_7, tyk_42, tyk_28, tyk_43, tyx_15, tcq_60, tsx_1, tyx_12, tcx_12, t0]
  repeat refine And.intro (by omega) ?_
  exact ⟨fun _ => n61 N1 c3 w3 f1 v1 q4 h3, fun _ => n57 N1 c3 w3 f1 v1 q4 h3⟩
end HAND
