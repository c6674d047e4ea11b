/-! WHAT HOLDS BETWEEN CALLS: kept by move and solve. -/
theorem tsh_657 : tsh 657 = 3 := by rw [tsh_def]; decide +kernel
theorem tsh_658 : tsh 658 = 3 := by rw [tsh_def]; decide +kernel
theorem cl_657 : cl 657 3 := ⟨tsh_657, by decide⟩
theorem cl_658 : cl 658 3 := ⟨tsh_658, by decide⟩
theorem AR_pair {u num : Int} {m m' s : Nat} {X Y : Int × Int} {B B' : Nat → Int × Int} {a : Int} (ha : a = 43 ∨ a = 45 ∨ a = 42 ∨ a = 47) {M : tM} (h : AR u X Y a num s m B m' B') (g : SK M m' B') : SK M (m - 1) B' := by
  rw [← AR_p ha h]
  exact g
section HAND
variable {e : tE} {d n : Nat} {M : tM}
/-- a pair act on top of the stack -/
theorem v_pair {a : Int} {m : Nat} {B : Nat → Int × Int} (ha : a = 43 ∨ a = 45 ∨ a = 42 ∨ a = 47) (hm : 2 ≤ m ∧ m < 128) (hs : SK M m B) (he : EVr e) (hK : KW M) (hC : CI M) (hd : 7 ≤ d) : tC e d 2055 [.inr (.inr (.inl 77)), .inl a, .inr (.inl 0), .inl 0] M n (tQi n (fun z M' => (0 ≤ z ∧ z ≤ 2) ∧ KA M M' ∧ MKF 0 M M' ∧ (z = 0 → ∃ B' : Nat → Int × Int, SK M' (m - 1) B'))) := by
  refine tC_mono (z_make (b := 0) (s := 0) (m := m) (X := (0, 0)) (Y := (0, 0)) (xr := 0) (yr := 0) (Or.inr (Or.inr (Or.inr (Or.inr (Or.inr (Or.inl ⟨ha, hm.1⟩)))))) hm.2 hs (fun q => absurd q (by omega)) (fun q => absurd q (by omega)) (KU hK hC) he hK.1.1.2 (by decide) hC hd) ?_
  rintro v M' n' ⟨z, q1, rfl, f1, f2, f3, f4⟩
  exact ⟨z, q1, rfl, f1, KA_m hK f3 f4, f4, fun q => by
    obtain ⟨m', B', g1, g2⟩ := f2 q
    exact ⟨B', AR_pair ha g1 g2⟩⟩
/-- a box on top of the stack -/
theorem v_push {y m : Nat} {B : Nat → Int × Int} {v : Int × Int} (hm : m < 128) (hs : SK M m B) (hy : cl y 4) (hn : y + 2 < 113 ∨ 496 < y) (hv : BX M y v.1 v.2 ∧ GBX v) (hK : KW M) (hC : CI M) (hd : 2 ≤ d) : tC e d 2061 [.inr (.inr (.inl 77)), .inr (.inr (.inl y))] M n (tQn n (fun M' => (∃ B' : Nat → Int × Int, SK M' (m + 1) B') ∧ KA M M' ∧ MKF 0 M M')) := by
  refine tC_mono (z_push hm hs hy hn hv hC hd) ?_
  rintro v M' n' ⟨q1, rfl, a1, a2, a3, a4⟩
  exact ⟨q1, rfl, ⟨_, a1⟩, KA_m hK (RO_u hK.1.1.2 a3 a4) a2, a2⟩
theorem v_clear (hK : KW M) (hC : CI M) : tC e d 2053 [.inr (.inr (.inl 77))] M n (tQn n (fun M' => SK M' 0 B00 ∧ KA M M' ∧ MKF 0 M M')) := by
  refine tC_mono (z_clear (b := 0) (by decide) hC) ?_
  rintro v M' n' ⟨q1, rfl, b1, _, b2, b3⟩
  exact ⟨q1, rfl, SK_0 b1, KA_m hK (RO_u hK.1.1.2 (b2 79 4 (by decide)) (b2 79 5 (by decide))) b3, b3⟩
theorem BGm {y : Nat} {v : Int × Int} {M M1 : tM} (hn : y + 2 < 77 ∨ 496 < y) (h : BX M y v.1 v.2 ∧ GBX v) (f : MKF 0 M M1) : BX M1 y v.1 v.2 ∧ GBX v := ⟨BX_f h.1 (fun j => f.2.2 _ _ (by omega)) (fun j => f.2.2 _ _ (by omega)), h.2⟩
theorem v_along {y : Nat} {X T V : Int × Int} (hy : cl y 4 ∧ y + 2 < 77) (hX : BX M y X.1 X.2 ∧ GBX X) (hT : BX M 656 T.1 T.2 ∧ GBX T) (hV : BX M 653 V.1 V.2 ∧ GBX V) (he : EVr e) (hK : KW M) (hC : CI M) (hd : 8 ≤ d) : tC e d 3371 [.inr (.inr (.inl 0)), .inr (.inr (.inl y)), .inr (.inr (.inl 656)), .inr (.inr (.inl 653))] M n (tQi n (fun z M' => (0 ≤ z ∧ z ≤ 2) ∧ KA M M' ∧ MKF 0 M M' ∧ (z = 0 → ∃ B' : Nat → Int × Int, SK M' 1 B'))) := by
  have sy := hy.1.1
  refine tst_X11_makeAlong ?_
  refine tb_X11_makeAlong_0 (c := true) ?_
  simp only [kb_X11_makeAlong_0, w_ald_0, w_gf_13_4, tw_t, w_iv0, tfr_0, tfr_1, tfr_2, tfr_3, tfr_4, w_ald_1, w_iv1, w_ald_2, w_ald_3, w_bi, w_lc0, w_ic, w_iv3, w_ist4, tkl_n, tkl_i, tkl_l, tkl_r, w_ild4, w_if_eq, w_goto, w64_r, true_and, and_true, Nat.reduceAdd, Nat.reduceSub, eq_self, tsh_0, tyk_13, tcq_13, tsh_77, tyk_8, tcq_8, tyk_4, tcq_4, tsh_113, tsh_650, tsh_653, tsh_656, tsh_5, tyk_11, tcq_11, sy]
  refine tc_n (D := 0) (fun d' hd' => v_clear hK hC) (by omega) ?_
  rintro M1 ⟨s1, k1, m1⟩
  try simp only [kb_X11_makeAlong_0, w_ald_0, w_gf_13_4, tw_t, w_iv0, tfr_0, tfr_1, tfr_2, tfr_3, tfr_4, w_ald_1, w_iv1, w_ald_2, w_ald_3, w_bi, w_lc0, w_ic, w_iv3, w_ist4, tkl_n, tkl_i, tkl_l, tkl_r, w_ild4, w_if_eq, w_goto, w64_r, true_and, and_true, Nat.reduceAdd, Nat.reduceSub, eq_self, tsh_0, tyk_13, tcq_13, tsh_77, tyk_8, tcq_8, tyk_4, tcq_4, tsh_113, tsh_650, tsh_653, tsh_656, tsh_5, tyk_11, tcq_11, sy]
  refine tc_n (D := 2) (fun d' hd' => v_push (by decide) s1 hy.1 (by omega) (BGm (Or.inl hy.2) hX m1) k1.2 k1.1.1 hd') (by omega) ?_
  rintro M2 ⟨⟨B2, s2⟩, k2, m2⟩
  have kk2 := KA_tr k1.1.2 k2
  have mm2 := MKF_tr m1 m2
  try simp only [kb_X11_makeAlong_0, w_ald_0, w_gf_13_4, tw_t, w_iv0, tfr_0, tfr_1, tfr_2, tfr_3, tfr_4, w_ald_1, w_iv1, w_ald_2, w_ald_3, w_bi, w_lc0, w_ic, w_iv3, w_ist4, tkl_n, tkl_i, tkl_l, tkl_r, w_ild4, w_if_eq, w_goto, w64_r, true_and, and_true, Nat.reduceAdd, Nat.reduceSub, eq_self, tsh_0, tyk_13, tcq_13, tsh_77, tyk_8, tcq_8, tyk_4, tcq_4, tsh_113, tsh_650, tsh_653, tsh_656, tsh_5, tyk_11, tcq_11, sy]
  refine tc_n (D := 2) (fun d' hd' => v_push (by decide) s2 cl_656 (by decide) (BGm (Or.inr (by decide)) hT mm2) kk2.2 kk2.1.1 hd') (by omega) ?_
  rintro M3 ⟨⟨B3, s3⟩, k3, m3⟩
  have kk3 := KA_tr kk2.1.2 k3
  have mm3 := MKF_tr mm2 m3
  try simp only [kb_X11_makeAlong_0, w_ald_0, w_gf_13_4, tw_t, w_iv0, tfr_0, tfr_1, tfr_2, tfr_3, tfr_4, w_ald_1, w_iv1, w_ald_2, w_ald_3, w_bi, w_lc0, w_ic, w_iv3, w_ist4, tkl_n, tkl_i, tkl_l, tkl_r, w_ild4, w_if_eq, w_goto, w64_r, true_and, and_true, Nat.reduceAdd, Nat.reduceSub, eq_self, tsh_0, tyk_13, tcq_13, tsh_77, tyk_8, tcq_8, tyk_4, tcq_4, tsh_113, tsh_650, tsh_653, tsh_656, tsh_5, tyk_11, tcq_11, sy]
  refine tc_n (D := 2) (fun d' hd' => v_push (by decide) s3 cl_653 (by decide) (BGm (Or.inr (by decide)) hV mm3) kk3.2 kk3.1.1 hd') (by omega) ?_
  rintro M4 ⟨⟨B4, s4⟩, k4, m4⟩
  have kk4 := KA_tr kk3.1.2 k4
  have mm4 := MKF_tr mm3 m4
  try simp only [kb_X11_makeAlong_0, w_ald_0, w_gf_13_4, tw_t, w_iv0, tfr_0, tfr_1, tfr_2, tfr_3, tfr_4, w_ald_1, w_iv1, w_ald_2, w_ald_3, w_bi, w_lc0, w_ic, w_iv3, w_ist4, tkl_n, tkl_i, tkl_l, tkl_r, w_ild4, w_if_eq, w_goto, w64_r, true_and, and_true, Nat.reduceAdd, Nat.reduceSub, eq_self, tsh_0, tyk_13, tcq_13, tsh_77, tyk_8, tcq_8, tyk_4, tcq_4, tsh_113, tsh_650, tsh_653, tsh_656, tsh_5, tyk_11, tcq_11, sy]
  refine tc_i (D := 7) (fun d' hd' => v_pair (by decide) (by decide) s4 he kk4.2 kk4.1.1 hd') (by omega) ?_
  rintro z5 M5 ⟨hz5, k5, m5, v5⟩
  have kk5 := KA_tr kk4.1.2 k5
  have mm5 := MKF_tr mm4 m5
  try simp only [kb_X11_makeAlong_0, w_ald_0, w_gf_13_4, tw_t, w_iv0, tfr_0, tfr_1, tfr_2, tfr_3, tfr_4, w_ald_1, w_iv1, w_ald_2, w_ald_3, w_bi, w_lc0, w_ic, w_iv3, w_ist4, tkl_n, tkl_i, tkl_l, tkl_r, w_ild4, w_if_eq, w_goto, w64_r, true_and, and_true, Nat.reduceAdd, Nat.reduceSub, eq_self, tsh_0, tyk_13, tcq_13, tsh_77, tyk_8, tcq_8, tyk_4, tcq_4, tsh_113, tsh_650, tsh_653, tsh_656, tsh_5, tyk_11, tcq_11, sy]
  have n65 : ∀ (N : tM) (z w : Int), (0 ≤ z ∧ z ≤ 2) → KA M N → MKF 0 M N → (z = 0 → ∃ B' : Nat → Int × Int, SK N 1 B') → tT e d 3371 65 [some (.inr (.inr (.inl (0)))), some (.inr (.inr (.inl (y)))), some (.inr (.inr (.inl (656)))), some (.inr (.inr (.inl (653)))), some (.inl (w))] [.inl z] N n (tQi n (fun z M' => (0 ≤ z ∧ z ≤ 2) ∧ KA M M' ∧ MKF 0 M M' ∧ (z = 0 → ∃ B' : Nat → Int × Int, SK M' 1 B'))) := by
    intro N z w hz kN mN sN
    refine tb_X11_makeAlong_65 (c := true) ?_
    simp only [kb_X11_makeAlong_65, w_ire, trg, w64_r, true_and, and_true, Nat.reduceAdd, Nat.reduceSub, eq_self]
    exact ⟨_, rfl, rfl, hz, kN, mN, sN⟩
  repeat refine And.intro (by omega) ?_
  refine ⟨fun q => ?_, fun q => ?_⟩
  · obtain ⟨B5, s5⟩ := v5 (by omega)
    refine tb_X11_makeAlong_54 (c := true) ?_
    simp only [kb_X11_makeAlong_54, w_ald_0, w_gf_13_4, tw_t, w_bi, w_lc0, w_ic, w_iv3, tfr_0, tfr_1, tfr_2, tfr_3, tfr_4, w_nil, w64_r, true_and, and_true, Nat.reduceAdd, Nat.reduceSub, eq_self, tsh_0, tyk_13, tcq_13, tsh_77, tyk_8, tcq_8, tyk_4, tcq_4, tsh_113, tsh_650, tsh_653, tsh_656, tsh_5, tyk_11, tcq_11, sy]
    refine tc_i (D := 7) (fun d' hd' => v_pair (by decide) (by decide) s5 he kk5.2 kk5.1.1 hd') (by omega) ?_
    rintro z6 M6 ⟨hz6, k6, m6, v6⟩
    try simp only [kb_X11_makeAlong_54, w_ald_0, w_gf_13_4, tw_t, w_bi, w_lc0, w_ic, w_iv3, tfr_0, tfr_1, tfr_2, tfr_3, tfr_4, w_nil, w64_r, true_and, and_true, Nat.reduceAdd, Nat.reduceSub, eq_self, tsh_0, tyk_13, tcq_13, tsh_77, tyk_8, tcq_8, tyk_4, tcq_4, tsh_113, tsh_650, tsh_653, tsh_656, tsh_5, tyk_11, tcq_11, sy]
    exact n65 M6 z6 _ hz6 (KA_tr kk5.1.2 k6) (MKF_tr mm5 m6) v6
  · exact n65 M5 z5 _ hz5 kk5 mm5 (fun q2 => absurd q2 (by omega))
theorem v_makeMoved {r x : Nat} {X : Int × Int} {st : Nat} (hr : FMC r) (h6 : M r 6 = 1) (hx : cl x 4 ∧ x + 2 < 77) (hX : BX M x X.1 X.2 ∧ GBX X) (hst : 1 ≤ st ∧ st ≤ 1000) (he : EVr e) (hK : KW M) (hC : CI M) (hd : 9 ≤ d) : tC e d 3372 [.inr (.inr (.inl 0)), .inr (.inr (.inl r)), .inr (.inr (.inl x)), .inl (st : Int)] M n (tQi n (fun z M' => (0 ≤ z ∧ z ≤ 2) ∧ KA M M' ∧ (z = 0 → ∃ B' : Nat → Int × Int, SK M' 1 B'))) := by
  have sr := (FM_of hr).1
  have rr : 499 < r ∧ r + 6 < 531 := by unfold FMC at hr; omega
  have sx := hx.1.1
  have hu := KU hK hC
  have hu1 := hu.1
  refine tst_X11_makeMoved ?_
  refine tb_X11_makeMoved_0 (c := true) ?_
  simp only [kb_X11_makeMoved_0, w_ald_0, w_gf_13_4, tw_t, w_iv0, tfr_0, tfr_1, tfr_2, tfr_3, tfr_4, w_lst4, tkl_n, tkl_i, tkl_l, tkl_r, w_gf_13_11, w_ald_2, w_iv1, w_gf_13_13, w_gf_4_0, w_lc0, w_iv2, w_gf_4_1, w_ild_3, w_si, w_idiv, w_i2l, w_irem, w_ld2, w_lmul, w_ic, w_ist6, w_nil, w64_r, true_and, and_true, Nat.reduceAdd, Nat.reduceSub, eq_self, tsh_0, tyk_13, tcq_13, tsh_77, tyk_8, tcq_8, tyk_4, tcq_4, tsh_113, tsh_650, tsh_653, tsh_656, tsh_5, tyk_11, tcq_11, tsh_651, tsh_652, tsh_657, tsh_658, tyk_3, tcq_3, sr, sx]
  refine tc_l (D := 0) (fun d' hd' => z_unit) (by omega) ?_
  rintro u M4 ⟨rfl, rfl⟩
  try simp only [kb_X11_makeMoved_0, w_ald_0, w_gf_13_4, tw_t, w_iv0, tfr_0, tfr_1, tfr_2, tfr_3, tfr_4, w_lst4, tkl_n, tkl_i, tkl_l, tkl_r, w_gf_13_11, w_ald_2, w_iv1, w_gf_13_13, w_gf_4_0, w_lc0, w_iv2, w_gf_4_1, w_ild_3, w_si, w_idiv, w_i2l, w_irem, w_ld2, w_lmul, w_ic, w_ist6, w_nil, w64_r, true_and, and_true, Nat.reduceAdd, Nat.reduceSub, eq_self, tsh_0, tyk_13, tcq_13, tsh_77, tyk_8, tcq_8, tyk_4, tcq_4, tsh_113, tsh_650, tsh_653, tsh_656, tsh_5, tyk_11, tcq_11, tsh_651, tsh_652, tsh_657, tsh_658, tyk_3, tcq_3, sr, sx]
  repeat refine And.intro (by omega) ?_
  refine tc_n (D := 1) (fun d' hd' => z_copy (b := 0) cl_650 hx.1 hX.1 (by decide) hC hd') (by omega) ?_
  rintro M5 ⟨x5, f5⟩
  have k5 := KA_b hK (by decide) f5
  try simp only [kb_X11_makeMoved_0, w_ald_0, w_gf_13_4, tw_t, w_iv0, tfr_0, tfr_1, tfr_2, tfr_3, tfr_4, w_lst4, tkl_n, tkl_i, tkl_l, tkl_r, w_gf_13_11, w_ald_2, w_iv1, w_gf_13_13, w_gf_4_0, w_lc0, w_iv2, w_gf_4_1, w_ild_3, w_si, w_idiv, w_i2l, w_irem, w_ld2, w_lmul, w_ic, w_ist6, w_nil, w64_r, true_and, and_true, Nat.reduceAdd, Nat.reduceSub, eq_self, tsh_0, tyk_13, tcq_13, tsh_77, tyk_8, tcq_8, tyk_4, tcq_4, tsh_113, tsh_650, tsh_653, tsh_656, tsh_5, tyk_11, tcq_11, tsh_651, tsh_652, tsh_657, tsh_658, tyk_3, tcq_3, sr, sx]
  refine tc_n (D := 0) (fun d' hd' => y_assign (b := 0) cl_657 (by decide) (Or.inl (by decide)) k5.1.1) (by omega) ?_
  rintro M6 ⟨x6, f6⟩
  have k6 := KA_tr k5.1.2 (KA_b (x := 656) k5.2 (by decide) (BE_1 f6))
  try simp only [kb_X11_makeMoved_0, w_ald_0, w_gf_13_4, tw_t, w_iv0, tfr_0, tfr_1, tfr_2, tfr_3, tfr_4, w_lst4, tkl_n, tkl_i, tkl_l, tkl_r, w_gf_13_11, w_ald_2, w_iv1, w_gf_13_13, w_gf_4_0, w_lc0, w_iv2, w_gf_4_1, w_ild_3, w_si, w_idiv, w_i2l, w_irem, w_ld2, w_lmul, w_ic, w_ist6, w_nil, w64_r, true_and, and_true, Nat.reduceAdd, Nat.reduceSub, eq_self, tsh_0, tyk_13, tcq_13, tsh_77, tyk_8, tcq_8, tyk_4, tcq_4, tsh_113, tsh_650, tsh_653, tsh_656, tsh_5, tyk_11, tcq_11, tsh_651, tsh_652, tsh_657, tsh_658, tyk_3, tcq_3, sr, sx]
  have e1 : (st : Int).tdiv 1000 = (st : Int) / 1000 := Int.tdiv_eq_ediv_of_nonneg (by omega)
  have e2 : (st : Int).tmod 1000 = (st : Int) % 1000 := Int.tmod_eq_emod_of_nonneg (by omega)
  simp only [e1, e2]
  repeat refine And.intro (by omega) ?_
  have e3 : w64 ((st : Int) % 1000 * 10000000) = (st : Int) % 1000 * 10000000 := w64_e (by omega)
  rw [e3]
  refine tc_n (D := 0) (fun d' hd' => y_assign (b := 0) cl_658 (by omega) (Or.inl (by decide)) k6.1.1) (by omega) ?_
  rintro M7 ⟨x7, f7⟩
  have k7 := KA_tr k6.1.2 (KA_b (x := 656) k6.2 (by decide) (BE_2 f7))
  generalize hh : (st : Int) / 1000 * 10000000000 + (st : Int) % 1000 * 10000000 = h at x7
  have hh2 : 0 ≤ h ∧ h ≤ 10000000000 := by omega
  have gT : GBX (0, h) := ⟨⟨by show NF 0; unfold NF; decide, by show NF h; unfold NF; omega⟩, hh2.1⟩
  try simp only [kb_X11_makeMoved_0, w_ald_0, w_gf_13_4, tw_t, w_iv0, tfr_0, tfr_1, tfr_2, tfr_3, tfr_4, w_lst4, tkl_n, tkl_i, tkl_l, tkl_r, w_gf_13_11, w_ald_2, w_iv1, w_gf_13_13, w_gf_4_0, w_lc0, w_iv2, w_gf_4_1, w_ild_3, w_si, w_idiv, w_i2l, w_irem, w_ld2, w_lmul, w_ic, w_ist6, w_nil, w64_r, true_and, and_true, Nat.reduceAdd, Nat.reduceSub, eq_self, tsh_0, tyk_13, tcq_13, tsh_77, tyk_8, tcq_8, tyk_4, tcq_4, tsh_113, tsh_650, tsh_653, tsh_656, tsh_5, tyk_11, tcq_11, tsh_651, tsh_652, tsh_657, tsh_658, tyk_3, tcq_3, sr, sx]
  have nl : ∀ (fu : Nat) (N : tM) (p : Nat) (w7 : Option tV), 8 - p = fu → p ≤ 8 → BXG N 650 → BX N 656 0 h → KA M4 N → (∀ (k : Nat) (i : Int), (k < 77 ∨ (499 ≤ k ∧ k < 590)) → N k i = M4 k i) → tT e d 3372 58 [some (.inr (.inr (.inl (0)))), some (.inr (.inr (.inl (r)))), some (.inr (.inr (.inl (x)))), some (.inl ((st : Int))), some (.inr (.inl (M4 78 5))), none, some (.inl ((p : Int))), w7] [] N n (tQi n (fun z M' => (0 ≤ z ∧ z ≤ 2) ∧ KA M4 M' ∧ (z = 0 → ∃ B' : Nat → Int × Int, SK M' 1 B'))) := by
    intro fu
    induction fu with
    | zero =>
      intro N p w7 hf hp hb ht kN fN
      refine tb_X11_makeMoved_58 (c := true) ?_
      simp only [kb_X11_makeMoved_58, w_ild6, w_bi, w_ic_ge, w_ald_0, w_gf_13_4, tw_t, w_gf_13_11, w_iv2, tfr_0, tfr_1, tfr_2, tfr_3, tfr_4, w_ald_1, w_iv1, w_ist7, tkl_n, tkl_i, tkl_l, tkl_r, w_ild7, w_if_eq, w_ire, trg, w64_r, true_and, and_true, Nat.reduceAdd, Nat.reduceSub, eq_self, tsh_0, tyk_13, tcq_13, tsh_77, tyk_8, tcq_8, tyk_4, tcq_4, tsh_113, tsh_650, tsh_653, tsh_656, tsh_5, tyk_11, tcq_11, tsh_651, tsh_652, tsh_657, tsh_658, tyk_3, tcq_3, sr, sx]
      repeat refine And.intro (by omega) ?_
      refine ⟨fun _ => ?_, fun q => absurd (by omega) q⟩
      refine tb_X11_makeMoved_240 (c := true) ?_
      simp only [kb_X11_makeMoved_240, w_ic, w_ire, trg, w64_r, true_and, and_true, Nat.reduceAdd, Nat.reduceSub, eq_self]
      exact ⟨_, rfl, rfl, by decide, kN, fun q => absurd q (by decide)⟩
    | succ fu ih =>
      intro N p w7 hf hp hb ht kN fN
      obtain ⟨F, hF⟩ := hb
      refine tb_X11_makeMoved_58 (c := true) ?_
      simp only [kb_X11_makeMoved_58, w_ild6, w_bi, w_ic_ge, w_ald_0, w_gf_13_4, tw_t, w_gf_13_11, w_iv2, tfr_0, tfr_1, tfr_2, tfr_3, tfr_4, w_ald_1, w_iv1, w_ist7, tkl_n, tkl_i, tkl_l, tkl_r, w_ild7, w_if_eq, w_ire, trg, w64_r, true_and, and_true, Nat.reduceAdd, Nat.reduceSub, eq_self, tsh_0, tyk_13, tcq_13, tsh_77, tyk_8, tcq_8, tyk_4, tcq_4, tsh_113, tsh_650, tsh_653, tsh_656, tsh_5, tyk_11, tcq_11, tsh_651, tsh_652, tsh_657, tsh_658, tyk_3, tcq_3, sr, sx]
      repeat refine And.intro (by omega) ?_
      first | refine ⟨fun q => absurd q (by omega), fun _ => ?_⟩ | refine fun _ => ?_
      repeat refine And.intro (by omega) ?_
      refine tc_n (D := 0) (fun d' hd' => v_aim ⟨cl_650, Or.inr (by decide)⟩ ⟨cl_650, Or.inr (by decide)⟩ hF hF kN.2 kN.1.1) (by omega) ?_
      rintro N5 ⟨am, kN5, g5⟩
      try simp only [kb_X11_makeMoved_58, w_ild6, w_bi, w_ic_ge, w_ald_0, w_gf_13_4, tw_t, w_gf_13_11, w_iv2, tfr_0, tfr_1, tfr_2, tfr_3, tfr_4, w_ald_1, w_iv1, w_ist7, tkl_n, tkl_i, tkl_l, tkl_r, w_ild7, w_if_eq, w_ire, trg, w64_r, true_and, and_true, Nat.reduceAdd, Nat.reduceSub, eq_self, tsh_0, tyk_13, tcq_13, tsh_77, tyk_8, tcq_8, tyk_4, tcq_4, tsh_113, tsh_650, tsh_653, tsh_656, tsh_5, tyk_11, tcq_11, tsh_651, tsh_652, tsh_657, tsh_658, tyk_3, tcq_3, sr, sx]
      refine tc_i (D := 8) (fun d' hd' => v_mkV hr ((g5 r 6 (by omega)).trans ((fN r 6 (by omega)).trans h6)) am he kN5.2 kN5.1.1 hd') (by omega) ?_
      rintro z6 N6 ⟨hz6, kN6, m6, v6⟩
      have kk6 : KA M4 N6 := KA_tr (pE_tr kN.1.2 kN5.1.2) kN6
      have fN6 : ∀ (k : Nat) (i : Int), (k < 77 ∨ (499 ≤ k ∧ k < 590)) → N6 k i = M4 k i := fun k i g => (m6.2.2 k i (by omega)).trans ((g5 k i (by omega)).trans (fN k i g))
      try simp only [kb_X11_makeMoved_58, w_ild6, w_bi, w_ic_ge, w_ald_0, w_gf_13_4, tw_t, w_gf_13_11, w_iv2, tfr_0, tfr_1, tfr_2, tfr_3, tfr_4, w_ald_1, w_iv1, w_ist7, tkl_n, tkl_i, tkl_l, tkl_r, w_ild7, w_if_eq, w_ire, trg, w64_r, true_and, and_true, Nat.reduceAdd, Nat.reduceSub, eq_self, tsh_0, tyk_13, tcq_13, tsh_77, tyk_8, tcq_8, tyk_4, tcq_4, tsh_113, tsh_650, tsh_653, tsh_656, tsh_5, tyk_11, tcq_11, tsh_651, tsh_652, tsh_657, tsh_658, tyk_3, tcq_3, sr, sx]
      repeat refine And.intro (by omega) ?_
      refine ⟨fun q0 => ?_, fun q => ⟨_, rfl, rfl, hz6, kk6, fun q2 => absurd q2 (by omega)⟩⟩
      obtain ⟨B0, s0, -⟩ := v6 (by omega)
      obtain ⟨b0, gb0⟩ := s0.2 0 (by decide)
      refine tb_X11_makeMoved_98 (c := true) ?_
      simp only [kb_X11_makeMoved_98, w_ald_0, w_gf_13_12, tw_t, w_gf_13_4, w_iv0, tfr_0, tfr_1, tfr_2, tfr_3, tfr_4, w_iv1, w_ald_2, w_gf_13_13, w_iv3, w_ist7, tkl_n, tkl_i, tkl_l, tkl_r, w_ild7, w_if_eq, w_ire, trg, w64_r, true_and, and_true, Nat.reduceAdd, Nat.reduceSub, eq_self, tsh_0, tyk_13, tcq_13, tsh_77, tyk_8, tcq_8, tyk_4, tcq_4, tsh_113, tsh_650, tsh_653, tsh_656, tsh_5, tyk_11, tcq_11, tsh_651, tsh_652, tsh_657, tsh_658, tyk_3, tcq_3, sr, sx]
      refine tc_r (D := 1) (fun d' hd' => z_result s0.1 hd') (by omega) ?_
      rintro y N7 ⟨rfl, rfl⟩
      try simp only [kb_X11_makeMoved_98, w_ald_0, w_gf_13_12, tw_t, w_gf_13_4, w_iv0, tfr_0, tfr_1, tfr_2, tfr_3, tfr_4, w_iv1, w_ald_2, w_gf_13_13, w_iv3, w_ist7, tkl_n, tkl_i, tkl_l, tkl_r, w_ild7, w_if_eq, w_ire, trg, w64_r, true_and, and_true, Nat.reduceAdd, Nat.reduceSub, eq_self, tsh_0, tyk_13, tcq_13, tsh_77, tyk_8, tcq_8, tyk_4, tcq_4, tsh_113, tsh_650, tsh_653, tsh_656, tsh_5, tyk_11, tcq_11, tsh_651, tsh_652, tsh_657, tsh_658, tyk_3, tcq_3, sr, sx]
      refine tc_n (D := 1) (fun d' hd' => z_copy (b := 0) cl_653 cl_113 b0 (by decide) kk6.1.1 hd') (by omega) ?_
      rintro N8 ⟨x8, f8⟩
      have k8 := KA_b kk6.2 (by decide) f8
      have kk8 : KA M4 N8 := KA_tr kk6.1.2 k8
      have fN8 : ∀ (k : Nat) (i : Int), (k < 77 ∨ (499 ≤ k ∧ k < 590)) → N8 k i = M4 k i := fun k i g => (f8.2 k i (by omega) (by omega)).trans (fN6 k i g)
      have X8 : BX N8 x X.1 X.2 ∧ GBX X := ⟨BX_f hX.1 (fun j => fN8 _ _ (by omega)) (fun j => fN8 _ _ (by omega)), hX.2⟩
      have T8 : BX N8 656 0 h := BX_f ht (fun j => (f8.2 _ _ (by decide) (by decide)).trans ((m6.2.2 _ _ (by decide)).trans (g5 _ _ (by decide)))) (fun j => (f8.2 _ _ (by decide) (by decide)).trans ((m6.2.2 _ _ (by decide)).trans (g5 _ _ (by decide))))
      have F8 : BX N8 650 F.1 F.2 := BX_f hF.1 (fun j => (f8.2 _ _ (by decide) (by decide)).trans ((m6.2.2 _ _ (by decide)).trans (g5 _ _ (by decide)))) (fun j => (f8.2 _ _ (by decide) (by decide)).trans ((m6.2.2 _ _ (by decide)).trans (g5 _ _ (by decide))))
      try simp only [kb_X11_makeMoved_98, w_ald_0, w_gf_13_12, tw_t, w_gf_13_4, w_iv0, tfr_0, tfr_1, tfr_2, tfr_3, tfr_4, w_iv1, w_ald_2, w_gf_13_13, w_iv3, w_ist7, tkl_n, tkl_i, tkl_l, tkl_r, w_ild7, w_if_eq, w_ire, trg, w64_r, true_and, and_true, Nat.reduceAdd, Nat.reduceSub, eq_self, tsh_0, tyk_13, tcq_13, tsh_77, tyk_8, tcq_8, tyk_4, tcq_4, tsh_113, tsh_650, tsh_653, tsh_656, tsh_5, tyk_11, tcq_11, tsh_651, tsh_652, tsh_657, tsh_658, tyk_3, tcq_3, sr, sx]
      refine tc_i (D := 8) (fun d' hd' => v_along (T := (0, h)) (V := B0 0) hx X8 ⟨T8, gT⟩ ⟨x8, gb0⟩ he kk8.2 kk8.1.1 hd') (by omega) ?_
      rintro z9 N9 ⟨hz9, k9, m9, v9⟩
      have kk9 : KA M4 N9 := KA_tr kk8.1.2 k9
      try simp only [kb_X11_makeMoved_98, w_ald_0, w_gf_13_12, tw_t, w_gf_13_4, w_iv0, tfr_0, tfr_1, tfr_2, tfr_3, tfr_4, w_iv1, w_ald_2, w_gf_13_13, w_iv3, w_ist7, tkl_n, tkl_i, tkl_l, tkl_r, w_ild7, w_if_eq, w_ire, trg, w64_r, true_and, and_true, Nat.reduceAdd, Nat.reduceSub, eq_self, tsh_0, tyk_13, tcq_13, tsh_77, tyk_8, tcq_8, tyk_4, tcq_4, tsh_113, tsh_650, tsh_653, tsh_656, tsh_5, tyk_11, tcq_11, tsh_651, tsh_652, tsh_657, tsh_658, tyk_3, tcq_3, sr, sx]
      repeat refine And.intro (by omega) ?_
      refine ⟨fun q0 => ?_, fun q => ⟨_, rfl, rfl, hz9, kk9, fun q2 => absurd q2 (by omega)⟩⟩
      obtain ⟨B1, s1⟩ := v9 (by omega)
      obtain ⟨b1, gb1⟩ := s1.2 0 (by decide)
      have fN9 : ∀ (k : Nat) (i : Int), (k < 77 ∨ (499 ≤ k ∧ k < 590)) → N9 k i = M4 k i := fun k i g => (m9.2.2 k i (by omega)).trans (fN8 k i g)
      have F9 := BX_f F8 (fun j => m9.2.2 _ j (by decide)) (fun j => m9.2.2 _ j (by decide))
      have T9 := BX_f T8 (fun j => m9.2.2 _ j (by decide)) (fun j => m9.2.2 _ j (by decide))
      have V9 := BX_f x8 (fun j => m9.2.2 _ j (by decide)) (fun j => m9.2.2 _ j (by decide))
      have X9 : BX N9 x X.1 X.2 ∧ GBX X := ⟨BX_f hX.1 (fun j => fN9 _ _ (by omega)) (fun j => fN9 _ _ (by omega)), hX.2⟩
      refine tb_X11_makeMoved_135 (c := true) ?_
      simp only [kb_X11_makeMoved_135, w_ald_0, w_gf_13_4, tw_t, w_iv0, tfr_0, tfr_1, tfr_2, tfr_3, tfr_4, w_gf_13_11, w_iv1, w_if_eq, w_gf_13_13, w_gf_4_0, w_gf_4_1, w_ald_2, w_gf_13_12, w_iv3, w_ire, trg, w64_r, true_and, and_true, Nat.reduceAdd, Nat.reduceSub, eq_self, tsh_0, tyk_13, tcq_13, tsh_77, tyk_8, tcq_8, tyk_4, tcq_4, tsh_113, tsh_650, tsh_653, tsh_656, tsh_5, tyk_11, tcq_11, tsh_651, tsh_652, tsh_657, tsh_658, tyk_3, tcq_3, sr, sx]
      refine tc_r (D := 1) (fun d' hd' => z_result s1.1 hd') (by omega) ?_
      rintro y N10 ⟨rfl, rfl⟩
      try simp only [kb_X11_makeMoved_135, w_ald_0, w_gf_13_4, tw_t, w_iv0, tfr_0, tfr_1, tfr_2, tfr_3, tfr_4, w_gf_13_11, w_iv1, w_if_eq, w_gf_13_13, w_gf_4_0, w_gf_4_1, w_ald_2, w_gf_13_12, w_iv3, w_ire, trg, w64_r, true_and, and_true, Nat.reduceAdd, Nat.reduceSub, eq_self, tsh_0, tyk_13, tcq_13, tsh_77, tyk_8, tcq_8, tyk_4, tcq_4, tsh_113, tsh_650, tsh_653, tsh_656, tsh_5, tyk_11, tcq_11, tsh_651, tsh_652, tsh_657, tsh_658, tyk_3, tcq_3, sr, sx]
      refine tc_i (D := 1) (fun d' hd' => z_liesIn cl_113 cl_650 b1 F9 (RV_g gb1) (RV_g hF.2) hd') (by omega) ?_
      rintro w N11 ⟨hw, rfl⟩
      try simp only [kb_X11_makeMoved_135, w_ald_0, w_gf_13_4, tw_t, w_iv0, tfr_0, tfr_1, tfr_2, tfr_3, tfr_4, w_gf_13_11, w_iv1, w_if_eq, w_gf_13_13, w_gf_4_0, w_gf_4_1, w_ald_2, w_gf_13_12, w_iv3, w_ire, trg, w64_r, true_and, and_true, Nat.reduceAdd, Nat.reduceSub, eq_self, tsh_0, tyk_13, tcq_13, tsh_77, tyk_8, tcq_8, tyk_4, tcq_4, tsh_113, tsh_650, tsh_653, tsh_656, tsh_5, tyk_11, tcq_11, tsh_651, tsh_652, tsh_657, tsh_658, tyk_3, tcq_3, sr, sx]
      repeat refine And.intro (by omega) ?_
      refine ⟨fun q => ?_, fun q => ?_⟩
      · refine tb_X11_makeMoved_183 (c := true) ?_
        simp only [kb_X11_makeMoved_183, w_ald_0, w_gf_13_11, tw_t, w_gf_13_4, w_iv0, tfr_0, tfr_1, tfr_2, tfr_3, tfr_4, w_iv1, w_gf_4_0, w_lld4, w_lneg, w_gf_4_1, w_if_eq, w_ic, w_ire, trg, w64_r, true_and, and_true, Nat.reduceAdd, Nat.reduceSub, eq_self, tsh_0, tyk_13, tcq_13, tsh_77, tyk_8, tcq_8, tyk_4, tcq_4, tsh_113, tsh_650, tsh_653, tsh_656, tsh_5, tyk_11, tcq_11, tsh_651, tsh_652, tsh_657, tsh_658, tyk_3, tcq_3, sr, sx]
        refine tc_r (D := 1) (fun d' hd' => z_result s1.1 hd') (by omega) ?_
        rintro y N12 ⟨rfl, rfl⟩
        try simp only [kb_X11_makeMoved_183, w_ald_0, w_gf_13_11, tw_t, w_gf_13_4, w_iv0, tfr_0, tfr_1, tfr_2, tfr_3, tfr_4, w_iv1, w_gf_4_0, w_lld4, w_lneg, w_gf_4_1, w_if_eq, w_ic, w_ire, trg, w64_r, true_and, and_true, Nat.reduceAdd, Nat.reduceSub, eq_self, tsh_0, tyk_13, tcq_13, tsh_77, tyk_8, tcq_8, tyk_4, tcq_4, tsh_113, tsh_650, tsh_653, tsh_656, tsh_5, tyk_11, tcq_11, tsh_651, tsh_652, tsh_657, tsh_658, tyk_3, tcq_3, sr, sx]
        refine tc_n (D := 1) (fun d' hd' => z_embrace (b := 0) cl_650 cl_113 (by decide) F9 b1 (RV_g hF.2) (RV_g gb1) (by decide) kk9.1.1 hd') (by omega) ?_
        rintro N13 ⟨x13, f13⟩
        have k13 := KA_b kk9.2 (by decide) f13
        have ge := GB_em hF.2 gb1
        generalize (if (B1 0).1 < F.1 then (B1 0).1 else F.1) = lo at x13 ge
        generalize (if F.2 < (B1 0).2 then (B1 0).2 else F.2) = hi at x13 ge
        have rg := RV_g ge
        have ng := ge.1
        unfold NF at ng
        try simp only [kb_X11_makeMoved_183, w_ald_0, w_gf_13_11, tw_t, w_gf_13_4, w_iv0, tfr_0, tfr_1, tfr_2, tfr_3, tfr_4, w_iv1, w_gf_4_0, w_lld4, w_lneg, w_gf_4_1, w_if_eq, w_ic, w_ire, trg, w64_r, true_and, and_true, Nat.reduceAdd, Nat.reduceSub, eq_self, tsh_0, tyk_13, tcq_13, tsh_77, tyk_8, tcq_8, tyk_4, tcq_4, tsh_113, tsh_650, tsh_653, tsh_656, tsh_5, tyk_11, tcq_11, tsh_651, tsh_652, tsh_657, tsh_658, tyk_3, tcq_3, sr, sx]
        have e4 : w64 (-M4 78 5) = -M4 78 5 := w64_e (by omega)
        rw [e4]
        repeat refine And.intro (by omega) ?_
        refine tc_n (D := 0) (fun d' hd' => y_shift (b := 0) cl_651 x13.1 rg.1 (by omega) (Or.inl (by decide)) k13.1.1) (by omega) ?_
        rintro N14 ⟨x14, f14⟩
        have k14 := KA_b (x := 650) k13.2 (by decide) (BE_1 f14)
        try simp only [kb_X11_makeMoved_183, w_ald_0, w_gf_13_11, tw_t, w_gf_13_4, w_iv0, tfr_0, tfr_1, tfr_2, tfr_3, tfr_4, w_iv1, w_gf_4_0, w_lld4, w_lneg, w_gf_4_1, w_if_eq, w_ic, w_ire, trg, w64_r, true_and, and_true, Nat.reduceAdd, Nat.reduceSub, eq_self, tsh_0, tyk_13, tcq_13, tsh_77, tyk_8, tcq_8, tyk_4, tcq_4, tsh_113, tsh_650, tsh_653, tsh_656, tsh_5, tyk_11, tcq_11, tsh_651, tsh_652, tsh_657, tsh_658, tyk_3, tcq_3, sr, sx]
        refine tc_n (D := 0) (fun d' hd' => y_shift (b := 0) cl_652 (BB_u x13.2 (fun j => f14.2.2 _ _ (by decide))) rg.2 (by omega) (Or.inl (by decide)) k14.1.1) (by omega) ?_
        rintro N15 ⟨x15, f15⟩
        have k15 := KA_b (x := 650) k14.2 (by decide) (BE_2 f15)
        try simp only [kb_X11_makeMoved_183, w_ald_0, w_gf_13_11, tw_t, w_gf_13_4, w_iv0, tfr_0, tfr_1, tfr_2, tfr_3, tfr_4, w_iv1, w_gf_4_0, w_lld4, w_lneg, w_gf_4_1, w_if_eq, w_ic, w_ire, trg, w64_r, true_and, and_true, Nat.reduceAdd, Nat.reduceSub, eq_self, tsh_0, tyk_13, tcq_13, tsh_77, tyk_8, tcq_8, tyk_4, tcq_4, tsh_113, tsh_650, tsh_653, tsh_656, tsh_5, tyk_11, tcq_11, tsh_651, tsh_652, tsh_657, tsh_658, tyk_3, tcq_3, sr, sx]
        have b15 : BX N15 650 (lo + -(M4 78 5)) (hi + M4 78 5) := ⟨BB_u x14 (fun j => f15.2.2 _ _ (by decide)), x15⟩
        refine tc_i (D := 1) (fun d' hd' => z_tooGreat cl_650 b15 (by unfold RV; omega) (by unfold RV; omega) hd') (by omega) ?_
        rintro z16 N16 ⟨hz16, rfl⟩
        have kk16 : KA M4 N16 := KA_tr (pE_tr kk9.1.2 (pE_tr k13.1.2 k14.1.2)) k15
        try simp only [kb_X11_makeMoved_183, w_ald_0, w_gf_13_11, tw_t, w_gf_13_4, w_iv0, tfr_0, tfr_1, tfr_2, tfr_3, tfr_4, w_iv1, w_gf_4_0, w_lld4, w_lneg, w_gf_4_1, w_if_eq, w_ic, w_ire, trg, w64_r, true_and, and_true, Nat.reduceAdd, Nat.reduceSub, eq_self, tsh_0, tyk_13, tcq_13, tsh_77, tyk_8, tcq_8, tyk_4, tcq_4, tsh_113, tsh_650, tsh_653, tsh_656, tsh_5, tyk_11, tcq_11, tsh_651, tsh_652, tsh_657, tsh_658, tyk_3, tcq_3, sr, sx]
        repeat refine And.intro (by omega) ?_
        refine ⟨fun q2 => ?_, fun q2 => ⟨_, rfl, rfl, by decide, kk16, fun q3 => absurd q3 (by decide)⟩⟩
        have g16 : GBX (lo + -(M4 78 5), hi + M4 78 5) := by
          rcases hz16 with ⟨a, _⟩ | ⟨_, a⟩
          · omega
          · refine ⟨⟨NF_z.mp (fun b => a (Or.inl b)), NF_z.mp (fun b => a (Or.inr b))⟩, ?_⟩
            have := ge.2
            show lo + -(M4 78 5) ≤ hi + M4 78 5
            have h3 : lo ≤ hi := this
            omega
        refine tb_X11_makeMoved_234 (c := true) ?_
        simp only [kb_X11_makeMoved_234, w_inc6, tkl_n, tkl_i, tkl_l, tkl_r, w_goto, w64_r, true_and, and_true, Nat.reduceAdd, Nat.reduceSub, eq_self]
        repeat refine And.intro (by omega) ?_
        rw [show ((p : Nat) : Int) + 1 = ((p + 1 : Nat) : Int) by omega]
        exact ih N16 (p + 1) _ (by omega) (by omega) ⟨_, b15, g16⟩ (BX_f T9 (fun j => (f15.2.2 _ _ (by decide)).trans ((f14.2.2 _ _ (by decide)).trans (f13.2 _ _ (by decide) (by decide)))) (fun j => (f15.2.2 _ _ (by decide)).trans ((f14.2.2 _ _ (by decide)).trans (f13.2 _ _ (by decide) (by decide))))) kk16 (fun k i g => (f15.2.2 k i (by omega)).trans ((f14.2.2 k i (by omega)).trans ((f13.2 k i (by omega) (by omega)).trans (fN9 k i g))))
      · refine tc_n (D := 0) (fun d' hd' => y_copy (b := 0) cl_657 cl_658 T9.2 (Or.inl (by decide)) kk9.1.1) (by omega) ?_
        rintro N12 ⟨x12, f12⟩
        have k12 := KA_b (x := 656) kk9.2 (by decide) (BE_1 f12)
        have kk12 : KA M4 N12 := KA_tr kk9.1.2 k12
        try simp only [kb_X11_makeMoved_135, w_ald_0, w_gf_13_4, tw_t, w_iv0, tfr_0, tfr_1, tfr_2, tfr_3, tfr_4, w_gf_13_11, w_iv1, w_if_eq, w_gf_13_13, w_gf_4_0, w_gf_4_1, w_ald_2, w_gf_13_12, w_iv3, w_ire, trg, w64_r, true_and, and_true, Nat.reduceAdd, Nat.reduceSub, eq_self, tsh_0, tyk_13, tcq_13, tsh_77, tyk_8, tcq_8, tyk_4, tcq_4, tsh_113, tsh_650, tsh_653, tsh_656, tsh_5, tyk_11, tcq_11, tsh_651, tsh_652, tsh_657, tsh_658, tyk_3, tcq_3, sr, sx]
        refine tc_i (D := 8) (fun d' hd' => v_along (T := (h, h)) (V := B0 0) hx ⟨BX_f X9.1 (fun j => f12.2.2 _ _ (by omega)) (fun j => f12.2.2 _ _ (by omega)), hX.2⟩ ⟨⟨x12, BB_u T9.2 (fun j => f12.2.2 _ _ (by decide))⟩, ⟨⟨gT.1.2, gT.1.2⟩, Int.le_refl _⟩⟩ ⟨BX_f V9 (fun j => f12.2.2 _ _ (by decide)) (fun j => f12.2.2 _ _ (by decide)), gb0⟩ he kk12.2 kk12.1.1 hd') (by omega) ?_
        rintro z13 N13 ⟨hz13, k13, m13, v13⟩
        try simp only [kb_X11_makeMoved_135, w_ald_0, w_gf_13_4, tw_t, w_iv0, tfr_0, tfr_1, tfr_2, tfr_3, tfr_4, w_gf_13_11, w_iv1, w_if_eq, w_gf_13_13, w_gf_4_0, w_gf_4_1, w_ald_2, w_gf_13_12, w_iv3, w_ire, trg, w64_r, true_and, and_true, Nat.reduceAdd, Nat.reduceSub, eq_self, tsh_0, tyk_13, tcq_13, tsh_77, tyk_8, tcq_8, tyk_4, tcq_4, tsh_113, tsh_650, tsh_653, tsh_656, tsh_5, tyk_11, tcq_11, tsh_651, tsh_652, tsh_657, tsh_658, tyk_3, tcq_3, sr, sx]
        exact ⟨_, rfl, rfl, hz13, KA_tr kk12.1.2 k13, v13⟩
  exact nl 8 M7 0 _ rfl (by decide) ⟨X, BX_f x5 (fun j => (f7.2.2 _ _ (by decide)).trans (f6.2.2 _ _ (by decide))) (fun j => (f7.2.2 _ _ (by decide)).trans (f6.2.2 _ _ (by decide))), hX.2⟩ ⟨BB_u x6 (fun j => f7.2.2 _ _ (by decide)), x7⟩ k7 (fun k i g => (f7.2.2 k i (by omega)).trans ((f6.2.2 k i (by omega)).trans (f5.2 k i (by omega) (by omega))))
theorem v_move {x1 x2 x3 x4 : Int} (h1 : (-2147483648 ≤ x1 ∧ x1 ≤ 2147483647)) (h2 : (-2147483648 ≤ x2 ∧ x2 ≤ 2147483647)) (h3 : (-2147483648 ≤ x3 ∧ x3 ≤ 2147483647)) (h4 : (-2147483648 ≤ x4 ∧ x4 ≤ 2147483647)) (he : EVr e) (hK : KW M) (hC : CI M) (hd : 10 ≤ d) : tC e d 3375 [.inr (.inr (.inl 0)), .inl x1, .inl x2, .inl x3, .inl x4] M n (tQx n (tQi n (fun z M' => (0 ≤ z ∧ z ≤ 1) ∧ KA M M')) (fun _ M' => KA M M')) := by
  refine tst_X11_move ?_
  refine tb_X11_move_0 (c := true) ?_
  simp only [kb_X11_move_0, w_ald_0, w_ild_1, w_iv1, tfr_0, tfr_1, tfr_2, tfr_3, tfr_4, w_ild_3, w_ild_2, w_ild4, w_ic, w_ic_lt, w_si, w_ic_le, w_nil, w64_r, true_and, and_true, Nat.reduceAdd, Nat.reduceSub, eq_self, tsh_0, tyk_13, tsh_77, tyk_8, tcq_8, tsh_5, tyk_11, tcq_13, tcq_11, tyk_4, tcq_4, tsh_113, tsh_650, tsh_499, tyk_27, tel_5, tyk_7, tcq_7]
  refine tz_xn (D := 0) (fun d' hd' => k_X11_checkShelf cl_0 h1 hd') hC (by omega) rfl ?_ (fun s q => Or.inr ⟨_, rfl, rfl, KA_refl hC hK⟩)
  intro a1
  try simp only [kb_X11_move_0, w_ald_0, w_ild_1, w_iv1, tfr_0, tfr_1, tfr_2, tfr_3, tfr_4, w_ild_3, w_ild_2, w_ild4, w_ic, w_ic_lt, w_si, w_ic_le, w_nil, w64_r, true_and, and_true, Nat.reduceAdd, Nat.reduceSub, eq_self, tsh_0, tyk_13, tsh_77, tyk_8, tcq_8, tsh_5, tyk_11, tcq_13, tcq_11, tyk_4, tcq_4, tsh_113, tsh_650, tsh_499, tyk_27, tel_5, tyk_7, tcq_7]
  refine tz_xn (D := 0) (fun d' hd' => k_X11_checkShelf cl_0 h3 hd') hC (by omega) rfl ?_ (fun s q => Or.inr ⟨_, rfl, rfl, KA_refl hC hK⟩)
  intro a3
  try simp only [kb_X11_move_0, w_ald_0, w_ild_1, w_iv1, tfr_0, tfr_1, tfr_2, tfr_3, tfr_4, w_ild_3, w_ild_2, w_ild4, w_ic, w_ic_lt, w_si, w_ic_le, w_nil, w64_r, true_and, and_true, Nat.reduceAdd, Nat.reduceSub, eq_self, tsh_0, tyk_13, tsh_77, tyk_8, tcq_8, tsh_5, tyk_11, tcq_13, tcq_11, tyk_4, tcq_4, tsh_113, tsh_650, tsh_499, tyk_27, tel_5, tyk_7, tcq_7]
  refine tz_xn (D := 0) (fun d' hd' => k_X11_checkFormula cl_0 h2 hd') hC (by omega) rfl ?_ (fun s q => Or.inr ⟨_, rfl, rfl, KA_refl hC hK⟩)
  intro a2
  try simp only [kb_X11_move_0, w_ald_0, w_ild_1, w_iv1, tfr_0, tfr_1, tfr_2, tfr_3, tfr_4, w_ild_3, w_ild_2, w_ild4, w_ic, w_ic_lt, w_si, w_ic_le, w_nil, w64_r, true_and, and_true, Nat.reduceAdd, Nat.reduceSub, eq_self, tsh_0, tyk_13, tsh_77, tyk_8, tcq_8, tsh_5, tyk_11, tcq_13, tcq_11, tyk_4, tcq_4, tsh_113, tsh_650, tsh_499, tyk_27, tel_5, tyk_7, tcq_7]
  have n29 : tT e d 3375 29 [some (.inr (.inr (.inl (0)))), some (.inl (x1)), some (.inl (x2)), some (.inl (x3)), some (.inl (x4))] [] M n (tQx n (tQi n (fun z M' => (0 ≤ z ∧ z ≤ 1) ∧ KA M M')) (fun _ M' => KA M M')) := by
    refine tb_X11_move_29 (c := true) ?_
    simp only [kb_X11_move_29, w_new, w64_r, true_and, and_true, Nat.reduceAdd, Nat.reduceSub, eq_self]
    exact Or.inr ⟨_, rfl, rfl, KA_refl hC hK⟩
  repeat refine And.intro (by omega) ?_
  refine ⟨fun _ => n29, fun g => ?_⟩
  repeat refine And.intro (by omega) ?_
  refine ⟨fun g2 => ?_, fun _ => n29⟩
  obtain ⟨i, rfl⟩ : ∃ k : Nat, x3 = (k : Int) := ⟨x3.toNat, by omega⟩
  obtain ⟨j, rfl⟩ : ∃ k : Nat, x4 = (k : Int) := ⟨x4.toNat, by omega⟩
  have hf0 := fm_cl hC a2
  have sf := hf0.1
  have hfm := FM_cl hf0
  have ci := (cl_sh (s := i) (by omega)).1
  refine tb_X11_move_40 (c := true) ?_
  simp only [kb_X11_move_40, w_ald_0, w_ild_2, w_iv1, tfr_0, tfr_1, tfr_2, tfr_3, tfr_4, w_ild_3, w_ild_1, w_gf_13_5, tw_t, w_aa, w_gf_13_3, w_ild4, w_iv3, w_iv2, w_ire, trg, w64_r, true_and, and_true, Nat.reduceAdd, Nat.reduceSub, eq_self, tsh_0, tyk_13, tsh_77, tyk_8, tcq_8, tsh_5, tyk_11, tcq_13, tcq_11, tyk_4, tcq_4, tsh_113, tsh_650, tsh_499, tyk_27, tel_5, tyk_7, tcq_7, sf, ci]
  refine tc_xn (D := 0) (fun d' hd' => x_cdef a2 hC) (by omega) rfl ?_ (fun s M' q => Or.inr ⟨_, rfl, rfl, by rw [q]; exact KA_refl hC hK⟩)
  rintro M1 ⟨b1, rfl⟩
  try simp only [kb_X11_move_40, w_ald_0, w_ild_2, w_iv1, tfr_0, tfr_1, tfr_2, tfr_3, tfr_4, w_ild_3, w_ild_1, w_gf_13_5, tw_t, w_aa, w_gf_13_3, w_ild4, w_iv3, w_iv2, w_ire, trg, w64_r, true_and, and_true, Nat.reduceAdd, Nat.reduceSub, eq_self, tsh_0, tyk_13, tsh_77, tyk_8, tcq_8, tsh_5, tyk_11, tcq_13, tcq_11, tyk_4, tcq_4, tsh_113, tsh_650, tsh_499, tyk_27, tel_5, tyk_7, tcq_7, sf, ci]
  refine tz_xn (D := 2) (fun d' hd' => k_X11_checkHeld cl_0 h3 hd') hC (by omega) rfl ?_ (fun s q => Or.inr ⟨_, rfl, rfl, KA_refl hC hK⟩)
  intro _
  try simp only [kb_X11_move_40, w_ald_0, w_ild_2, w_iv1, tfr_0, tfr_1, tfr_2, tfr_3, tfr_4, w_ild_3, w_ild_1, w_gf_13_5, tw_t, w_aa, w_gf_13_3, w_ild4, w_iv3, w_iv2, w_ire, trg, w64_r, true_and, and_true, Nat.reduceAdd, Nat.reduceSub, eq_self, tsh_0, tyk_13, tsh_77, tyk_8, tcq_8, tsh_5, tyk_11, tcq_13, tcq_11, tyk_4, tcq_4, tsh_113, tsh_650, tsh_499, tyk_27, tel_5, tyk_7, tcq_7, sf, ci]
  refine tz_xn (D := 0) (fun d' hd' => k_X11_checkNoY cl_0 a2 hd') hC (by omega) rfl ?_ (fun s q => Or.inr ⟨_, rfl, rfl, KA_refl hC hK⟩)
  intro _
  try simp only [kb_X11_move_40, w_ald_0, w_ild_2, w_iv1, tfr_0, tfr_1, tfr_2, tfr_3, tfr_4, w_ild_3, w_ild_1, w_gf_13_5, tw_t, w_aa, w_gf_13_3, w_ild4, w_iv3, w_iv2, w_ire, trg, w64_r, true_and, and_true, Nat.reduceAdd, Nat.reduceSub, eq_self, tsh_0, tyk_13, tsh_77, tyk_8, tcq_8, tsh_5, tyk_11, tcq_13, tcq_11, tyk_4, tcq_4, tsh_113, tsh_650, tsh_499, tyk_27, tel_5, tyk_7, tcq_7, sf, ci]
  repeat refine And.intro (by omega) ?_
  refine tc_r (D := 1) (fun d' hd' => z_box (s := i) (by omega) hd') (by omega) ?_
  rintro y M2 ⟨rfl, rfl⟩
  try simp only [kb_X11_move_40, w_ald_0, w_ild_2, w_iv1, tfr_0, tfr_1, tfr_2, tfr_3, tfr_4, w_ild_3, w_ild_1, w_gf_13_5, tw_t, w_aa, w_gf_13_3, w_ild4, w_iv3, w_iv2, w_ire, trg, w64_r, true_and, and_true, Nat.reduceAdd, Nat.reduceSub, eq_self, tsh_0, tyk_13, tsh_77, tyk_8, tcq_8, tsh_5, tyk_11, tcq_13, tcq_11, tyk_4, tcq_4, tsh_113, tsh_650, tsh_499, tyk_27, tel_5, tyk_7, tcq_7, sf, ci]
  obtain ⟨v, hv⟩ := hK.1.2.1 i (by omega)
  refine tc_i (D := 9) (fun d' hd' => v_makeMoved hfm b1 ⟨cl_sh (s := i) (by omega), by omega⟩ hv (by omega) he hK hC hd') (by omega) ?_
  rintro z M3 ⟨hz, k3, b3⟩
  try simp only [kb_X11_move_40, w_ald_0, w_ild_2, w_iv1, tfr_0, tfr_1, tfr_2, tfr_3, tfr_4, w_ild_3, w_ild_1, w_gf_13_5, tw_t, w_aa, w_gf_13_3, w_ild4, w_iv3, w_iv2, w_ire, trg, w64_r, true_and, and_true, Nat.reduceAdd, Nat.reduceSub, eq_self, tsh_0, tyk_13, tsh_77, tyk_8, tcq_8, tsh_5, tyk_11, tcq_13, tcq_11, tyk_4, tcq_4, tsh_113, tsh_650, tsh_499, tyk_27, tel_5, tyk_7, tcq_7, sf, ci]
  refine tc_xi (D := 5) (fun d' hd' => v_become a1 hz b3 k3.2 k3.1.1 hd') (by omega) rfl ?_ (fun s M' q => Or.inr ⟨_, rfl, rfl, KA_tr k3.1.2 q⟩)
  rintro z2 M7 ⟨p1, p2⟩
  try simp only [kb_X11_move_40, w_ald_0, w_ild_2, w_iv1, tfr_0, tfr_1, tfr_2, tfr_3, tfr_4, w_ild_3, w_ild_1, w_gf_13_5, tw_t, w_aa, w_gf_13_3, w_ild4, w_iv3, w_iv2, w_ire, trg, w64_r, true_and, and_true, Nat.reduceAdd, Nat.reduceSub, eq_self, tsh_0, tyk_13, tsh_77, tyk_8, tcq_8, tsh_5, tyk_11, tcq_13, tcq_11, tyk_4, tcq_4, tsh_113, tsh_650, tsh_499, tyk_27, tel_5, tyk_7, tcq_7, sf, ci]
  exact ⟨by omega, Or.inl ⟨_, rfl, rfl, p1, KA_tr k3.1.2 p2⟩⟩
end HAND
