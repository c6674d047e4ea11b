/-! THE CLASS BY VALUES: numbers and constants on the stack. -/
/-- within a long -/
def RW (v : Int) : Prop := -92233720368547758080000000000 ≤ v ∧ v < 92233720368547758080000000000
theorem BB_w {M : tM} {r : Nat} {v : Int} (h : BB M r v) (hv : RW v) : ((-9223372036854775808 ≤ M r 0 ∧ M r 0 < 9223372036854775808)) ∧ (0 ≤ M r 1 ∧ M r 1 < 10000000000) := by
  obtain ⟨h1, h2⟩ := h
  unfold RW at hv
  omega
section HAND
variable {e : tE} {b d n : Nat} {M : tM}
theorem w_tooGreat {r : Nat} {v : Int} (h0 : cl r 3) (hv : BB M r v) (rv : RW v) : tC e d 776 [.inr (.inr (.inl r))] M n (tQi n (fun z M' => ((z = 1 ∧ FZ v) ∨ (z = 0 ∧ ¬ FZ v)) ∧ M' = M)) := by
  have a := BB_w hv rv
  have k := tgb_FZ a.2
  obtain ⟨v1, v2⟩ := hv
  rw [show M r 0 * 10000000000 + M r 1 = v by omega] at k
  refine tC_mono (x_tooGreat h0 a.1 a.2) ?_
  rintro w M' n' ⟨z, q1, q2, q3, q4⟩
  rw [k] at q3
  exact ⟨z, q1, q2, q3, q4⟩
theorem w_roundDown {r : Nat} {u v : Int} (h0 : cl r 3) (hv : BB M r v) (rv : RW v) (hu : UU u) (hb : HB b r) (hC : CI M) : tC e d 778 [.inr (.inr (.inl r)), .inr (.inl u)] M n (tQn n (fun M' => BB M' r (dnv u v) ∧ BD b M M' r)) := by
  have a := BB_w hv rv
  obtain ⟨v1, v2⟩ := hv
  refine tC_mono (x_roundDown (b := b) h0 hu.1 a.2 hb hC) ?_
  rintro w M' n' ⟨q1, q2, ⟨q3, q4⟩, q5⟩
  refine ⟨q1, q2, ?_, q5⟩
  have g := rd_dn (v := v) hu
  rw [v2] at q4
  have m1 := Int.emod_nonneg (v % 10000000000) (show u ≠ 0 by have := hu.1; omega)
  have m2 := emod_le_self (p := v % 10000000000) (u := u) (by omega) (by have := hu.1; omega)
  rw [← g]
  exact ⟨by omega, by omega⟩
theorem w_roundUp {r : Nat} {u v x : Int} (h0 : cl r 3) (hv : BB M r v) (rv : RW v) (hu : UU u) (hx : 0 ≤ x ∧ x ≤ 1) (hb : HB b r) (hC : CI M) : tC e d 779 [.inr (.inr (.inl r)), .inr (.inl u), .inl x] M n (tQn n (fun M' => BB M' r (-dnv u (-v - x)) ∧ BD b M M' r)) := by
  have a := BB_w hv rv
  obtain ⟨v1, v2⟩ := hv
  refine tC_mono (x_roundUp (b := b) h0 hu.1 hx a.2 hb hC) ?_
  rintro w M' n' ⟨q1, q2, ⟨q3, q4⟩, q5⟩
  refine ⟨q1, q2, ?_, q5⟩
  have g := up_eq (V := v) hu hx
  rw [v2] at q3
  rw [← g]
  exact ⟨by omega, by omega⟩
theorem w_tellDown {x1 : Nat} {u t : Int} (h1 : cl x1 3) (hR : RN M t) (r2 : RW (t / 2)) (hu : UU u) (hb : HB b x1) (hC : CI M) (hd : 1 ≤ d) : tC e d 2575 [.inr (.inr (.inl 79)), .inr (.inr (.inl x1)), .inr (.inl u)] M n (tQn n (fun M' => BB M' x1 (dn u t) ∧ BD b M M' x1)) := by
  have hx1 := h1.1
  refine tst_X8_tellDown ?_
  refine tb_X8_tellDown_0 (c := false) ?_
  simp only [kb_X8_tellDown_0, w_ald_1, w_ald_0, w_gf_10_0, tw_f, w_iv1, tfr_0, tfr_1, tfr_2, tfr_3, tfr_4, w_lld_2, w_re, true_and, and_true, Nat.reduceAdd, Nat.reduceSub, eq_self, tsh_79, tyk_10, tsh_80, tyk_3, tcq_10, tcq_3, hx1]
  refine tc_n (D := 0) (fun d' hd' => y_copy (b := b) h1 cl_80 hR.1 hb hC) (by omega) ?_
  rintro M1 ⟨q1, q2⟩
  try simp only [kb_X8_tellDown_0, w_ald_1, w_ald_0, w_gf_10_0, tw_f, w_iv1, tfr_0, tfr_1, tfr_2, tfr_3, tfr_4, w_lld_2, w_re, true_and, and_true, Nat.reduceAdd, Nat.reduceSub, eq_self, tsh_79, tyk_10, tsh_80, tyk_3, tcq_10, tcq_3, hx1]
  refine tc_n (D := 0) (fun d' hd' => w_roundDown (b := b) h1 q1 r2 hu hb q2.1) (by omega) ?_
  rintro M2 ⟨q3, q4⟩
  try simp only [kb_X8_tellDown_0, w_ald_1, w_ald_0, w_gf_10_0, tw_f, w_iv1, tfr_0, tfr_1, tfr_2, tfr_3, tfr_4, w_lld_2, w_re, true_and, and_true, Nat.reduceAdd, Nat.reduceSub, eq_self, tsh_79, tyk_10, tsh_80, tyk_3, tcq_10, tcq_3, hx1]
  exact ⟨rfl, rfl, q3, BD_tr q2 q4⟩
theorem w_tellUp {x1 : Nat} {u t : Int} (h1 : cl x1 3) (hR : RN M t) (r2 : RW (t / 2)) (hu : UU u) (hb : HB b x1) (hC : CI M) (hd : 1 ≤ d) : tC e d 2576 [.inr (.inr (.inl 79)), .inr (.inr (.inl x1)), .inr (.inl u)] M n (tQn n (fun M' => BB M' x1 (up u t) ∧ BD b M M' x1)) := by
  have hx1 := h1.1
  have h79 : x1 ≠ 79 := fun q => by rw [q, tsh_79] at hx1; cases hx1
  refine tst_X8_tellUp ?_
  refine tb_X8_tellUp_0 (c := false) ?_
  simp only [kb_X8_tellUp_0, w_ald_1, w_ald_0, w_gf_10_0, tw_f, w_iv1, tfr_0, tfr_1, tfr_2, tfr_3, tfr_4, w_lld_2, w_gf_10_1, w_iv2, w_re, true_and, and_true, Nat.reduceAdd, Nat.reduceSub, eq_self, tsh_79, tyk_10, tsh_80, tyk_3, tcq_10, tcq_3, hx1]
  refine tc_n (D := 0) (fun d' hd' => y_copy (b := b) h1 cl_80 hR.1 hb hC) (by omega) ?_
  rintro M1 ⟨q1, q2⟩
  try simp only [kb_X8_tellUp_0, w_ald_1, w_ald_0, w_gf_10_0, tw_f, w_iv1, tfr_0, tfr_1, tfr_2, tfr_3, tfr_4, w_lld_2, w_gf_10_1, w_iv2, w_re, true_and, and_true, Nat.reduceAdd, Nat.reduceSub, eq_self, tsh_79, tyk_10, tsh_80, tyk_3, tcq_10, tcq_3, hx1]
  have e79 : M1 79 1 = t % 2 := (q2.2.2 79 1 (Ne.symm h79)).trans hR.2
  rw [e79]
  refine tc_n (D := 0) (fun d' hd' => w_roundUp (b := b) h1 q1 r2 hu (by omega) hb q2.1) (by omega) ?_
  rintro M2 ⟨q3, q4⟩
  try simp only [kb_X8_tellUp_0, w_ald_1, w_ald_0, w_gf_10_0, tw_f, w_iv1, tfr_0, tfr_1, tfr_2, tfr_3, tfr_4, w_lld_2, w_gf_10_1, w_iv2, w_re, true_and, and_true, Nat.reduceAdd, Nat.reduceSub, eq_self, tsh_79, tyk_10, tsh_80, tyk_3, tcq_10, tcq_3, hx1]
  rw [← up_t] at q3
  exact ⟨rfl, rfl, q3, BD_tr q2 q4⟩
theorem wz_tooGreat {r : Nat} {lo hi : Int} (h0 : cl r 4) (hv : BX M r lo hi) (r1 : RW lo) (r2 : RW hi) (hd : 1 ≤ d) : tC e d 1032 [.inr (.inr (.inl r))] M n (tQi n (fun z M' => ((z = 1 ∧ (FZ lo ∨ FZ hi)) ∨ (z = 0 ∧ ¬ (FZ lo ∨ FZ hi))) ∧ M' = M)) := by
  have a := BB_w hv.1 r1
  have b := BB_w hv.2 r2
  have k1 := tgb_FZ a.2
  have k2 := tgb_FZ b.2
  obtain ⟨⟨v1, v2⟩, w1, w2⟩ := hv
  rw [show M (r + 1) 0 * 10000000000 + M (r + 1) 1 = lo by omega] at k1
  rw [show M (r + 2) 0 * 10000000000 + M (r + 2) 1 = hi by omega] at k2
  refine tC_mono (x_bTooGreat h0 ⟨a.1, b.1⟩ ⟨a.2, b.2⟩ hd) ?_
  rintro w M' n' ⟨z, q1, q2, q3, q4⟩
  rw [k1, k2] at q3
  exact ⟨z, q1, q2, q3, q4⟩
theorem wz_told {r : Nat} {t : Int} (h0 : cl r 4) (hR : RN M t) (rt : RW (t / 2)) (ra : RW (dn (M 78 5) t)) (rb : RW (up (M 78 5) t)) (hu : UU (M 78 5)) (hb : b < 2) (hC : CI M) (hd : 2 ≤ d) : tC e d 524 [.inr (.inr (.inl 78)), .inr (.inr (.inl r))] M n (tQi n (fun z M' => (BX M' r (dn (M 78 5) t) (up (M 78 5) t) ∧ ST z (dn (M 78 5) t) (up (M 78 5) t)) ∧ BE b M M' r)) := by
  have hr := h0.1
  have hm1 := (bxl_1 h0).1
  have hm2 := (bxl_2 h0).1
  have h80 := bx_80 h0
  have h78 : r + 1 ≠ 78 ∧ r + 2 ≠ 78 := ⟨fun q => (by rw [q, tsh_78] at hm1; cases hm1), fun q => (by rw [q, tsh_78] at hm2; cases hm2)⟩
  have h79 : r + 1 ≠ 79 := fun q => by rw [q, tsh_79] at hm1; cases hm1
  have hu1 := hu.1
  refine tst_X0_told ?_
  refine tb_X0_told_0 (c := false) ?_
  simp only [kb_X0_told_0, w_ald_0, w_gf_2_0, tw_f, w_ald_1, w_gf_4_0, w_gf_2_5, w_iv2, tfr_0, tfr_1, tfr_2, tfr_3, tfr_4, w_gf_4_1, w_iv0, w_if_eq, w_ic, w_goto, true_and, and_true, Nat.reduceAdd, Nat.reduceSub, eq_self, tsh_78, tsh_79, tsh_80, tyk_4, tyk_2, tyk_10, tyk_3, tcq_4, tcq_2, tcq_10, tcq_3, hr, hm1, hm2]
  refine tc_n (D := 1) (fun d' hd' => w_tellDown (b := b) (bxl_1 h0) hR rt hu (Or.inl hb) hC hd') (by omega) ?_
  rintro M1 ⟨q1, q2⟩
  try simp only [kb_X0_told_0, w_ald_0, w_gf_2_0, tw_f, w_ald_1, w_gf_4_0, w_gf_2_5, w_iv2, tfr_0, tfr_1, tfr_2, tfr_3, tfr_4, w_gf_4_1, w_iv0, w_if_eq, w_ic, w_goto, true_and, and_true, Nat.reduceAdd, Nat.reduceSub, eq_self, tsh_78, tsh_79, tsh_80, tyk_4, tyk_2, tyk_10, tyk_3, tcq_4, tcq_2, tcq_10, tcq_3, hr, hm1, hm2]
  rw [UN_78 q2.2.1]
  have hR1 : RN M1 t := ⟨BB_u hR.1 (fun i => q2.2.2 _ _ (by omega)), (q2.2.2 79 1 (Ne.symm h79)).trans hR.2⟩
  refine tc_n (D := 1) (fun d' hd' => w_tellUp (b := b) (bxl_2 h0) hR1 rt hu (Or.inl hb) q2.1 hd') (by omega) ?_
  rintro M2 ⟨q3, q4⟩
  try simp only [kb_X0_told_0, w_ald_0, w_gf_2_0, tw_f, w_ald_1, w_gf_4_0, w_gf_2_5, w_iv2, tfr_0, tfr_1, tfr_2, tfr_3, tfr_4, w_gf_4_1, w_iv0, w_if_eq, w_ic, w_goto, true_and, and_true, Nat.reduceAdd, Nat.reduceSub, eq_self, tsh_78, tsh_79, tsh_80, tyk_4, tyk_2, tyk_10, tyk_3, tcq_4, tcq_2, tcq_10, tcq_3, hr, hm1, hm2]
  have bx : BX M2 r (dn (M 78 5) t) (up (M 78 5) t) := ⟨BB_u q1 (fun i => q4.2.2 _ _ (by omega)), q3⟩
  have g1 := dnv_r (v := t / 2) (show 0 < M 78 5 by omega)
  have g2 := dnv_r (v := -t / 2) (show 0 < M 78 5 by omega)
  have k1 := NF_z (v := dn (M 78 5) t)
  have k2 := NF_z (v := up (M 78 5) t)
  refine tc_i (D := 1) (fun d' hd' => wz_tooGreat h0 bx ra rb hd') (by omega) ?_
  rintro z M3 ⟨q, rfl⟩
  try simp only [kb_X0_told_0, w_ald_0, w_gf_2_0, tw_f, w_ald_1, w_gf_4_0, w_gf_2_5, w_iv2, tfr_0, tfr_1, tfr_2, tfr_3, tfr_4, w_gf_4_1, w_iv0, w_if_eq, w_ic, w_goto, true_and, and_true, Nat.reduceAdd, Nat.reduceSub, eq_self, tsh_78, tsh_79, tsh_80, tyk_4, tyk_2, tyk_10, tyk_3, tcq_4, tcq_2, tcq_10, tcq_3, hr, hm1, hm2]
  have n42 : ∀ z : Int, ST z (dn (M 78 5) t) (up (M 78 5) t) → tT e d 524 42 [some (.inr (.inr (.inl (78)))), some (.inr (.inr (.inl (r))))] [.inl z] M3 n (tQi n (fun z M' => (BX M' r (dn (M 78 5) t) (up (M 78 5) t) ∧ ST z (dn (M 78 5) t) (up (M 78 5) t)) ∧ BE b M M' r)) := by
    intro z hz
    refine tb_X0_told_42 (c := false) ?_
    simp only [kb_X0_told_42, w_ire, trg, true_and, and_true, Nat.reduceAdd, Nat.reduceSub, eq_self]
    exact ⟨_, rfl, rfl, ⟨bx, hz⟩, BE_tr (BE_1 q2) (BE_2 q4)⟩
  refine ⟨by omega, fun h => ?_, fun h => ?_⟩
  · refine tb_X0_told_41 (c := false) ?_
    simp only [kb_X0_told_41, w_ic, w_nil, true_and, and_true, Nat.reduceAdd, Nat.reduceSub, eq_self]
    refine n42 0 (Or.inr ⟨rfl, ?_⟩)
    rcases q with ⟨q, _⟩ | ⟨_, q⟩
    · omega
    · exact ⟨k1.mp (fun g => q (Or.inl g)), k2.mp (fun g => q (Or.inr g))⟩
  · refine n42 2 (Or.inl ⟨rfl, ?_⟩)
    rcases q with ⟨_, q⟩ | ⟨q, _⟩
    · rintro ⟨g1, g2⟩
      rcases q with q | q
      · exact k1.mpr g1 q
      · exact k2.mpr g2 q
    · omega
/-- a number's code -/
noncomputable def nC (s : Nat) (X : Int) : Int := 2 * (X / TT s * 10000000000 + tkp s X) + tkr s X
theorem y_take {X : Int} {s : Nat} (hX : (-9223372036854775808 ≤ X ∧ X < 9223372036854775808)) (hs : s ≤ 18) (hb : b < 2) (hC : CI M) (hd : 1 ≤ d) : tC e d 2572 [.inr (.inr (.inl 79)), .inr (.inl X), .inl (s : Int)] M n (tQn n (fun M' => RN M' (nC s X) ∧ (CI M' ∧ pE b M M') ∧ ∀ (k : Nat) (i : Int), k ≠ 80 → ¬ (k = 79 ∧ i = 1) → M' k i = M k i)) := by
  have ts := TT_pos s
  have ts2 := TT_le18 hs
  have hp := tkp_r (s := s) (X := X)
  have m1 := Int.emod_nonneg X (Int.ne_of_gt ts)
  have m2 := Int.emod_lt_of_pos X ts
  refine tst_X8_take ?_
  have n107 : ∀ (L : tL) (M1 : tM), (RN M1 (nC s X) ∧ (CI M1 ∧ pE b M M1) ∧ ∀ (k : Nat) (i : Int), k ≠ 80 → ¬ (k = 79 ∧ i = 1) → M1 k i = M k i) → tT e d 2572 107 L [] M1 n (tQn n (fun M' => RN M' (nC s X) ∧ (CI M' ∧ pE b M M') ∧ ∀ (k : Nat) (i : Int), k ≠ 80 → ¬ (k = 79 ∧ i = 1) → M' k i = M k i)) := by
    intro L M1 h
    refine tb_X8_take_107 (c := false) ?_
    simp only [kb_X8_take_107, w_re, true_and, and_true, Nat.reduceAdd, Nat.reduceSub, eq_self]
    exact ⟨rfl, rfl, h⟩
  refine tb_X8_take_0 (c := false) ?_
  simp only [kb_X8_take_0, w_ild_3, w_if_lt, w_bi, w_ic_le, w_nil, true_and, and_true, Nat.reduceAdd, Nat.reduceSub, eq_self]
  refine ⟨by omega, fun q => absurd q (by omega), fun _ => ?_⟩
  refine ⟨by omega, fun _ => ?_, fun q => absurd (by omega) q⟩
  refine tb_X8_take_14 (c := false) ?_
  simp only [kb_X8_take_14, w_ild_3, w_nil, true_and, and_true, Nat.reduceAdd, Nat.reduceSub, eq_self]
  refine tb_X8_take_15 (c := false) ?_
  simp only [kb_X8_take_15, w_ist4, tkl_n, tkl_i, tkl_l, tkl_r, w_gs, w_ild4, w_la, w_lax, tw_f, w_lst5, w_lld_1, w_lld5, w_is2, tfr_0, tfr_1, tfr_2, tfr_3, tfr_4, w_lst7, w_lst9, w_bi, w_ic_gt, w_ald_0, w_lld7, w_lld9, w_isub, w_lmul, w_ic, w_iv3, w_goto, true_and, and_true, Nat.reduceAdd, Nat.reduceSub, eq_self, tsh_79, tyk_10, tsh_80, tyk_3, tcq_10, tcq_3]
  refine ⟨by decide, rfl, ⟨by omega, by show _ < ((19 : Nat) : Int); omega⟩, ?_⟩
  have e1 : txv e 0 ((s : Nat) : Int) = TT s := by
    rw [txv_0 (by omega), Int.toNat_natCast]
    rfl
  rw [e1]
  refine tc_l (D := 0) (fun d' _ => t_floorDiv hX ⟨ts, ts2⟩) (by omega) ?_
  rintro z1 M1 ⟨rfl, rfl⟩
  try simp only [kb_X8_take_15, w_ist4, tkl_n, tkl_i, tkl_l, tkl_r, w_gs, w_ild4, w_la, w_lax, tw_f, w_lst5, w_lld_1, w_lld5, w_is2, tfr_0, tfr_1, tfr_2, tfr_3, tfr_4, w_lst7, w_lst9, w_bi, w_ic_gt, w_ald_0, w_lld7, w_lld9, w_isub, w_lmul, w_ic, w_iv3, w_goto, true_and, and_true, Nat.reduceAdd, Nat.reduceSub, eq_self, tsh_79, tyk_10, tsh_80, tyk_3, tcq_10, tcq_3]
  refine tc_l (D := 0) (fun d' _ => t_floorMod hX ⟨ts, ts2⟩) (by omega) ?_
  rintro z2 M2 ⟨rfl, rfl⟩
  try simp only [kb_X8_take_15, w_ist4, tkl_n, tkl_i, tkl_l, tkl_r, w_gs, w_ild4, w_la, w_lax, tw_f, w_lst5, w_lld_1, w_lld5, w_is2, tfr_0, tfr_1, tfr_2, tfr_3, tfr_4, w_lst7, w_lst9, w_bi, w_ic_gt, w_ald_0, w_lld7, w_lld9, w_isub, w_lmul, w_ic, w_iv3, w_goto, true_and, and_true, Nat.reduceAdd, Nat.reduceSub, eq_self, tsh_79, tyk_10, tsh_80, tyk_3, tcq_10, tcq_3]
  refine ⟨by omega, fun h => ?_, fun h => ?_⟩
  · have e2 : txv e 0 ((s : Int) - 10) = TT (s - 10) := by
      rw [txv_0 (by omega), show ((s : Int) - 10).toNat = s - 10 by omega]
      rfl
    have tg := TT_pos (s - 10)
    have tg2 := TT_le18 (k := s - 10) (by omega)
    have ed : (X % TT s).tdiv (TT (s - 10)) = tkp s X := by
      unfold tkp
      rw [if_neg (by omega)]
      exact Int.tdiv_eq_ediv_of_nonneg m1
    have em : (X % TT s).tmod (TT (s - 10)) = X % TT s % TT (s - 10) := Int.tmod_eq_emod_of_nonneg m1
    have g1 := Int.emod_nonneg (X % TT s) (Int.ne_of_gt tg)
    have g2 := Int.emod_lt_of_pos (X % TT s) tg
    refine tb_X8_take_70 (c := false) ?_
    simp only [kb_X8_take_70, w_gs, w_ild4, w_bi, w_isub, w_la, w_lax, tw_f, w_lst11, tkl_n, tkl_i, tkl_l, tkl_r, w_ald_0, w_lld7, w_lld9, w_lld11, w_ldiv, w_lrem, w_lc0, w_lcmp, ne_eq, tlc_r, tlc_eq, tlc_lt, tlc_ge, tlc_gt, tlc_le, w_if_eq, w_ic, w_goto, true_and, and_true, Nat.reduceAdd, Nat.reduceSub, eq_self, tsh_79, tyk_10, tsh_80, tyk_3, tcq_10, tcq_3]
    refine ⟨by decide, rfl, ⟨by omega, by show _ < ((19 : Nat) : Int); omega⟩, ?_⟩
    rw [e2, ed, em]
    have n104 : ∀ v : Int, v = tkr s X → tT e d 2572 104 [some (.inr (.inr (.inl (79)))), some (.inr (.inl (X))), none, some (.inl ((s : Int))), some (.inl ((s : Int))), some (.inr (.inl (TT s))), none, some (.inr (.inl (X / TT s))), none, some (.inr (.inl (X % TT s))), none, some (.inr (.inl (TT (s - 10)))), none] [.inl v, .inr (.inl (tkp s X)), .inr (.inl (X / TT s)), .inr (.inr (.inl 79))] M2 n (tQn n (fun M' => RN M' (nC s X) ∧ (CI M' ∧ pE b M2 M') ∧ ∀ (k : Nat) (i : Int), k ≠ 80 → ¬ (k = 79 ∧ i = 1) → M' k i = M2 k i)) := by
      intro v hv
      have hr := tkr_r s X
      refine tb_X8_take_104 (c := false) ?_
      simp only [kb_X8_take_104, w_iv3, tfr_0, tfr_1, tfr_2, tfr_3, tfr_4, w_nil, true_and, and_true, Nat.reduceAdd, Nat.reduceSub, eq_self, tsh_79, tyk_10, tsh_80, tyk_3, tcq_10, tcq_3]
      refine tc_n (D := 0) (fun d' hd' => y_rassign (b := b) hp (by omega) hb hC) (by omega) ?_
      rintro M3 ⟨q1, q4⟩
      try simp only [kb_X8_take_104, w_iv3, tfr_0, tfr_1, tfr_2, tfr_3, tfr_4, w_nil, true_and, and_true, Nat.reduceAdd, Nat.reduceSub, eq_self, tsh_79, tyk_10, tsh_80, tyk_3, tcq_10, tcq_3]
      exact n107 _ _ ⟨by unfold nC; rw [← hv]; exact q1, q4⟩
    refine ⟨⟨by omega, by omega, by omega⟩, ⟨by omega, by omega, by omega⟩, ⟨by omega, by omega⟩, fun q => ?_, fun q => ?_⟩
    · refine tb_X8_take_103 (c := false) ?_
      simp only [kb_X8_take_103, w_ic, w_nil, true_and, and_true, Nat.reduceAdd, Nat.reduceSub, eq_self]
      refine n104 0 ?_
      unfold tkr
      rw [if_neg (by omega), if_pos q]
    · refine n104 1 ?_
      unfold tkr
      rw [if_neg (by omega), if_neg q]
  · have e3 : txv e 0 (10 - (s : Int)) = TT (10 - s) := by
      rw [txv_0 (by omega), show (10 - (s : Int)).toNat = 10 - s by omega]
      rfl
    refine ⟨by decide, rfl, ⟨by omega, by show _ < ((19 : Nat) : Int); omega⟩, ?_⟩
    rw [e3]
    have ep : X % TT s * TT (10 - s) = tkp s X := by
      unfold tkp
      rw [if_pos (by omega)]
    have er : tkr s X = 0 := by
      unfold tkr
      rw [if_pos (by omega)]
    rw [ep]
    refine tc_n (D := 0) (fun d' hd' => y_rassign (b := b) hp (by decide) hb hC) (by omega) ?_
    rintro M3 ⟨q1, q4⟩
    try simp only [kb_X8_take_15, w_ist4, tkl_n, tkl_i, tkl_l, tkl_r, w_gs, w_ild4, w_la, w_lax, tw_f, w_lst5, w_lld_1, w_lld5, w_is2, tfr_0, tfr_1, tfr_2, tfr_3, tfr_4, w_lst7, w_lst9, w_bi, w_ic_gt, w_ald_0, w_lld7, w_lld9, w_isub, w_lmul, w_ic, w_iv3, w_goto, true_and, and_true, Nat.reduceAdd, Nat.reduceSub, eq_self, tsh_79, tyk_10, tsh_80, tyk_3, tcq_10, tcq_3]
    exact n107 _ _ ⟨by unfold nC; rw [er]; exact q1, q4⟩
theorem nC_w {s : Nat} {X u : Int} (hX : (-9223372036854775808 ≤ X ∧ X < 9223372036854775808)) (hs : s ≤ 18) (hu : UU u) : RW (nC s X / 2) ∧ RW (dn u (nC s X)) ∧ RW (up u (nC s X)) := by
  have hp := tkp_r (s := s) (X := X)
  have hr := tkr_r s X
  have hu1 := hu.1
  have ts := TT_pos s
  obtain ⟨k, hk⟩ := hu.2
  have hW : -9223372036854775808 ≤ X / TT s ∧ X / TT s < 9223372036854775808 := by
    have e := Int.emod_add_mul_ediv X (TT s)
    have m1 := Int.emod_nonneg X (Int.ne_of_gt ts)
    have m2 := Int.emod_lt_of_pos X ts
    rcases Int.lt_or_le (X / TT s) 0 with g | g
    · refine ⟨?_, by omega⟩
      refine Int.le_ediv_of_mul_le ts ?_
      have := Int.mul_le_mul_of_nonpos_left (a := -9223372036854775808) (b := TT s) (c := 1) (by decide) (by omega)
      omega
    · refine ⟨by omega, ?_⟩
      have m3 : X / TT s * 1 ≤ X / TT s * TT s := Int.mul_le_mul_of_nonneg_left (by omega) g
      rw [Int.mul_comm (TT s)] at e
      omega
  have e2 : nC s X / 2 = X / TT s * 10000000000 + tkp s X := by unfold nC; omega
  have hb1 : X / TT s * 10000000000 ≤ dn u (nC s X) := by
    unfold dn
    rw [e2, show X / TT s * 10000000000 = X / TT s * k * u by rw [Int.mul_assoc, Int.mul_comm k u, ← hk]]
    refine dnv_m (by omega) ?_
    rw [Int.mul_assoc, Int.mul_comm k u, ← hk]
    omega
  have hb2 := dnv_r (u := u) (v := nC s X / 2) (by omega)
  have hb3 := dnv_r (u := u) (v := -nC s X / 2) (by omega)
  have hdn : dn u (nC s X) ≤ nC s X / 2 := hb2.1
  refine ⟨by unfold RW; omega, by unfold RW; omega, ?_⟩
  rcases Nat.eq_zero_or_pos s with rfl | hs0
  · have z1 : tkp 0 X = 0 := by unfold tkp; rw [if_pos (by decide), TT_v.1, Int.emod_one, Int.zero_mul]
    have z2 : tkr 0 X = 0 := by unfold tkr; rw [if_pos (by decide)]
    have z3 : nC 0 X = 2 * (X * 10000000000) := by unfold nC; rw [z1, z2, TT_v.1, Int.ediv_one]; omega
    have z4 : -(X * 10000000000) ≤ dn u (-nC 0 X) := by
      unfold dn
      rw [z3, show -(2 * (X * 10000000000)) / 2 = -(X * 10000000000) by omega, show -(X * 10000000000) = -X * k * u by rw [Int.mul_assoc, Int.mul_comm k u, ← hk, Int.neg_mul]]
      exact dnv_m (by omega) (Int.le_refl _)
    have z5 := (dnv_r (u := u) (v := -nC 0 X / 2) (by omega)).1
    unfold RW up
    have z6 : dn u (-nC 0 X) ≤ -nC 0 X / 2 := z5
    omega
  · have t10 : (10 : Int) ≤ TT s := by
      have := TT_le (show 1 ≤ s from hs0)
      rw [TT_1] at this
      exact this
    have hW2 : -1000000000000000000 ≤ X / TT s ∧ X / TT s ≤ 1000000000000000000 := by
      have e := Int.emod_add_mul_ediv X (TT s)
      have m1 := Int.emod_nonneg X (Int.ne_of_gt ts)
      have m2 := Int.emod_lt_of_pos X ts
      rw [Int.mul_comm] at e
      rcases Int.lt_or_le (X / TT s) 0 with g | g
      · refine ⟨?_, by omega⟩
        have m3 : (-(X / TT s) - 1) * 10 ≤ (-(X / TT s) - 1) * TT s := Int.mul_le_mul_of_nonneg_left t10 (by omega)
        rw [Int.sub_mul _ _ (TT s), Int.neg_mul _ (TT s), Int.one_mul] at m3
        omega
      · have m3 : X / TT s * 10 ≤ X / TT s * TT s := Int.mul_le_mul_of_nonneg_left t10 g
        omega
    have hd : up u (nC s X) = -dnv u (-nC s X / 2) := rfl
    unfold RW
    rw [hd]
    omega
theorem z_tellNumber {r s : Nat} {X : Int} (h0 : cl r 4) (hr111 : 111 < r) (hX : (-9223372036854775808 ≤ X ∧ X < 9223372036854775808)) (hs : s ≤ 18) (hu : UU (M 78 5)) (hro : RO M) (hb : b < 2) (hC : CI M) (hd : 3 ≤ d) : tC e d 522 [.inr (.inr (.inl 78)), .inr (.inr (.inl r)), .inr (.inl X), .inl (s : Int)] M n (tQi n (fun z M' => (BX M' r (dn (M 78 5) (nC s X)) (up (M 78 5) (nC s X)) ∧ ST z (dn (M 78 5) (nC s X)) (up (M 78 5) (nC s X))) ∧ RO M' ∧ AE b M M' r)) := by
  have hr := h0.1
  have w := nC_w hX hs hu
  refine tst_X0_tellNumber ?_
  refine tb_X0_tellNumber_0 (c := false) ?_
  simp only [kb_X0_tellNumber_0, w_ald_0, w_gf_2_0, tw_f, w_lld_2, w_ild4, w_iv2, tfr_0, tfr_1, tfr_2, tfr_3, tfr_4, w_ald_1, w_iv1, w_ire, trg, true_and, and_true, Nat.reduceAdd, Nat.reduceSub, eq_self, tsh_78, tsh_79, tsh_80, tyk_4, tyk_2, tyk_10, tyk_3, tcq_4, tcq_2, tcq_10, tcq_3, hr]
  refine tc_n (D := 1) (fun d' hd' => y_take (b := b) hX hs hb hC hd') (by omega) ?_
  rintro M1 ⟨q1, q2, q3⟩
  try simp only [kb_X0_tellNumber_0, w_ald_0, w_gf_2_0, tw_f, w_lld_2, w_ild4, w_iv2, tfr_0, tfr_1, tfr_2, tfr_3, tfr_4, w_ald_1, w_iv1, w_ire, trg, true_and, and_true, Nat.reduceAdd, Nat.reduceSub, eq_self, tsh_78, tsh_79, tsh_80, tyk_4, tyk_2, tyk_10, tyk_3, tcq_4, tcq_2, tcq_10, tcq_3, hr]
  have u1 : M1 78 5 = M 78 5 := UN_78 q2.2
  have f1 : RF b M M1 := ⟨q2, fun k i g => q3 k i (by omega) (by omega)⟩
  refine tc_i (D := 2) (fun d' hd' => wz_told (b := b) h0 q1 w.1 (by rw [u1]; exact w.2.1) (by rw [u1]; exact w.2.2) (by rw [u1]; exact hu) hb q2.1 hd') (by omega) ?_
  rintro z M2 ⟨q4, q5⟩
  try simp only [kb_X0_tellNumber_0, w_ald_0, w_gf_2_0, tw_f, w_lld_2, w_ild4, w_iv2, tfr_0, tfr_1, tfr_2, tfr_3, tfr_4, w_ald_1, w_iv1, w_ire, trg, true_and, and_true, Nat.reduceAdd, Nat.reduceSub, eq_self, tsh_78, tsh_79, tsh_80, tyk_4, tyk_2, tyk_10, tyk_3, tcq_4, tcq_2, tcq_10, tcq_3, hr]
  rw [u1] at q4
  exact ⟨_, rfl, rfl, q4, RO_b (RO_u hro (q3 79 4 (by decide) (by decide)) (q3 79 5 (by decide) (by decide))) q5 hr111, AE_tr (AE_F (AF_R f1)) (AE_b q5)⟩
/-- the constants' codes -/
def kC (a : Int) : Int := if a = 112 then 62831853071 else 54365636569
theorem z_tellConst {r : Nat} {a : Int} (ha : 0 ≤ a ∧ a ≤ 65535) (h0 : cl r 4) (hr111 : 111 < r) (hu : UU (M 78 5)) (hro : RO M) (hb : b < 2) (hC : CI M) (hd : 3 ≤ d) : tC e d 521 [.inr (.inr (.inl 78)), .inr (.inr (.inl r)), .inl a] M n (tQi n (fun z M' => (BX M' r (dn (M 78 5) (kC a)) (up (M 78 5) (kC a)) ∧ ST z (dn (M 78 5) (kC a)) (up (M 78 5) (kC a))) ∧ RO M' ∧ AE b M M' r)) := by
  have hr := h0.1
  refine tst_X0_tellConstant ?_
  have n37 : ∀ M1 : tM, RN M1 (kC a) → RO M1 → RF b M M1 → tT e d 521 37 [some (.inr (.inr (.inl (78)))), some (.inr (.inr (.inl (r)))), some (.inl (a))] [] M1 n (tQi n (fun z M' => (BX M' r (dn (M 78 5) (kC a)) (up (M 78 5) (kC a)) ∧ ST z (dn (M 78 5) (kC a)) (up (M 78 5) (kC a))) ∧ RO M' ∧ AE b M M' r)) := by
    intro M1 q1 ro1 f1
    have u1 : M1 78 5 = M 78 5 := UN_78 f1.1.2
    have rk : RV (kC a) := by unfold RV kC; split <;> decide
    refine tb_X0_tellConstant_37 (c := false) ?_
    simp only [kb_X0_tellConstant_37, w_ald_0, w_ald_1, w_iv1, tfr_0, tfr_1, tfr_2, tfr_3, tfr_4, w_ire, trg, true_and, and_true, Nat.reduceAdd, Nat.reduceSub, eq_self, tsh_78, tsh_79, tsh_80, tyk_4, tyk_2, tyk_10, tyk_3, tcq_4, tcq_2, tcq_10, tcq_3, hr]
    refine tc_i (D := 2) (fun d' hd' => z_told (b := b) h0 q1 rk (by rw [u1]; exact hu) hb f1.1.1 hd') (by omega) ?_
    rintro z M2 ⟨q4, q5⟩
    try simp only [kb_X0_tellConstant_37, w_ald_0, w_ald_1, w_iv1, tfr_0, tfr_1, tfr_2, tfr_3, tfr_4, w_ire, trg, true_and, and_true, Nat.reduceAdd, Nat.reduceSub, eq_self, tsh_78, tsh_79, tsh_80, tyk_4, tyk_2, tyk_10, tyk_3, tcq_4, tcq_2, tcq_10, tcq_3, hr]
    rw [u1] at q4
    exact ⟨_, rfl, rfl, q4, RO_b ro1 q5 hr111, AE_tr (AE_F (AF_R f1)) (AE_b q5)⟩
  refine tb_X0_tellConstant_0 (c := false) ?_
  simp only [kb_X0_tellConstant_0, w_ild_2, w_bi, w_ic_ne, w_ald_0, w_gf_2_0, tw_f, w_ld2, w_ic, w_iv3, tfr_0, tfr_1, tfr_2, tfr_3, tfr_4, w_goto, true_and, and_true, Nat.reduceAdd, Nat.reduceSub, eq_self, tsh_78, tsh_79, tsh_80, tyk_4, tyk_2, tyk_10, tyk_3, tcq_4, tcq_2, tcq_10, tcq_3]
  repeat refine And.intro (by omega) ?_
  refine ⟨fun g => ?_, fun g => ?_⟩
  · refine tb_X0_tellConstant_23 (c := false) ?_
    simp only [kb_X0_tellConstant_23, w_ald_0, w_gf_2_0, tw_f, w_ld2, w_ic, w_iv3, tfr_0, tfr_1, tfr_2, tfr_3, tfr_4, w_nil, true_and, and_true, Nat.reduceAdd, Nat.reduceSub, eq_self, tsh_78, tsh_79, tsh_80, tyk_4, tyk_2, tyk_10, tyk_3, tcq_4, tcq_2, tcq_10, tcq_3]
    refine tc_n (D := 0) (fun d' hd' => y_rassign (b := b) (x1 := 2) (x2 := 7182818284) (x3 := 1) (by decide) (by decide) hb hC) (by omega) ?_
    rintro M1 ⟨q1, q2, q3⟩
    try simp only [kb_X0_tellConstant_23, w_ald_0, w_gf_2_0, tw_f, w_ld2, w_ic, w_iv3, tfr_0, tfr_1, tfr_2, tfr_3, tfr_4, w_nil, true_and, and_true, Nat.reduceAdd, Nat.reduceSub, eq_self, tsh_78, tsh_79, tsh_80, tyk_4, tyk_2, tyk_10, tyk_3, tcq_4, tcq_2, tcq_10, tcq_3]
    exact n37 M1 (by unfold kC; rw [if_neg g]; exact q1) (RO_u hro (q3 79 4 (by decide) (by decide)) (q3 79 5 (by decide) (by decide))) ⟨q2, fun k i g => q3 k i (by omega) (by omega)⟩
  · refine tc_n (D := 0) (fun d' hd' => y_rassign (b := b) (x1 := 3) (x2 := 1415926535) (x3 := 1) (by decide) (by decide) hb hC) (by omega) ?_
    rintro M1 ⟨q1, q2, q3⟩
    try simp only [kb_X0_tellConstant_0, w_ild_2, w_bi, w_ic_ne, w_ald_0, w_gf_2_0, tw_f, w_ld2, w_ic, w_iv3, tfr_0, tfr_1, tfr_2, tfr_3, tfr_4, w_goto, true_and, and_true, Nat.reduceAdd, Nat.reduceSub, eq_self, tsh_78, tsh_79, tsh_80, tyk_4, tyk_2, tyk_10, tyk_3, tcq_4, tcq_2, tcq_10, tcq_3]
    exact n37 M1 (by unfold kC; rw [if_pos (by omega)]; exact q1) (RO_u hro (q3 79 4 (by decide) (by decide)) (q3 79 5 (by decide) (by decide))) ⟨q2, fun k i g => q3 k i (by omega) (by omega)⟩
end HAND
