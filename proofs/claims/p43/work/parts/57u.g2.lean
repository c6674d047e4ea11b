/-! THE CLASS BY VALUES: acts of one box. -/
/-- the code that an act makes of a bound -/
def COD (a : Int) (by_ : Nat) (v t : Int) : Prop := (a = 94 ∧ FTc t (pwrN v by_) (pwrK by_)) ∨ (a = 114 ∧ RT by_ v t) ∨ (a = 101 ∧ t = cxC v) ∨ (a = 108 ∧ LGC v t) ∨ (a = 97 ∧ CAC v t)
/-- the acts of one box -/
def OOK (a : Int) (by_ : Nat) : Prop := (a = 94 ∧ by_ ≤ 9) ∨ (a = 114 ∧ (2 ≤ by_ ∧ by_ ≤ 4)) ∨ (a = 101 ∧ by_ = 0) ∨ (a = 108 ∧ by_ = 0) ∨ (a = 97 ∧ by_ = 0)
/-- even powers are made without signs -/
def oLo (a : Int) (by_ : Nat) (lo hi : Int) : Int := if a = 94 ∧ by_ % 2 = 0 then abLo lo hi else lo
def oHi (a : Int) (by_ : Nat) (lo hi : Int) : Int := if a = 94 ∧ by_ % 2 = 0 then abHi lo hi else hi
theorem dn_rv2 {u t : Int} (hu : UU u) (h : RV t) : RV (dn u t) ∧ RV (up u t) := by
  have hu1 := hu.1
  have g1 := dnv_r (v := t / 2) (show 0 < u by omega)
  have g2 := dnv_r (v := (-t) / 2) (show 0 < u by omega)
  unfold RV at h ⊢
  unfold up dn
  omega
theorem ab_o {lo hi : Int} (h : lo ≤ hi) : abLo lo hi ≤ abHi lo hi := by
  unfold abLo abHi
  split
  · omega
  · split
    · omega
    · split <;> omega
section HAND
variable {e : tE} {b d n : Nat} {M : tM}
theorem AF_CF {M1 : tM} (h : CF b M M1) : AF b M M1 := CF_F h
theorem z_ofOne {r y : Nat} {lo hi a : Int} (hoo : OOK a y) (h0 : cl r 4) (hr111 : 111 < r) (hv : BX M r lo hi) (r1 : NF lo) (r2 : NF hi) (hle : lo ≤ hi) (hu : UU (M 78 5)) (he : EVr e) (hro : RO M) (hb : b < 2) (hC : CI M) (hd : 6 ≤ d) : tC e d 516 [.inr (.inr (.inl 78)), .inr (.inr (.inl r)), .inl a, .inl (y : Int)] M n (tQi n (fun z M' => (z = 1 ∨ ∃ t1 t2 : Int, (COD a y (oLo a y lo hi) t1 ∧ COD a y (oHi a y lo hi) t2) ∧ (BX M' r (dn (M 78 5) t1) (up (M 78 5) t2) ∧ ST z (dn (M 78 5) t1) (up (M 78 5) t2))) ∧ RO M' ∧ AE b M M' r)) := by
  have hr := h0.1
  have hm1 := (bxl_1 h0).1
  have hm2 := (bxl_2 h0).1
  have ra : a = 94 ∨ a = 114 ∨ a = 101 ∨ a = 108 ∨ a = 97 := by unfold OOK at hoo; omega
  have ry : y ≤ 9 := by unfold OOK at hoo; omega
  refine tst_X0_ofOne ?_
  have n32 : tT e d 516 32 [some (.inr (.inr (.inl (78)))), some (.inr (.inr (.inl (r)))), some (.inl (a)), some (.inl ((y : Int))), none, none, none] [] M n (tQi n (fun z M' => (z = 1 ∨ ∃ t1 t2 : Int, (COD a y (oLo a y lo hi) t1 ∧ COD a y (oHi a y lo hi) t2) ∧ (BX M' r (dn (M 78 5) t1) (up (M 78 5) t2) ∧ ST z (dn (M 78 5) t1) (up (M 78 5) t2))) ∧ RO M' ∧ AE b M M' r)) := by
    refine tb_X0_ofOne_32 (c := false) ?_
    simp only [kb_X0_ofOne_32, w_ic, w_ire, trg, true_and, and_true, Nat.reduceAdd, Nat.reduceSub, eq_self]
    exact ⟨_, rfl, rfl, Or.inl rfl, hro, ⟨⟨hC, pE_refl⟩, fun _ _ _ _ _ => rfl⟩⟩
  -- with the bounds as they are used
  have n50 : ∀ (M1 : tM) (L H : Int), BX M1 r L H → NF L → NF H → L ≤ H → L = oLo a y lo hi → H = oHi a y lo hi → (a = 114 → 0 ≤ L) → (a = 108 → 0 < L) → BE b M M1 r → tT e d 516 50 [some (.inr (.inr (.inl (78)))), some (.inr (.inr (.inl (r)))), some (.inl (a)), some (.inl ((y : Int))), none, none, none] [] M1 n (tQi n (fun z M' => (z = 1 ∨ ∃ t1 t2 : Int, (COD a y (oLo a y lo hi) t1 ∧ COD a y (oHi a y lo hi) t2) ∧ (BX M' r (dn (M 78 5) t1) (up (M 78 5) t2) ∧ ST z (dn (M 78 5) t1) (up (M 78 5) t2))) ∧ RO M' ∧ AE b M M' r)) := by
    intro M1 L H v1 f1 f2 hLH eL eH h114 h108 e1
    rw [← eL, ← eH]
    clear eL eH
    have ro1 : RO M1 := RO_b hro e1 hr111
    have u1 := UN_78 e1.1.2
    -- the end
    have n260 : ∀ (M2 : tM) (w4 w5 w6 : Option tV) (t1 t2 : Int), COD a y L t1 → COD a y H t2 → RV t1 → RV t2 → BB M2 109 (dn (M 78 5) t1) → BB M2 110 (up (M 78 5) t2) → RO M2 → AF b M1 M2 → tT e d 516 260 [some (.inr (.inr (.inl (78)))), some (.inr (.inr (.inl (r)))), some (.inl (a)), some (.inl ((y : Int))), w4, w5, w6] [] M2 n (tQi n (fun z M' => (z = 1 ∨ ∃ t1 t2 : Int, (COD a y L t1 ∧ COD a y H t2) ∧ (BX M' r (dn (M 78 5) t1) (up (M 78 5) t2) ∧ ST z (dn (M 78 5) t1) (up (M 78 5) t2))) ∧ RO M' ∧ AE b M M' r)) := by
      intro M2 w4 w5 w6 t1 t2 c1 c2 rt1 rt2 b1 b2 ro2 f
      refine tb_X0_ofOne_260 (c := false) ?_
      simp only [kb_X0_ofOne_260, w_ald_1, w_ald_0, w_gf_2_2, tw_f, w_gf_2_3, w_iv2, tfr_0, tfr_1, tfr_2, tfr_3, tfr_4, w_is1, w_ire, trg, true_and, and_true, Nat.reduceAdd, Nat.reduceSub, eq_self, tsh_78, tsh_79, tsh_80, tsh_86, tyk_4, tyk_2, tyk_10, tyk_3, tyk_5, tcq_4, tcq_2, tcq_10, tcq_3, tcq_5, hr]
      refine tc_n (D := 1) (fun d' hd' => z_between (b := b) h0 cl_109 cl_110 b1 b2 (by omega) hb f.1.1 hd') (by omega) ?_
      rintro M3 ⟨q1, q2⟩
      try simp only [kb_X0_ofOne_260, w_ald_1, w_ald_0, w_gf_2_2, tw_f, w_gf_2_3, w_iv2, tfr_0, tfr_1, tfr_2, tfr_3, tfr_4, w_is1, w_ire, trg, true_and, and_true, Nat.reduceAdd, Nat.reduceSub, eq_self, tsh_78, tsh_79, tsh_80, tsh_86, tyk_4, tyk_2, tyk_10, tyk_3, tyk_5, tcq_4, tcq_2, tcq_10, tcq_3, tcq_5, hr]
      refine tc_i (D := 2) (fun d' hd' => z_judged h0 q1 (dn_rv2 hu rt1).1 (dn_rv2 hu rt2).2 hd') (by omega) ?_
      rintro z M4 ⟨q3, rfl⟩
      try simp only [kb_X0_ofOne_260, w_ald_1, w_ald_0, w_gf_2_2, tw_f, w_gf_2_3, w_iv2, tfr_0, tfr_1, tfr_2, tfr_3, tfr_4, w_is1, w_ire, trg, true_and, and_true, Nat.reduceAdd, Nat.reduceSub, eq_self, tsh_78, tsh_79, tsh_80, tsh_86, tyk_4, tyk_2, tyk_10, tyk_3, tyk_5, tcq_4, tcq_2, tcq_10, tcq_3, tcq_5, hr]
      exact ⟨_, rfl, rfl, Or.inr ⟨t1, t2, ⟨c1, c2⟩, q1, q3⟩, RO_b ro2 q2 hr111, AE_tr (AE_b e1) (AE_tr (AE_F f) (AE_b q2))⟩
    -- one bound's code
    have n93 : ∀ (M2 : tM) (x : Nat) (v s z4 : Int), cl x 3 → 111 < x → BB M2 x v → NF v → (a = 114 → 0 ≤ v) → (a = 108 → 0 < v) → RO M2 → AF b M1 M2 → (∀ (M3 : tM) (t : Int), RN M3 t → RV t → COD a y v t → RO M3 → AF b M2 M3 → (∀ i, M3 109 i = M2 109 i) → tT e d 516 216 [some (.inr (.inr (.inl (78)))), some (.inr (.inr (.inl (r)))), some (.inl (a)), some (.inl ((y : Int))), some (.inl (z4)), some (.inl (s)), some (.inr (.inr (.inl (x))))] [] M3 n (tQi n (fun z M' => (z = 1 ∨ ∃ t1 t2 : Int, (COD a y L t1 ∧ COD a y H t2) ∧ (BX M' r (dn (M 78 5) t1) (up (M 78 5) t2) ∧ ST z (dn (M 78 5) t1) (up (M 78 5) t2))) ∧ RO M' ∧ AE b M M' r))) → tT e d 516 93 [some (.inr (.inr (.inl (78)))), some (.inr (.inr (.inl (r)))), some (.inl (a)), some (.inl ((y : Int))), some (.inl (z4)), some (.inl (s)), some (.inr (.inr (.inl (x))))] [] M2 n (tQi n (fun z M' => (z = 1 ∨ ∃ t1 t2 : Int, (COD a y L t1 ∧ COD a y H t2) ∧ (BX M' r (dn (M 78 5) t1) (up (M 78 5) t2) ∧ ST z (dn (M 78 5) t1) (up (M 78 5) t2))) ∧ RO M' ∧ AE b M M' r)) := by
      intro M2 x v s z4 hx hx1 hv2 nf g1 g2 ro2 f k
      have hxs := hx.1
      have nf2 := nf
      unfold NF at nf2
      have rv : RV v := NF_r nf
      rcases hoo with ⟨rfl, hy⟩ | ⟨rfl, hy⟩ | ⟨rfl, hy⟩ | ⟨rfl, hy⟩ | ⟨rfl, hy⟩
      · refine tb_X0_ofOne_93 (c := false) ?_
        simp only [kb_X0_ofOne_93, w_ild_2, w_sw, tsw, true_and, and_true, Nat.reduceAdd, Nat.reduceSub, eq_self]
        refine ⟨by omega, ?_⟩
        repeat refine ⟨fun h => absurd h (by decide), fun _ => ?_⟩
        refine ⟨fun _ => ?_, fun h => absurd rfl h⟩
        show tT e d 516 136 _ _ _ _ _
        refine tb_X0_ofOne_136 (c := false) ?_
        simp only [kb_X0_ofOne_136, w_ald_0, w_gf_2_0, tw_f, w_ald6, w_ild_3, w_iv2, tfr_0, tfr_1, tfr_2, tfr_3, tfr_4, w_goto, true_and, and_true, Nat.reduceAdd, Nat.reduceSub, eq_self, tsh_78, tsh_79, tsh_80, tsh_86, tyk_4, tyk_2, tyk_10, tyk_3, tyk_5, tcq_4, tcq_2, tcq_10, tcq_3, tcq_5, hxs]
        refine tc_n (D := 2) (fun d' hd' => y_toPower (b := b) (x := y) hy hx (by omega) hv2 (by omega) ro2 hb f.1.1 hd') (by omega) ?_
        rintro M3 ⟨⟨t, q1, q2⟩, q3, q4⟩
        try simp only [kb_X0_ofOne_136, w_ald_0, w_gf_2_0, tw_f, w_ald6, w_ild_3, w_iv2, tfr_0, tfr_1, tfr_2, tfr_3, tfr_4, w_goto, true_and, and_true, Nat.reduceAdd, Nat.reduceSub, eq_self, tsh_78, tsh_79, tsh_80, tsh_86, tyk_4, tyk_2, tyk_10, tyk_3, tyk_5, tcq_4, tcq_2, tcq_10, tcq_3, tcq_5, hxs]
        exact k M3 t q1 (FTc_r q2) (Or.inl ⟨rfl, q2⟩) q3 (AF_R q4) (fun i => q4.2 _ _ (by decide))
      · refine tb_X0_ofOne_93 (c := false) ?_
        simp only [kb_X0_ofOne_93, w_ild_2, w_sw, tsw, true_and, and_true, Nat.reduceAdd, Nat.reduceSub, eq_self]
        refine ⟨by omega, ?_⟩
        repeat refine ⟨fun h => absurd h (by decide), fun _ => ?_⟩
        refine ⟨fun _ => ?_, fun h => absurd rfl h⟩
        show tT e d 516 149 _ _ _ _ _
        have hv0 := g1 rfl
        refine tb_X0_ofOne_149 (c := false) ?_
        simp only [kb_X0_ofOne_149, w_ald_0, w_gf_2_0, tw_f, w_ald6, w_ild_3, w_iv2, tfr_0, tfr_1, tfr_2, tfr_3, tfr_4, w_goto, true_and, and_true, Nat.reduceAdd, Nat.reduceSub, eq_self, tsh_78, tsh_79, tsh_80, tsh_86, tyk_4, tyk_2, tyk_10, tyk_3, tyk_5, tcq_4, tcq_2, tcq_10, tcq_3, tcq_5, hxs]
        refine tc_n (D := 5) (fun d' hd' => y_toRoot (b := b) (k := y) hy hx (by omega) hv2 ⟨hv0, by omega⟩ he ro2 hb f.1.1 hd') (by omega) ?_
        rintro M3 ⟨⟨t, q1, q2⟩, q3, q4⟩
        try simp only [kb_X0_ofOne_149, w_ald_0, w_gf_2_0, tw_f, w_ald6, w_ild_3, w_iv2, tfr_0, tfr_1, tfr_2, tfr_3, tfr_4, w_goto, true_and, and_true, Nat.reduceAdd, Nat.reduceSub, eq_self, tsh_78, tsh_79, tsh_80, tsh_86, tyk_4, tyk_2, tyk_10, tyk_3, tyk_5, tcq_4, tcq_2, tcq_10, tcq_3, tcq_5, hxs]
        refine k M3 t q1 ?_ (Or.inr (Or.inl ⟨rfl, q2⟩)) q3 (AF_R q4) (fun i => q4.2 _ _ (by decide))
        obtain ⟨rr, s1, s2, s3, s4⟩ := q2
        have gb := rt_b (g := rr) hy (by omega) s2
        have gm := gmx_r y
        unfold RV
        split at s4 <;> omega
      · refine tb_X0_ofOne_93 (c := false) ?_
        simp only [kb_X0_ofOne_93, w_ild_2, w_sw, tsw, true_and, and_true, Nat.reduceAdd, Nat.reduceSub, eq_self]
        refine ⟨by omega, ?_⟩
        repeat refine ⟨fun h => absurd h (by decide), fun _ => ?_⟩
        refine ⟨fun _ => ?_, fun h => absurd rfl h⟩
        show tT e d 516 162 _ _ _ _ _
        refine tb_X0_ofOne_162 (c := false) ?_
        simp only [kb_X0_ofOne_162, w_ald_0, w_gf_2_1, tw_f, w_ald6, w_iv1, tfr_0, tfr_1, tfr_2, tfr_3, tfr_4, w_iv0, w_goto, true_and, and_true, Nat.reduceAdd, Nat.reduceSub, eq_self, tsh_78, tsh_79, tsh_80, tsh_86, tyk_4, tyk_2, tyk_10, tyk_3, tyk_5, tcq_4, tcq_2, tcq_10, tcq_3, tcq_5, hxs]
        refine tc_n (D := 2) (fun d' hd' => f_exponential (b := b) hx (Or.inr hx1) hv2 rv hb f.1.1 hd') (by omega) ?_
        rintro M3 ⟨⟨q1, q2, q3⟩, q4⟩
        try simp only [kb_X0_ofOne_162, w_ald_0, w_gf_2_1, tw_f, w_ald6, w_iv1, tfr_0, tfr_1, tfr_2, tfr_3, tfr_4, w_iv0, w_goto, true_and, and_true, Nat.reduceAdd, Nat.reduceSub, eq_self, tsh_78, tsh_79, tsh_80, tsh_86, tyk_4, tyk_2, tyk_10, tyk_3, tyk_5, tcq_4, tcq_2, tcq_10, tcq_3, tcq_5, hxs]
        refine tc_n (D := 2) (fun d' hd' => f_tell (b := b) q3 q2 (by split <;> decide) q1 (by decide) (CF_O q4 ro2) hb q4.1.1 hd') (by omega) ?_
        rintro M4 ⟨q5, q6, q7⟩
        try simp only [kb_X0_ofOne_162, w_ald_0, w_gf_2_1, tw_f, w_ald6, w_iv1, tfr_0, tfr_1, tfr_2, tfr_3, tfr_4, w_iv0, w_goto, true_and, and_true, Nat.reduceAdd, Nat.reduceSub, eq_self, tsh_78, tsh_79, tsh_80, tsh_86, tyk_4, tyk_2, tyk_10, tyk_3, tyk_5, tcq_4, tcq_2, tcq_10, tcq_3, tcq_5, hxs]
        rw [if_pos rfl] at q5
        have cr := cxC_r v
        exact k M4 (cxC v) q5 (by unfold RV; omega) (Or.inr (Or.inr (Or.inl ⟨rfl, rfl⟩))) q6 (AF_tr (CF_F q4) (AF_R q7)) (fun i => (q7.2 _ _ (by decide)).trans (q4.2 _ _ (by decide) (fun g => absurd g.1 (by decide))))
      · refine tb_X0_ofOne_93 (c := false) ?_
        simp only [kb_X0_ofOne_93, w_ild_2, w_sw, tsw, true_and, and_true, Nat.reduceAdd, Nat.reduceSub, eq_self]
        refine ⟨by omega, ?_⟩
        repeat refine ⟨fun h => absurd h (by decide), fun _ => ?_⟩
        refine ⟨fun _ => ?_, fun h => absurd rfl h⟩
        show tT e d 516 181 _ _ _ _ _
        have hv0 := g2 rfl
        refine tb_X0_ofOne_181 (c := false) ?_
        simp only [kb_X0_ofOne_181, w_ald_0, w_gf_2_1, tw_f, w_ald6, w_iv1, tfr_0, tfr_1, tfr_2, tfr_3, tfr_4, w_iv0, w_goto, true_and, and_true, Nat.reduceAdd, Nat.reduceSub, eq_self, tsh_78, tsh_79, tsh_80, tsh_86, tyk_4, tyk_2, tyk_10, tyk_3, tyk_5, tcq_4, tcq_2, tcq_10, tcq_3, tcq_5, hxs]
        refine tc_n (D := 3) (fun d' hd' => f_logarithm (b := b) hx (Or.inr hx1) hv2 ⟨hv0, by omega⟩ hb f.1.1 hd') (by omega) ?_
        rintro M3 ⟨⟨X, q1, q2, q3, q3b⟩, q4⟩
        try simp only [kb_X0_ofOne_181, w_ald_0, w_gf_2_1, tw_f, w_ald6, w_iv1, tfr_0, tfr_1, tfr_2, tfr_3, tfr_4, w_iv0, w_goto, true_and, and_true, Nat.reduceAdd, Nat.reduceSub, eq_self, tsh_78, tsh_79, tsh_80, tsh_86, tyk_4, tyk_2, tyk_10, tyk_3, tyk_5, tcq_4, tcq_2, tcq_10, tcq_3, tcq_5, hxs]
        have lx := LX_r q3b
        refine tc_n (D := 2) (fun d' hd' => f_tell (b := b) q3b q3 (by split <;> decide) q2 (by split <;> decide) (CF_O q4 ro2) hb q4.1.1 hd') (by omega) ?_
        rintro M4 ⟨q5, q6, q7⟩
        try simp only [kb_X0_ofOne_181, w_ald_0, w_gf_2_1, tw_f, w_ald6, w_iv1, tfr_0, tfr_1, tfr_2, tfr_3, tfr_4, w_iv0, w_goto, true_and, and_true, Nat.reduceAdd, Nat.reduceSub, eq_self, tsh_78, tsh_79, tsh_80, tsh_86, tyk_4, tyk_2, tyk_10, tyk_3, tyk_5, tcq_4, tcq_2, tcq_10, tcq_3, tcq_5, hxs]
        have ec : (if (if X < 0 then (1 : Int) else 0) = 0 then 2 * ((if X < 0 then -X else X) / 100000000000000000000000000000000000000000000) + (if v = 10000000000 then 0 else 1) else -(2 * ((if X < 0 then -X else X) / 100000000000000000000000000000000000000000000) + (if v = 10000000000 then 0 else 1))) = scd X (if v = 10000000000 then 0 else 1) := by
          unfold scd
          by_cases g : X < 0
          · rw [if_pos g, if_pos g, if_neg (by decide), if_pos g]
          · rw [if_neg g, if_neg g, if_pos rfl, if_neg g]
        rw [ec] at q5
        refine k M4 _ q5 ?_ (Or.inr (Or.inr (Or.inr (Or.inl ⟨rfl, X, q1, rfl⟩)))) q6 (AF_tr (CF_F q4) (AF_R q7)) (fun i => (q7.2 _ _ (by decide)).trans (q4.2 _ _ (by decide) (fun g => absurd g.1 (by decide))))
        unfold scd RV
        by_cases g : X < 0
        · rw [if_pos g] at lx ⊢
          split <;> omega
        · rw [if_neg g] at lx ⊢
          split <;> omega
      · refine tb_X0_ofOne_93 (c := false) ?_
        simp only [kb_X0_ofOne_93, w_ild_2, w_sw, tsw, true_and, and_true, Nat.reduceAdd, Nat.reduceSub, eq_self]
        refine ⟨by omega, ?_⟩
        repeat refine ⟨fun h => absurd h (by decide), fun _ => ?_⟩
        show tT e d 516 200 _ _ _ _ _
        refine tb_X0_ofOne_200 (c := false) ?_
        simp only [kb_X0_ofOne_200, w_ald_0, w_gf_2_1, tw_f, w_ald6, w_iv1, tfr_0, tfr_1, tfr_2, tfr_3, tfr_4, w_iv0, w_nil, true_and, and_true, Nat.reduceAdd, Nat.reduceSub, eq_self, tsh_78, tsh_79, tsh_80, tsh_86, tyk_4, tyk_2, tyk_10, tyk_3, tyk_5, tcq_4, tcq_2, tcq_10, tcq_3, tcq_5, hxs]
        refine tc_n (D := 3) (fun d' hd' => f_arc (b := b) hx (Or.inr hx1) hv2 nf hb f.1.1 hd') (by omega) ?_
        rintro M3 ⟨q1, q2, q3, q4⟩
        try simp only [kb_X0_ofOne_200, w_ald_0, w_gf_2_1, tw_f, w_ald6, w_iv1, tfr_0, tfr_1, tfr_2, tfr_3, tfr_4, w_iv0, w_nil, true_and, and_true, Nat.reduceAdd, Nat.reduceSub, eq_self, tsh_78, tsh_79, tsh_80, tsh_86, tyk_4, tyk_2, tyk_10, tyk_3, tyk_5, tcq_4, tcq_2, tcq_10, tcq_3, tcq_5, hxs]
        obtain ⟨N, n1, n2⟩ : ∃ N : Int, LX M3 96 N ∧ CAC v (if v < 0 then -(2 * (N / 100000000000000000000000000000000000000000000) + (if v = 0 then 0 else 1)) else 2 * (N / 100000000000000000000000000000000000000000000) + (if v = 0 then 0 else 1)) := by
          rcases q1 with ⟨e0, l0⟩ | ⟨e0, X, hX, lX⟩
          · refine ⟨0, l0, Or.inl ⟨e0, ?_⟩⟩
            rw [if_neg (by omega), if_pos e0]
            rfl
          · have hp := CA_pos (by split <;> omega) hX
            rw [if_neg (show ¬ X < 0 by omega)] at lX
            refine ⟨X, lX, Or.inr ⟨e0, X, hX, ?_⟩⟩
            rw [if_neg e0]
        have lx := LX_r n1
        refine tc_n (D := 2) (fun d' hd' => f_tell (b := b) n1 q3 (by split <;> decide) q2 (by split <;> decide) (CF_O q4 ro2) hb q4.1.1 hd') (by omega) ?_
        rintro M4 ⟨q5, q6, q7⟩
        try simp only [kb_X0_ofOne_200, w_ald_0, w_gf_2_1, tw_f, w_ald6, w_iv1, tfr_0, tfr_1, tfr_2, tfr_3, tfr_4, w_iv0, w_nil, true_and, and_true, Nat.reduceAdd, Nat.reduceSub, eq_self, tsh_78, tsh_79, tsh_80, tsh_86, tyk_4, tyk_2, tyk_10, tyk_3, tyk_5, tcq_4, tcq_2, tcq_10, tcq_3, tcq_5, hxs]
        have ec : (if (if v < 0 then (1 : Int) else 0) = 0 then 2 * (N / 100000000000000000000000000000000000000000000) + (if v = 0 then 0 else 1) else -(2 * (N / 100000000000000000000000000000000000000000000) + (if v = 0 then 0 else 1))) = (if v < 0 then -(2 * (N / 100000000000000000000000000000000000000000000) + (if v = 0 then 0 else 1)) else 2 * (N / 100000000000000000000000000000000000000000000) + (if v = 0 then 0 else 1)) := by
          by_cases g : v < 0
          · rw [if_pos g, if_neg (by decide), if_pos g]
          · rw [if_neg g, if_pos rfl, if_neg g]
        rw [ec] at q5
        refine k M4 _ q5 ?_ (Or.inr (Or.inr (Or.inr (Or.inr ⟨rfl, n2⟩)))) q6 (AF_tr (CF_F q4) (AF_R q7)) (fun i => (q7.2 _ _ (by decide)).trans (q4.2 _ _ (by decide) (fun g => absurd g.1 (by decide))))
        unfold RV
        split <;> split <;> omega
    -- the second side
    have s1 : ∀ (M2 : tM) (z4 : Int) (w6 : Option tV) (t1 : Int), ((z4 = 1 ∧ L = H) ∨ (z4 = 0 ∧ ¬ L = H)) → COD a y L t1 → RV t1 → RN M2 t1 → BB M2 109 (dn (M 78 5) t1) → BB M2 (r + 2) H → RO M2 → AF b M1 M2 → tT e d 516 59 [some (.inr (.inr (.inl (78)))), some (.inr (.inr (.inl (r)))), some (.inl (a)), some (.inl ((y : Int))), some (.inl (z4)), some (.inl (1)), w6] [] M2 n (tQi n (fun z M' => (z = 1 ∨ ∃ t1 t2 : Int, (COD a y L t1 ∧ COD a y H t2) ∧ (BX M' r (dn (M 78 5) t1) (up (M 78 5) t2) ∧ ST z (dn (M 78 5) t1) (up (M 78 5) t2))) ∧ RO M' ∧ AE b M M' r)) := by
      intro M2 z4 w6 t1 hz c1 rt1 rn b1 b2 ro2 f
      have n216 : ∀ (M3 : tM) (t : Int), RN M3 t → RV t → COD a y H t → RO M3 → AF b M1 M3 → BB M3 109 (dn (M 78 5) t1) → tT e d 516 216 [some (.inr (.inr (.inl (78)))), some (.inr (.inr (.inl (r)))), some (.inl (a)), some (.inl ((y : Int))), some (.inl (z4)), some (.inl (1)), some (.inr (.inr (.inl (r + 2))))] [] M3 n (tQi n (fun z M' => (z = 1 ∨ ∃ t1 t2 : Int, (COD a y L t1 ∧ COD a y H t2) ∧ (BX M' r (dn (M 78 5) t1) (up (M 78 5) t2) ∧ ST z (dn (M 78 5) t1) (up (M 78 5) t2))) ∧ RO M' ∧ AE b M M' r)) := by
        intro M3 t rn3 rt c3 ro3 f3 b109
        have uM3 : M3 78 5 = M 78 5 := (UN_78 f3.1.2).trans u1
        refine tb_X0_ofOne_216 (c := false) ?_
        simp only [kb_X0_ofOne_216, w_ild5, w_if_ne, w_ald_0, w_gf_2_0, tw_f, w_gf_2_2, w_gf_2_5, w_iv2, tfr_0, tfr_1, tfr_2, tfr_3, tfr_4, w_goto, true_and, and_true, Nat.reduceAdd, Nat.reduceSub, eq_self, tsh_78, tsh_79, tsh_80, tsh_86, tyk_4, tyk_2, tyk_10, tyk_3, tyk_5, tcq_4, tcq_2, tcq_10, tcq_3, tcq_5]
        repeat refine And.intro (by omega) ?_
        refine ⟨fun _ => ?_, fun q => absurd (by decide) q⟩
        refine tb_X0_ofOne_239 (c := false) ?_
        simp only [kb_X0_ofOne_239, w_ald_0, w_gf_2_0, tw_f, w_gf_2_3, w_gf_2_5, w_iv2, tfr_0, tfr_1, tfr_2, tfr_3, tfr_4, w_nil, true_and, and_true, Nat.reduceAdd, Nat.reduceSub, eq_self, tsh_78, tsh_79, tsh_80, tsh_86, tyk_4, tyk_2, tyk_10, tyk_3, tyk_5, tcq_4, tcq_2, tcq_10, tcq_3, tcq_5, uM3]
        refine tc_n (D := 1) (fun d' hd' => y_tellUp (b := b) cl_110 rn3 rt hu (Or.inl hb) f3.1.1 hd') (by omega) ?_
        rintro M4 ⟨q1, q2⟩
        try simp only [kb_X0_ofOne_239, w_ald_0, w_gf_2_0, tw_f, w_gf_2_3, w_gf_2_5, w_iv2, tfr_0, tfr_1, tfr_2, tfr_3, tfr_4, w_nil, true_and, and_true, Nat.reduceAdd, Nat.reduceSub, eq_self, tsh_78, tsh_79, tsh_80, tsh_86, tyk_4, tyk_2, tyk_10, tyk_3, tyk_5, tcq_4, tcq_2, tcq_10, tcq_3, tcq_5, uM3]
        refine tb_X0_ofOne_254 (c := false) ?_
        simp only [kb_X0_ofOne_254, w_inc5, tkl_n, tkl_i, tkl_l, tkl_r, w_goto, true_and, and_true, Nat.reduceAdd, Nat.reduceSub, eq_self]
        repeat refine And.intro (by omega) ?_
        refine tb_X0_ofOne_59 (c := false) ?_
        simp only [kb_X0_ofOne_59, w_ild5, w_ic, w_ic_ge, w_if_ne, w_ald_1, w_gf_4_0, tw_f, w_goto, true_and, and_true, Nat.reduceAdd, Nat.reduceSub, eq_self, tsh_78, tsh_79, tsh_80, tsh_86, tyk_4, tyk_2, tyk_10, tyk_3, tyk_5, tcq_4, tcq_2, tcq_10, tcq_3, tcq_5]
        repeat refine And.intro (by omega) ?_
        refine ⟨fun _ => ?_, fun q => absurd (by decide) q⟩
        exact n260 M4 _ _ _ t1 t c1 c3 rt1 rt (BB_u b109 (fun i => q2.2.2 _ _ (by decide))) q1 (RO_d ro3 q2 (by decide)) (AF_tr f3 (AF_d q2 (by decide)))
      refine tb_X0_ofOne_59 (c := false) ?_
      simp only [kb_X0_ofOne_59, w_ild5, w_ic, w_ic_ge, w_if_ne, w_ald_1, w_gf_4_0, tw_f, w_goto, true_and, and_true, Nat.reduceAdd, Nat.reduceSub, eq_self, tsh_78, tsh_79, tsh_80, tsh_86, tyk_4, tyk_2, tyk_10, tyk_3, tyk_5, tcq_4, tcq_2, tcq_10, tcq_3, tcq_5, hr]
      repeat refine And.intro (by omega) ?_
      first | refine ⟨fun q => absurd q (by omega), fun _ => ?_⟩ | refine fun _ => ?_
      repeat refine And.intro (by omega) ?_
      refine ⟨fun _ => ?_, fun q => absurd (by decide) q⟩
      refine tb_X0_ofOne_77 (c := false) ?_
      simp only [kb_X0_ofOne_77, w_ald_1, w_gf_4_1, tw_f, w_nil, true_and, and_true, Nat.reduceAdd, Nat.reduceSub, eq_self, tsh_78, tsh_79, tsh_80, tsh_86, tyk_4, tyk_2, tyk_10, tyk_3, tyk_5, tcq_4, tcq_2, tcq_10, tcq_3, tcq_5, hr, hm2]
      refine tb_X0_ofOne_81 (c := false) ?_
      simp only [kb_X0_ofOne_81, w_ast6, tkl_n, tkl_i, tkl_l, tkl_r, w_ild5, w_if_eq, w_ild4, w_if_ne, w_nil, true_and, and_true, Nat.reduceAdd, Nat.reduceSub, eq_self]
      repeat refine And.intro (by omega) ?_
      first | refine ⟨fun q => absurd q (by omega), fun _ => ?_⟩ | refine fun _ => ?_
      repeat refine And.intro (by omega) ?_
      refine ⟨fun g => ?_, fun g => ?_⟩
      · have e12 : L = H := by omega
        exact n216 M2 t1 rn rt1 (by rw [← e12]; exact c1) ro2 f b1
      · exact n93 M2 (r + 2) H 1 z4 (bxl_2 h0) (by omega) b2 f2 (fun g => by have := h114 g; omega) (fun g => by have := h108 g; omega) ro2 f (fun M3 t a1 a2 a3 a4 a5 a6 => n216 M3 t a1 a2 a3 a4 (AF_tr f a5) (BB_u b1 a6))
    -- the first side
    refine tb_X0_ofOne_50 (c := false) ?_
    simp only [kb_X0_ofOne_50, w_ald_1, w_iv0, tfr_0, tfr_1, tfr_2, tfr_3, tfr_4, w_ist4, tkl_n, tkl_i, tkl_l, tkl_r, w_ic, w_ist5, w_nil, true_and, and_true, Nat.reduceAdd, Nat.reduceSub, eq_self, tsh_78, tsh_79, tsh_80, tsh_86, tyk_4, tyk_2, tyk_10, tyk_3, tyk_5, tcq_4, tcq_2, tcq_10, tcq_3, tcq_5, hr]
    refine tc_i (D := 2) (fun d' hd' => z_isSingle h0 v1 (NF_r f1) (NF_r f2) hd') (by omega) ?_
    rintro z4 M2 ⟨hz, rfl⟩
    try simp only [kb_X0_ofOne_50, w_ald_1, w_iv0, tfr_0, tfr_1, tfr_2, tfr_3, tfr_4, w_ist4, tkl_n, tkl_i, tkl_l, tkl_r, w_ic, w_ist5, w_nil, true_and, and_true, Nat.reduceAdd, Nat.reduceSub, eq_self, tsh_78, tsh_79, tsh_80, tsh_86, tyk_4, tyk_2, tyk_10, tyk_3, tyk_5, tcq_4, tcq_2, tcq_10, tcq_3, tcq_5, hr]
    repeat refine And.intro (by omega) ?_
    refine tb_X0_ofOne_59 (c := false) ?_
    simp only [kb_X0_ofOne_59, w_ild5, w_ic, w_ic_ge, w_if_ne, w_ald_1, w_gf_4_0, tw_f, w_goto, true_and, and_true, Nat.reduceAdd, Nat.reduceSub, eq_self, tsh_78, tsh_79, tsh_80, tsh_86, tyk_4, tyk_2, tyk_10, tyk_3, tyk_5, tcq_4, tcq_2, tcq_10, tcq_3, tcq_5, hr, hm1]
    repeat refine And.intro (by omega) ?_
    first | refine ⟨fun q => absurd q (by omega), fun _ => ?_⟩ | refine fun _ => ?_
    repeat refine And.intro (by omega) ?_
    first | refine ⟨fun q => absurd q (by omega), fun _ => ?_⟩ | refine fun _ => ?_
    refine tb_X0_ofOne_81 (c := false) ?_
    simp only [kb_X0_ofOne_81, w_ast6, tkl_n, tkl_i, tkl_l, tkl_r, w_ild5, w_if_eq, w_ild4, w_if_ne, w_nil, true_and, and_true, Nat.reduceAdd, Nat.reduceSub, eq_self]
    repeat refine And.intro (by omega) ?_
    refine ⟨fun _ => ?_, fun q => absurd (by first | trivial | decide) q⟩
    refine n93 M2 (r + 1) L 0 z4 (bxl_1 h0) (by omega) v1.1 f1 h114 h108 ro1 (AF_refl e1.1.1) (fun M3 t a1 a2 a3 a4 a5 _ => ?_)
    have uM3 : M3 78 5 = M 78 5 := (UN_78 a5.1.2).trans u1
    refine tb_X0_ofOne_216 (c := false) ?_
    simp only [kb_X0_ofOne_216, w_ild5, w_if_ne, w_ald_0, w_gf_2_0, tw_f, w_gf_2_2, w_gf_2_5, w_iv2, tfr_0, tfr_1, tfr_2, tfr_3, tfr_4, w_goto, true_and, and_true, Nat.reduceAdd, Nat.reduceSub, eq_self, tsh_78, tsh_79, tsh_80, tsh_86, tyk_4, tyk_2, tyk_10, tyk_3, tyk_5, tcq_4, tcq_2, tcq_10, tcq_3, tcq_5, uM3]
    repeat refine And.intro (by omega) ?_
    first | refine ⟨fun q => absurd q (by omega), fun _ => ?_⟩ | refine fun _ => ?_
    refine tc_n (D := 1) (fun d' hd' => y_tellDown (b := b) cl_109 a1 a2 hu (Or.inl hb) a5.1.1 hd') (by omega) ?_
    rintro M4 ⟨q1, q2⟩
    try simp only [kb_X0_ofOne_216, w_ild5, w_if_ne, w_ald_0, w_gf_2_0, tw_f, w_gf_2_2, w_gf_2_5, w_iv2, tfr_0, tfr_1, tfr_2, tfr_3, tfr_4, w_goto, true_and, and_true, Nat.reduceAdd, Nat.reduceSub, eq_self, tsh_78, tsh_79, tsh_80, tsh_86, tyk_4, tyk_2, tyk_10, tyk_3, tyk_5, tcq_4, tcq_2, tcq_10, tcq_3, tcq_5, uM3]
    refine tb_X0_ofOne_254 (c := false) ?_
    simp only [kb_X0_ofOne_254, w_inc5, tkl_n, tkl_i, tkl_l, tkl_r, w_goto, true_and, and_true, Nat.reduceAdd, Nat.reduceSub, eq_self]
    repeat refine And.intro (by omega) ?_
    exact s1 M4 z4 _ t hz a3 a2 ⟨BB_u a1.1 (fun i => q2.2.2 _ _ (by decide)), (q2.2.2 _ _ (by decide)).trans a1.2⟩ q1 (BB_u (BB_u v1.2 (fun i => a5.2 _ _ (by omega))) (fun i => q2.2.2 _ _ (by omega))) (RO_d a4 q2 (by decide)) (AF_tr a5 (AF_d q2 (by decide)))
  -- even powers lose their signs
  have n34 : (a = 114 → 0 ≤ lo) → (a = 108 → 0 < lo) → tT e d 516 34 [some (.inr (.inr (.inl (78)))), some (.inr (.inr (.inl (r)))), some (.inl (a)), some (.inl ((y : Int))), none, none, none] [] M n (tQi n (fun z M' => (z = 1 ∨ ∃ t1 t2 : Int, (COD a y (oLo a y lo hi) t1 ∧ COD a y (oHi a y lo hi) t2) ∧ (BX M' r (dn (M 78 5) t1) (up (M 78 5) t2) ∧ ST z (dn (M 78 5) t1) (up (M 78 5) t2))) ∧ RO M' ∧ AE b M M' r)) := by
    intro h114 h108
    have em : ((y : Nat) : Int).tmod 2 = ((y % 2 : Nat) : Int) := by
      rw [Int.tmod_eq_emod_of_nonneg (by omega)]
      omega
    refine tb_X0_ofOne_34 (c := false) ?_
    simp only [kb_X0_ofOne_34, w_ild_2, w_bi, w_ic_ne, w_ild_3, w_ic, w_irem, w_if_ne, w_ald_1, w_iv0, tfr_0, tfr_1, tfr_2, tfr_3, tfr_4, w_nil, true_and, and_true, Nat.reduceAdd, Nat.reduceSub, eq_self, tsh_78, tsh_79, tsh_80, tsh_86, tyk_4, tyk_2, tyk_10, tyk_3, tyk_5, tcq_4, tcq_2, tcq_10, tcq_3, tcq_5, hr]
    repeat refine And.intro (by omega) ?_
    refine ⟨fun g => ?_, fun g => ?_⟩
    · have e0 : ¬ (a = 94 ∧ y % 2 = 0) := fun q => g q.1
      exact n50 M lo hi hv r1 r2 hle (by unfold oLo; rw [if_neg e0]) (by unfold oHi; rw [if_neg e0]) h114 h108 (BE_refl hC)
    · rw [em]
      repeat refine And.intro (by omega) ?_
      refine ⟨fun g2 => ?_, fun g2 => ?_⟩
      · have e0 : ¬ (a = 94 ∧ y % 2 = 0) := fun q => by omega
        exact n50 M lo hi hv r1 r2 hle (by unfold oLo; rw [if_neg e0]) (by unfold oHi; rw [if_neg e0]) h114 h108 (BE_refl hC)
      · have e0 : a = 94 ∧ y % 2 = 0 := ⟨by omega, by omega⟩
        have ar := ab_r r1 r2
        refine tc_n (D := 2) (fun d' hd' => z_dropSigns (b := b) h0 hv (NF_r r1) (NF_r r2) hb hC hd') (by omega) ?_
        rintro M1 ⟨q1, q2⟩
        try simp only [kb_X0_ofOne_34, w_ild_2, w_bi, w_ic_ne, w_ild_3, w_ic, w_irem, w_if_ne, w_ald_1, w_iv0, tfr_0, tfr_1, tfr_2, tfr_3, tfr_4, w_nil, true_and, and_true, Nat.reduceAdd, Nat.reduceSub, eq_self, tsh_78, tsh_79, tsh_80, tsh_86, tyk_4, tyk_2, tyk_10, tyk_3, tyk_5, tcq_4, tcq_2, tcq_10, tcq_3, tcq_5, hr]
        exact n50 M1 _ _ q1 ar.1 ar.2 (ab_o hle) (by unfold oLo; rw [if_pos e0]) (by unfold oHi; rw [if_pos e0]) (fun h => by omega) (fun h => by omega) q2
  have n16 : (a = 114 → 0 ≤ lo) → tT e d 516 16 [some (.inr (.inr (.inl (78)))), some (.inr (.inr (.inl (r)))), some (.inl (a)), some (.inl ((y : Int))), none, none, none] [] M n (tQi n (fun z M' => (z = 1 ∨ ∃ t1 t2 : Int, (COD a y (oLo a y lo hi) t1 ∧ COD a y (oHi a y lo hi) t2) ∧ (BX M' r (dn (M 78 5) t1) (up (M 78 5) t2) ∧ ST z (dn (M 78 5) t1) (up (M 78 5) t2))) ∧ RO M' ∧ AE b M M' r)) := by
    intro h114
    refine tb_X0_ofOne_16 (c := false) ?_
    simp only [kb_X0_ofOne_16, w_ild_2, w_bi, w_ic_ne, w_ald_1, w_gf_4_0, tw_f, w_iv0, tfr_0, tfr_1, tfr_2, tfr_3, tfr_4, w_if_ne, w_nil, true_and, and_true, Nat.reduceAdd, Nat.reduceSub, eq_self, tsh_78, tsh_79, tsh_80, tsh_86, tyk_4, tyk_2, tyk_10, tyk_3, tyk_5, tcq_4, tcq_2, tcq_10, tcq_3, tcq_5, hr, hm1]
    repeat refine And.intro (by omega) ?_
    refine ⟨fun g => n34 h114 (fun h => absurd h g), fun g => ?_⟩
    refine tc_i (D := 0) (fun d' hd' => y_isPositive (bxl_1 h0) hv.1 (NF_r r1)) (by omega) ?_
    rintro z M2 ⟨q, rfl⟩
    try simp only [kb_X0_ofOne_16, w_ild_2, w_bi, w_ic_ne, w_ald_1, w_gf_4_0, tw_f, w_iv0, tfr_0, tfr_1, tfr_2, tfr_3, tfr_4, w_if_ne, w_nil, true_and, and_true, Nat.reduceAdd, Nat.reduceSub, eq_self, tsh_78, tsh_79, tsh_80, tsh_86, tyk_4, tyk_2, tyk_10, tyk_3, tyk_5, tcq_4, tcq_2, tcq_10, tcq_3, tcq_5, hr, hm1]
    repeat refine And.intro (by omega) ?_
    refine ⟨fun g2 => n34 h114 (fun _ => by omega), fun g2 => n32⟩
  refine tb_X0_ofOne_0 (c := false) ?_
  simp only [kb_X0_ofOne_0, w_ild_2, w_bi, w_ic_ne, w_ald_1, w_gf_4_0, tw_f, w_iv0, tfr_0, tfr_1, tfr_2, tfr_3, tfr_4, w_if_ne, w_nil, true_and, and_true, Nat.reduceAdd, Nat.reduceSub, eq_self, tsh_78, tsh_79, tsh_80, tsh_86, tyk_4, tyk_2, tyk_10, tyk_3, tyk_5, tcq_4, tcq_2, tcq_10, tcq_3, tcq_5, hr, hm1]
  repeat refine And.intro (by omega) ?_
  refine ⟨fun g => n16 (fun h => absurd h g), fun g => ?_⟩
  refine tc_i (D := 0) (fun d' hd' => y_isNegative (bxl_1 h0) hv.1 (NF_r r1)) (by omega) ?_
  rintro z M2 ⟨q, rfl⟩
  try simp only [kb_X0_ofOne_0, w_ild_2, w_bi, w_ic_ne, w_ald_1, w_gf_4_0, tw_f, w_iv0, tfr_0, tfr_1, tfr_2, tfr_3, tfr_4, w_if_ne, w_nil, true_and, and_true, Nat.reduceAdd, Nat.reduceSub, eq_self, tsh_78, tsh_79, tsh_80, tsh_86, tyk_4, tyk_2, tyk_10, tyk_3, tyk_5, tcq_4, tcq_2, tcq_10, tcq_3, tcq_5, hr, hm1]
  repeat refine And.intro (by omega) ?_
  refine ⟨fun g2 => n32, fun g2 => n16 (fun _ => by omega)⟩
end HAND
