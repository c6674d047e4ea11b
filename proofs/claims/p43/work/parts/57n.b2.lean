/-! THE CLASS BY VALUES: the acts' quotient. -/
/-- the sides of a quotient by a box above 0 -/
def qsL (lo l2 h2 : Int) : Int := cd (lo * 10000000000) (if lo < 0 then l2 else h2)
def qsH (hi l2 h2 : Int) : Int := cd (hi * 10000000000) (if hi < 0 then h2 else l2)
def qtL (lo hi l2 h2 : Int) : Int := if h2 < 0 then qsL (-hi) (-h2) (-l2) else qsL lo l2 h2
def qtH (lo hi l2 h2 : Int) : Int := if h2 < 0 then qsH (-lo) (-h2) (-l2) else qsH hi l2 h2
/-- the acts' cells and two boxes -/
def AX (b : Nat) (M M' : tM) (r x : Nat) : Prop := (CI M' ∧ pE b M M') ∧ ∀ (k : Nat) (i : Int), (k < 78 ∨ 111 < k) → k ≠ r + 1 → k ≠ r + 2 → k ≠ x + 1 → k ≠ x + 2 → M' k i = M k i
theorem AX_refl {b r x : Nat} {M : tM} (hC : CI M) : AX b M M r x := ⟨⟨hC, pE_refl⟩, fun _ _ _ _ _ _ _ => rfl⟩
theorem AX_tr {b r x : Nat} {M M1 M2 : tM} (h1 : AX b M M1 r x) (h2 : AX b M1 M2 r x) : AX b M M2 r x := ⟨⟨h2.1.1, pE_tr h1.1.2 h2.1.2⟩, fun k i a1 a2 a3 a4 a5 => (h2.2 k i a1 a2 a3 a4 a5).trans (h1.2 k i a1 a2 a3 a4 a5)⟩
theorem AX_r {b r x : Nat} {M M1 : tM} (h : AE b M M1 r) : AX b M M1 r x := ⟨h.1, fun k i a1 a2 a3 _ _ => h.2 k i a1 a2 a3⟩
theorem AX_x {b r x : Nat} {M M1 : tM} (h : AE b M M1 x) : AX b M M1 r x := ⟨h.1, fun k i a1 _ _ a4 a5 => h.2 k i a1 a4 a5⟩
section HAND
variable {e : tE} {b d n : Nat} {M : tM}
theorem z_quotient {r x1 : Nat} {lo hi l2 h2 : Int} (h0 : cl r 4) (h1 : cl x1 4) (hr : 111 < r) (hx : 111 < x1) (hn : r ≠ x1) (hv : BX M r lo hi) (hw : BX M x1 l2 h2) (r1 : NF lo ∧ NF hi) (r2 : NF l2 ∧ NF h2) (hle : l2 ≤ h2) (hu : UU (M 78 5)) (hro : RO M) (hb : b < 2) (hC : CI M) (hd : 4 ≤ d) : tC e d 518 [.inr (.inr (.inl 78)), .inr (.inr (.inl r)), .inr (.inr (.inl x1))] M n (tQi n (fun z M' => ((z = 1 ∧ (l2 ≤ 0 ∧ 0 ≤ h2)) ∨ (¬ (l2 ≤ 0 ∧ 0 ≤ h2) ∧ ∃ L H : Int, (BX M' r L H ∧ ST z L H) ∧ (z = 0 → L = dn (M 78 5) (qtL lo hi l2 h2) ∧ H = up (M 78 5) (qtH lo hi l2 h2)))) ∧ RO M' ∧ AX b M M' r x1)) := by
  have hrs := h0.1
  have hm1 := (bxl_1 h0).1
  have hm2 := (bxl_2 h0).1
  have hxs := h1.1
  have hx1 := (bxl_1 h1).1
  have hx2 := (bxl_2 h1).1
  have hbn := bx_ne h0 h1
  have hu1 := hu.1
  have hup : 0 < M 78 5 := by omega
  have nf : ∀ {v : Int}, NF v → (-100000000000000000000000 < v ∧ v < 100000000000000000000000) := fun h => by unfold NF at h; omega
  refine tst_X0_quotient ?_
  have n27 : ∀ (M1 : tM) (lo' hi' l2' h2' : Int), BX M1 r lo' hi' → BX M1 x1 l2' h2' → (NF lo' ∧ NF hi') → (NF l2' ∧ NF h2') → 0 < l2' → l2' ≤ h2' → qsL lo' l2' h2' = qtL lo hi l2 h2 → qsH hi' l2' h2' = qtH lo hi l2 h2 → ¬ (l2 ≤ 0 ∧ 0 ≤ h2) → RO M1 → AX b M M1 r x1 → tT e d 518 27 [some (.inr (.inr (.inl (78)))), some (.inr (.inr (.inl (r)))), some (.inr (.inr (.inl (x1))))] [] M1 n (tQi n (fun z M' => ((z = 1 ∧ (l2 ≤ 0 ∧ 0 ≤ h2)) ∨ (¬ (l2 ≤ 0 ∧ 0 ≤ h2) ∧ ∃ L H : Int, (BX M' r L H ∧ ST z L H) ∧ (z = 0 → L = dn (M 78 5) (qtL lo hi l2 h2) ∧ H = up (M 78 5) (qtH lo hi l2 h2)))) ∧ RO M' ∧ AX b M M' r x1)) := by
    intro M1 lo' hi' l2' h2' vx wx s1 s2 p1 p2 eL eH hnz ro1 f1
    have e1 : M1 78 5 = M 78 5 := UN_78 f1.1.2
    -- the end
    have n120 : ∀ (M2 : tM) (t1 t2 : Int), BB M2 109 (dn (M 78 5) t1) → RN M2 t2 → FTc t1 (lo' * 10000000000) (if lo' < 0 then l2' else h2') → FTc t2 (hi' * 10000000000) (if hi' < 0 then h2' else l2') → RO M2 → AX b M M2 r x1 → tT e d 518 120 [some (.inr (.inr (.inl (78)))), some (.inr (.inr (.inl (r)))), some (.inr (.inr (.inl (x1))))] [] M2 n (tQi n (fun z M' => ((z = 1 ∧ (l2 ≤ 0 ∧ 0 ≤ h2)) ∨ (¬ (l2 ≤ 0 ∧ 0 ≤ h2) ∧ ∃ L H : Int, (BX M' r L H ∧ ST z L H) ∧ (z = 0 → L = dn (M 78 5) (qtL lo hi l2 h2) ∧ H = up (M 78 5) (qtH lo hi l2 h2)))) ∧ RO M' ∧ AX b M M' r x1)) := by
      intro M2 t1 t2 k1 k2 k3 k4 k5 k6
      have e2 : M2 78 5 = M 78 5 := UN_78 k6.1.2
      have ra := (dn_rv hu k3.2).1
      have rb := (dn_rv hu k4.2).2
      refine tb_X0_quotient_120 (c := false) ?_
      simp only [kb_X0_quotient_120, w_ald_0, w_gf_2_0, tw_f, w_gf_2_3, w_gf_2_5, w_iv2, tfr_0, tfr_1, tfr_2, tfr_3, tfr_4, w_ald_1, w_gf_2_2, w_is1, w_ire, trg, true_and, and_true, Nat.reduceAdd, Nat.reduceSub, eq_self, tsh_78, tsh_79, tsh_109, tsh_110, tsh_111, tyk_4, tyk_2, tyk_10, tyk_3, tcq_4, tcq_2, tcq_10, tcq_3, hrs, e2]
      refine tc_n (D := 1) (fun d' hd' => y_tellUp (b := b) cl_110 k2 (FTc_r k4) hu (Or.inl hb) k6.1.1 hd') (by omega) ?_
      rintro M3 ⟨a1, a2⟩
      try simp only [kb_X0_quotient_120, w_ald_0, w_gf_2_0, tw_f, w_gf_2_3, w_gf_2_5, w_iv2, tfr_0, tfr_1, tfr_2, tfr_3, tfr_4, w_ald_1, w_gf_2_2, w_is1, w_ire, trg, true_and, and_true, Nat.reduceAdd, Nat.reduceSub, eq_self, tsh_78, tsh_79, tsh_109, tsh_110, tsh_111, tyk_4, tyk_2, tyk_10, tyk_3, tcq_4, tcq_2, tcq_10, tcq_3, hrs, e2]
      refine tc_n (D := 1) (fun d' hd' => z_between (b := b) h0 cl_109 cl_110 (BB_u k1 (fun i => a2.2.2 109 i (by decide))) a1 (show 110 ≠ r + 1 by omega) hb a2.1 hd') (by omega) ?_
      rintro M4 ⟨a3, a4⟩
      try simp only [kb_X0_quotient_120, w_ald_0, w_gf_2_0, tw_f, w_gf_2_3, w_gf_2_5, w_iv2, tfr_0, tfr_1, tfr_2, tfr_3, tfr_4, w_ald_1, w_gf_2_2, w_is1, w_ire, trg, true_and, and_true, Nat.reduceAdd, Nat.reduceSub, eq_self, tsh_78, tsh_79, tsh_109, tsh_110, tsh_111, tyk_4, tyk_2, tyk_10, tyk_3, tcq_4, tcq_2, tcq_10, tcq_3, hrs, e2]
      refine tc_i (D := 2) (fun d' hd' => z_judged h0 a3 ra rb hd') (by omega) ?_
      rintro z M5 ⟨a5, rfl⟩
      try simp only [kb_X0_quotient_120, w_ald_0, w_gf_2_0, tw_f, w_gf_2_3, w_gf_2_5, w_iv2, tfr_0, tfr_1, tfr_2, tfr_3, tfr_4, w_ald_1, w_gf_2_2, w_is1, w_ire, trg, true_and, and_true, Nat.reduceAdd, Nat.reduceSub, eq_self, tsh_78, tsh_79, tsh_109, tsh_110, tsh_111, tyk_4, tyk_2, tyk_10, tyk_3, tcq_4, tcq_2, tcq_10, tcq_3, hrs, e2]
      refine ⟨_, rfl, rfl, Or.inr ⟨hnz, _, _, ⟨a3, a5⟩, fun hz => ?_⟩, RO_b (RO_d k5 a2 (by decide)) a4 hr, AX_tr k6 (AX_tr (AX_r (AE_F (AF_d a2 (by decide)))) (AX_r (AE_b a4)))⟩
      have nz : NF (dn (M 78 5) t1) ∧ NF (up (M 78 5) t2) := by
        rcases a5 with ⟨g, _⟩ | ⟨_, g⟩
        · omega
        · exact g
      have g1 := dn_up (t := t1) hup
      have g2 := dn_up (t := t2) hup
      have c1 : t1 = cd (lo' * 10000000000) (if lo' < 0 then l2' else h2') := by
        rcases k3.1 with h | h | h
        · exact h
        · exfalso
          have f := dn_le hup h
          have f2 : (10000000000000000000000 : Int) ≤ dn (M 78 5) 20000000000000000000000 := by
            have hd2 := hu.2
            unfold dn
            have e : (20000000000000000000000 : Int) / 2 = (1000000000000 * (10000000000 / M 78 5)) * M 78 5 := by
              rw [Int.mul_assoc, Int.ediv_mul_cancel hd2]
              rfl
            have := dnv_m (v := 20000000000000000000000 / 2) hup (Int.le_of_eq e.symm)
            omega
          have := nz.1.2
          omega
        · exfalso
          have := dn_far hup h
          have := nz.1.1
          omega
      have c2 : t2 = cd (hi' * 10000000000) (if hi' < 0 then h2' else l2') := by
        rcases k4.1 with h | h | h
        · exact h
        · exfalso
          have := up_far hup h
          have := nz.2.2
          omega
        · exfalso
          have f := up_le hup h
          have f2 : up (M 78 5) (-20000000000000000000000) ≤ -10000000000000000000000 := by
            have hd2 := hu.2
            unfold up dn
            have e : - -(20000000000000000000000 : Int) / 2 = (1000000000000 * (10000000000 / M 78 5)) * M 78 5 := by
              rw [Int.mul_assoc, Int.ediv_mul_cancel hd2]
              rfl
            have := dnv_m (v := - -20000000000000000000000 / 2) hup (Int.le_of_eq e.symm)
            omega
          have := nz.2.1
          omega
      rw [← eL, ← eH]
      unfold qsL qsH
      rw [← c1, ← c2]
      exact ⟨rfl, rfl⟩
    have rvl : RV lo' ∧ RV hi' := ⟨NF_r s1.1, NF_r s1.2⟩
    -- the first quotient
    have n56 : ∀ (cy : Nat) (w : Int), cl cy 3 → 111 < cy → BB M1 cy w → (0 < w ∧ w < 100000000000000000000000) → w = (if lo' < 0 then l2' else h2') → tT e d 518 56 [some (.inr (.inr (.inl (78)))), some (.inr (.inr (.inl (r)))), some (.inr (.inr (.inl (x1))))] [.inr (.inr (.inl cy)), .inr (.inr (.inl (r + 1))), .inr (.inr (.inl 79))] M1 n (tQi n (fun z M' => ((z = 1 ∧ (l2 ≤ 0 ∧ 0 ≤ h2)) ∨ (¬ (l2 ≤ 0 ∧ 0 ≤ h2) ∧ ∃ L H : Int, (BX M' r L H ∧ ST z L H) ∧ (z = 0 → L = dn (M 78 5) (qtL lo hi l2 h2) ∧ H = up (M 78 5) (qtH lo hi l2 h2)))) ∧ RO M' ∧ AX b M M' r x1)) := by
      intro cy w a1 a2 a3 a4 a5
      refine tb_X0_quotient_56 (c := false) ?_
      simp only [kb_X0_quotient_56, w_iv2, tfr_0, tfr_1, tfr_2, tfr_3, tfr_4, w_ald_0, w_gf_2_0, tw_f, w_gf_2_2, w_gf_2_5, w_ald_1, w_iv0, w_if_eq, w_ald_2, w_if_ne, w_nil, true_and, and_true, Nat.reduceAdd, Nat.reduceSub, eq_self, tsh_78, tsh_79, tsh_109, tsh_110, tsh_111, tyk_4, tyk_2, tyk_10, tyk_3, tcq_4, tcq_2, tcq_10, tcq_3, hrs, hxs]
      refine tc_n (D := 2) (fun d' hd' => y_quotient (b := b) (bxl_1 h0) a1 (by omega) (by omega) vx.1 a3 (nf s1.1) a4 ro1 hb f1.1.1 hd') (by omega) ?_
      rintro M2 ⟨⟨t1, b1, b2⟩, b3, b4⟩
      have e2 : M2 78 5 = M 78 5 := (UN_78 b4.1.2).trans e1
      try simp only [kb_X0_quotient_56, w_iv2, tfr_0, tfr_1, tfr_2, tfr_3, tfr_4, w_ald_0, w_gf_2_0, tw_f, w_gf_2_2, w_gf_2_5, w_ald_1, w_iv0, w_if_eq, w_ald_2, w_if_ne, w_nil, true_and, and_true, Nat.reduceAdd, Nat.reduceSub, eq_self, tsh_78, tsh_79, tsh_109, tsh_110, tsh_111, tyk_4, tyk_2, tyk_10, tyk_3, tcq_4, tcq_2, tcq_10, tcq_3, hrs, hxs, e2]
      rw [a5] at b2
      refine tc_n (D := 1) (fun d' hd' => y_tellDown (b := b) cl_109 b1 (FTc_r b2) hu (Or.inl hb) b4.1.1 hd') (by omega) ?_
      rintro M3 ⟨b5, b6⟩
      try simp only [kb_X0_quotient_56, w_iv2, tfr_0, tfr_1, tfr_2, tfr_3, tfr_4, w_ald_0, w_gf_2_0, tw_f, w_gf_2_2, w_gf_2_5, w_ald_1, w_iv0, w_if_eq, w_ald_2, w_if_ne, w_nil, true_and, and_true, Nat.reduceAdd, Nat.reduceSub, eq_self, tsh_78, tsh_79, tsh_109, tsh_110, tsh_111, tyk_4, tyk_2, tyk_10, tyk_3, tcq_4, tcq_2, tcq_10, tcq_3, hrs, hxs]
      have f3 : AX b M M3 r x1 := AX_tr f1 (AX_tr (AX_r (AE_F (AF_R b4))) (AX_r (AE_F (AF_d b6 (by decide)))))
      have ro3 := RO_d b3 b6 (by decide)
      have vx3 : BX M3 r lo' hi' := BX_f vx (fun i => (b6.2.2 _ i (by omega)).trans (b4.2 _ i (by omega))) (fun i => (b6.2.2 _ i (by omega)).trans (b4.2 _ i (by omega)))
      have wx3 : BX M3 x1 l2' h2' := BX_f wx (fun i => (b6.2.2 _ i (by omega)).trans (b4.2 _ i (by omega))) (fun i => (b6.2.2 _ i (by omega)).trans (b4.2 _ i (by omega)))
      have R3 : RN M3 t1 := ⟨BB_u b1.1 (fun i => b6.2.2 80 i (by decide)), (b6.2.2 79 1 (by decide)).trans b1.2⟩
      have n117 : ∀ (cz : Nat) (w2 : Int), cl cz 3 → 111 < cz → BB M3 cz w2 → (0 < w2 ∧ w2 < 100000000000000000000000) → w2 = (if hi' < 0 then h2' else l2') → tT e d 518 117 [some (.inr (.inr (.inl (78)))), some (.inr (.inr (.inl (r)))), some (.inr (.inr (.inl (x1))))] [.inr (.inr (.inl cz)), .inr (.inr (.inl (r + 2))), .inr (.inr (.inl 79))] M3 n (tQi n (fun z M' => ((z = 1 ∧ (l2 ≤ 0 ∧ 0 ≤ h2)) ∨ (¬ (l2 ≤ 0 ∧ 0 ≤ h2) ∧ ∃ L H : Int, (BX M' r L H ∧ ST z L H) ∧ (z = 0 → L = dn (M 78 5) (qtL lo hi l2 h2) ∧ H = up (M 78 5) (qtH lo hi l2 h2)))) ∧ RO M' ∧ AX b M M' r x1)) := by
        intro cz w2 d1 d2 d3 d4 d5
        refine tb_X0_quotient_117 (c := false) ?_
        simp only [kb_X0_quotient_117, w_iv2, tfr_0, tfr_1, tfr_2, tfr_3, tfr_4, w_nil, true_and, and_true, Nat.reduceAdd, Nat.reduceSub, eq_self, tsh_78, tsh_79, tsh_109, tsh_110, tsh_111, tyk_4, tyk_2, tyk_10, tyk_3, tcq_4, tcq_2, tcq_10, tcq_3]
        refine tc_n (D := 2) (fun d' hd' => y_quotient (b := b) (bxl_2 h0) d1 (by omega) (by omega) vx3.2 d3 (nf s1.2) d4 ro3 hb b6.1 hd') (by omega) ?_
        rintro M4 ⟨⟨t2, c1, c2⟩, c3, c4⟩
        try simp only [kb_X0_quotient_117, w_iv2, tfr_0, tfr_1, tfr_2, tfr_3, tfr_4, w_nil, true_and, and_true, Nat.reduceAdd, Nat.reduceSub, eq_self, tsh_78, tsh_79, tsh_109, tsh_110, tsh_111, tyk_4, tyk_2, tyk_10, tyk_3, tcq_4, tcq_2, tcq_10, tcq_3]
        rw [d5] at c2
        exact n120 M4 t1 t2 (BB_u b5 (fun i => c4.2 109 i (by decide))) c1 b2 c2 c3 (AX_tr f3 (AX_r (AE_F (AF_R c4))))
      have n88 : tT e d 518 88 [some (.inr (.inr (.inl (78)))), some (.inr (.inr (.inl (r)))), some (.inr (.inr (.inl (x1))))] [] M3 n (tQi n (fun z M' => ((z = 1 ∧ (l2 ≤ 0 ∧ 0 ≤ h2)) ∨ (¬ (l2 ≤ 0 ∧ 0 ≤ h2) ∧ ∃ L H : Int, (BX M' r L H ∧ ST z L H) ∧ (z = 0 → L = dn (M 78 5) (qtL lo hi l2 h2) ∧ H = up (M 78 5) (qtH lo hi l2 h2)))) ∧ RO M' ∧ AX b M M' r x1)) := by
        refine tb_X0_quotient_88 (c := false) ?_
        simp only [kb_X0_quotient_88, w_ald_0, w_gf_2_0, tw_f, w_ald_1, w_gf_4_1, w_iv0, tfr_0, tfr_1, tfr_2, tfr_3, tfr_4, w_if_eq, w_ald_2, w_goto, true_and, and_true, Nat.reduceAdd, Nat.reduceSub, eq_self, tsh_78, tsh_79, tsh_109, tsh_110, tsh_111, tyk_4, tyk_2, tyk_10, tyk_3, tcq_4, tcq_2, tcq_10, tcq_3, hrs, hm2]
        refine tc_i (D := 0) (fun d' hd' => y_isNegative (bxl_2 h0) vx3.2 rvl.2) (by omega) ?_
        rintro z M4 ⟨q, rfl⟩
        try simp only [kb_X0_quotient_88, w_ald_0, w_gf_2_0, tw_f, w_ald_1, w_gf_4_1, w_iv0, tfr_0, tfr_1, tfr_2, tfr_3, tfr_4, w_if_eq, w_ald_2, w_goto, true_and, and_true, Nat.reduceAdd, Nat.reduceSub, eq_self, tsh_78, tsh_79, tsh_109, tsh_110, tsh_111, tyk_4, tyk_2, tyk_10, tyk_3, tcq_4, tcq_2, tcq_10, tcq_3, hrs, hm2, hxs]
        refine ⟨by omega, fun h => ?_, fun h => ?_⟩
        · refine tb_X0_quotient_113 (c := false) ?_
          simp only [kb_X0_quotient_113, w_ald_2, w_gf_4_0, tw_f, w_nil, true_and, and_true, Nat.reduceAdd, Nat.reduceSub, eq_self, tsh_78, tsh_79, tsh_109, tsh_110, tsh_111, tyk_4, tyk_2, tyk_10, tyk_3, tcq_4, tcq_2, tcq_10, tcq_3, hxs]
          exact n117 (x1 + 1) l2' (bxl_1 h1) (by omega) wx3.1 ⟨p1, (nf s2.1).2⟩ (by rw [if_neg (by omega)])
        · exact n117 (x1 + 2) h2' (bxl_2 h1) (by omega) wx3.2 ⟨by omega, (nf s2.2).2⟩ (by rw [if_pos (by omega)])
      refine tc_i (D := 2) (fun d' hd' => z_isSingle h0 vx3 rvl.1 rvl.2 hd') (by omega) ?_
      rintro z M4 ⟨q, rfl⟩
      try simp only [kb_X0_quotient_56, w_iv2, tfr_0, tfr_1, tfr_2, tfr_3, tfr_4, w_ald_0, w_gf_2_0, tw_f, w_gf_2_2, w_gf_2_5, w_ald_1, w_iv0, w_if_eq, w_ald_2, w_if_ne, w_nil, true_and, and_true, Nat.reduceAdd, Nat.reduceSub, eq_self, tsh_78, tsh_79, tsh_109, tsh_110, tsh_111, tyk_4, tyk_2, tyk_10, tyk_3, tcq_4, tcq_2, tcq_10, tcq_3, hrs, hxs]
      refine ⟨by omega, fun h => n88, fun h => ?_⟩
      refine tc_i (D := 2) (fun d' hd' => z_isSingle h1 wx3 (NF_r s2.1) (NF_r s2.2) hd') (by omega) ?_
      rintro z2 M5 ⟨q2, rfl⟩
      try simp only [kb_X0_quotient_56, w_iv2, tfr_0, tfr_1, tfr_2, tfr_3, tfr_4, w_ald_0, w_gf_2_0, tw_f, w_gf_2_2, w_gf_2_5, w_ald_1, w_iv0, w_if_eq, w_ald_2, w_if_ne, w_nil, true_and, and_true, Nat.reduceAdd, Nat.reduceSub, eq_self, tsh_78, tsh_79, tsh_109, tsh_110, tsh_111, tyk_4, tyk_2, tyk_10, tyk_3, tcq_4, tcq_2, tcq_10, tcq_3, hrs, hxs]
      refine ⟨by omega, fun h2 => ?_, fun h2 => n88⟩
      have el : lo' = hi' := by omega
      have em : l2' = h2' := by omega
      refine n120 M5 t1 t1 b5 R3 b2 ?_ ro3 f3
      rw [← el, ← em, show (if lo' < 0 then l2' else l2') = (if lo' < 0 then l2' else h2') by rw [em]]
      exact b2
    refine tb_X0_quotient_27 (c := false) ?_
    simp only [kb_X0_quotient_27, w_ald_0, w_gf_2_0, tw_f, w_ald_1, w_gf_4_0, w_iv0, tfr_0, tfr_1, tfr_2, tfr_3, tfr_4, w_if_eq, w_ald_2, w_goto, true_and, and_true, Nat.reduceAdd, Nat.reduceSub, eq_self, tsh_78, tsh_79, tsh_109, tsh_110, tsh_111, tyk_4, tyk_2, tyk_10, tyk_3, tcq_4, tcq_2, tcq_10, tcq_3, hrs, hm1]
    refine tc_i (D := 0) (fun d' hd' => y_isNegative (bxl_1 h0) vx.1 rvl.1) (by omega) ?_
    rintro z M2 ⟨q, rfl⟩
    try simp only [kb_X0_quotient_27, w_ald_0, w_gf_2_0, tw_f, w_ald_1, w_gf_4_0, w_iv0, tfr_0, tfr_1, tfr_2, tfr_3, tfr_4, w_if_eq, w_ald_2, w_goto, true_and, and_true, Nat.reduceAdd, Nat.reduceSub, eq_self, tsh_78, tsh_79, tsh_109, tsh_110, tsh_111, tyk_4, tyk_2, tyk_10, tyk_3, tcq_4, tcq_2, tcq_10, tcq_3, hrs, hm1, hxs]
    refine ⟨by omega, fun h => ?_, fun h => ?_⟩
    · refine tb_X0_quotient_52 (c := false) ?_
      simp only [kb_X0_quotient_52, w_ald_2, w_gf_4_1, tw_f, w_nil, true_and, and_true, Nat.reduceAdd, Nat.reduceSub, eq_self, tsh_78, tsh_79, tsh_109, tsh_110, tsh_111, tyk_4, tyk_2, tyk_10, tyk_3, tcq_4, tcq_2, tcq_10, tcq_3, hxs]
      exact n56 (x1 + 2) h2' (bxl_2 h1) (by omega) wx.2 ⟨by omega, (nf s2.2).2⟩ (by rw [if_neg (by omega)])
    · exact n56 (x1 + 1) l2' (bxl_1 h1) (by omega) wx.1 ⟨p1, (nf s2.1).2⟩ (by rw [if_pos (by omega)])
  refine tb_X0_quotient_0 (c := false) ?_
  simp only [kb_X0_quotient_0, w_ald_2, w_iv0, tfr_0, tfr_1, tfr_2, tfr_3, tfr_4, w_if_eq, w_ic, w_ire, trg, true_and, and_true, Nat.reduceAdd, Nat.reduceSub, eq_self, tsh_78, tsh_79, tsh_109, tsh_110, tsh_111, tyk_4, tyk_2, tyk_10, tyk_3, tcq_4, tcq_2, tcq_10, tcq_3, hxs]
  refine tc_i (D := 1) (fun d' hd' => z_holdsZero h1 hw (NF_r r2.1) (NF_r r2.2) hd') (by omega) ?_
  rintro z M1 ⟨q, rfl⟩
  try simp only [kb_X0_quotient_0, w_ald_2, w_iv0, tfr_0, tfr_1, tfr_2, tfr_3, tfr_4, w_if_eq, w_ic, w_ire, trg, true_and, and_true, Nat.reduceAdd, Nat.reduceSub, eq_self, tsh_78, tsh_79, tsh_109, tsh_110, tsh_111, tyk_4, tyk_2, tyk_10, tyk_3, tcq_4, tcq_2, tcq_10, tcq_3, hxs]
  refine ⟨by omega, fun h => ?_, fun h => ?_⟩
  · have hnz : ¬ (l2 ≤ 0 ∧ 0 ≤ h2) := by omega
    refine tb_X0_quotient_9 (c := false) ?_
    simp only [kb_X0_quotient_9, w_ald_2, w_gf_4_1, tw_f, w_iv0, tfr_0, tfr_1, tfr_2, tfr_3, tfr_4, w_if_eq, w_ald_1, w_nil, true_and, and_true, Nat.reduceAdd, Nat.reduceSub, eq_self, tsh_78, tsh_79, tsh_109, tsh_110, tsh_111, tyk_4, tyk_2, tyk_10, tyk_3, tcq_4, tcq_2, tcq_10, tcq_3, hxs, hx2, hrs]
    refine tc_i (D := 0) (fun d' hd' => y_isNegative (bxl_2 h1) hw.2 (NF_r r2.2)) (by omega) ?_
    rintro z2 M2 ⟨q2, rfl⟩
    try simp only [kb_X0_quotient_9, w_ald_2, w_gf_4_1, tw_f, w_iv0, tfr_0, tfr_1, tfr_2, tfr_3, tfr_4, w_if_eq, w_ald_1, w_nil, true_and, and_true, Nat.reduceAdd, Nat.reduceSub, eq_self, tsh_78, tsh_79, tsh_109, tsh_110, tsh_111, tyk_4, tyk_2, tyk_10, tyk_3, tcq_4, tcq_2, tcq_10, tcq_3, hxs, hx2, hrs]
    refine ⟨by omega, fun h3 => ?_, fun h3 => ?_⟩
    · refine n27 M2 lo hi l2 h2 hv hw r1 r2 (by omega) hle ?_ ?_ hnz hro (AX_refl hC)
      · unfold qtL
        rw [if_neg (by omega)]
      · unfold qtH
        rw [if_neg (by omega)]
    · refine tc_n (D := 1) (fun d' hd' => z_turn (b := b) h0 hv (NF_r r1.1) (NF_r r1.2) hb hC hd') (by omega) ?_
      rintro M3 ⟨a1, a2⟩
      try simp only [kb_X0_quotient_9, w_ald_2, w_gf_4_1, tw_f, w_iv0, tfr_0, tfr_1, tfr_2, tfr_3, tfr_4, w_if_eq, w_ald_1, w_nil, true_and, and_true, Nat.reduceAdd, Nat.reduceSub, eq_self, tsh_78, tsh_79, tsh_109, tsh_110, tsh_111, tyk_4, tyk_2, tyk_10, tyk_3, tcq_4, tcq_2, tcq_10, tcq_3, hxs, hx2, hrs]
      refine tc_n (D := 1) (fun d' hd' => z_turn (b := b) h1 (BX_u hw h0 h1 hn a2.2) (NF_r r2.1) (NF_r r2.2) hb a2.1.1 hd') (by omega) ?_
      rintro M4 ⟨a3, a4⟩
      try simp only [kb_X0_quotient_9, w_ald_2, w_gf_4_1, tw_f, w_iv0, tfr_0, tfr_1, tfr_2, tfr_3, tfr_4, w_if_eq, w_ald_1, w_nil, true_and, and_true, Nat.reduceAdd, Nat.reduceSub, eq_self, tsh_78, tsh_79, tsh_109, tsh_110, tsh_111, tyk_4, tyk_2, tyk_10, tyk_3, tcq_4, tcq_2, tcq_10, tcq_3, hxs, hx2, hrs]
      have nn : ∀ {v : Int}, NF v → NF (-v) := fun h => by unfold NF at h ⊢; omega
      refine n27 M4 (-hi) (-lo) (-h2) (-l2) (BX_u a1 h1 h0 (Ne.symm hn) a4.2) a3 ⟨nn r1.2, nn r1.1⟩ ⟨nn r2.2, nn r2.1⟩ (by omega) (by omega) ?_ ?_ hnz (RO_b (RO_b hro a2 hr) a4 hx) (AX_tr (AX_r (AE_b a2)) (AX_x (AE_b a4)))
      · unfold qtL
        rw [if_pos (by omega)]
      · unfold qtH
        rw [if_pos (by omega)]
  · exact ⟨_, rfl, rfl, Or.inl ⟨rfl, by omega⟩, hro, AX_refl hC⟩
end HAND
