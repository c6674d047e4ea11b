/-! WHAT HOLDS BETWEEN CALLS: kept by area. -/
/-- a wide number -/
def WF (v : Int) : Prop := -100000000000000000000000 < v ∧ v < 100000000000000000000000
theorem WF_r {v : Int} (h : WF v) : RV v := by
  unfold WF at h
  unfold RV
  omega
theorem WF_n {v : Int} (h : NF v) : WF v := by
  unfold NF at h
  unfold WF
  omega
section HAND
variable {e : tE} {b d n : Nat} {M : tM}
theorem z_productW {r x1 : Nat} {lo hi l2 h2 : Int} (h0 : cl r 4) (h1 : cl x1 4) (hr : 111 < r) (hx : 111 < x1) (hn : r ≠ x1) (hv : BX M r lo hi) (hw : BX M x1 l2 h2) (r1 : WF lo ∧ WF hi) (r2 : WF l2 ∧ WF h2) (hu : UU (M 78 5)) (hro : RO M) (hb : b < 2) (hC : CI M) (hd : 4 ≤ d) : tC e d 517 [.inr (.inr (.inl 78)), .inr (.inr (.inl r)), .inr (.inr (.inl x1))] M n (tQi n (fun z M' => ∃ L H : Int, (BX M' r L H ∧ ST z L H) ∧ (z = 0 → L = dn (M 78 5) (pdL lo hi l2 h2) ∧ H = up (M 78 5) (pdH lo hi l2 h2)) ∧ RO M' ∧ AE b M M' r)) := by
  have hrs := h0.1
  have hm1 := (bxl_1 h0).1
  have hm2 := (bxl_2 h0).1
  have hxs := h1.1
  have hx1 := (bxl_1 h1).1
  have hx2 := (bxl_2 h1).1
  have hu1 := hu.1
  have hup : 0 < M 78 5 := by omega
  have nf : ∀ {v : Int}, WF v → (-100000000000000000000000 < v ∧ v < 100000000000000000000000) := fun h => h
  refine tst_X0_product ?_
  -- corner by corner
  have n27 : ∀ (s m : Nat), ((s = 1 ∧ lo = hi) ∨ s = 2) → ((m = s ∧ l2 = h2) ∨ m = 2 * s) → tT e d 517 27 [some (.inr (.inr (.inl (78)))), some (.inr (.inr (.inl (r)))), some (.inr (.inr (.inl (x1)))), some (.inl ((s : Int))), none, none] [.inl (m : Int)] M n (tQi n (fun z M' => ∃ L H : Int, (BX M' r L H ∧ ST z L H) ∧ (z = 0 → L = dn (M 78 5) (pdL lo hi l2 h2) ∧ H = up (M 78 5) (pdH lo hi l2 h2)) ∧ RO M' ∧ AE b M M' r)) := by
    intro s m hs hm
    have n177 : ∀ (M1 : tM) (T1 T2 : Int) (w5 : Option tV), BB M1 109 (dn (M 78 5) T1) → BB M1 110 (up (M 78 5) T2) → CM (cr lo hi l2 h2 s) m T1 T2 → RO M1 → AF b M M1 → tT e d 517 177 [some (.inr (.inr (.inl (78)))), some (.inr (.inr (.inl (r)))), some (.inr (.inr (.inl (x1)))), some (.inl ((s : Int))), some (.inl ((m : Int))), w5] [] M1 n (tQi n (fun z M' => ∃ L H : Int, (BX M' r L H ∧ ST z L H) ∧ (z = 0 → L = dn (M 78 5) (pdL lo hi l2 h2) ∧ H = up (M 78 5) (pdH lo hi l2 h2)) ∧ RO M' ∧ AE b M M' r)) := by
      intro M1 T1 T2 w5 k1 k2 k3 k4 k5
      have ra := (dn_rv hu k3.1).1
      have rb := (dn_rv hu k3.2.1).2
      refine tb_X0_product_177 (c := false) ?_
      simp only [kb_X0_product_177, w_ald_1, w_ald_0, w_gf_2_2, tw_f, w_gf_2_3, w_iv2, tfr_0, tfr_1, tfr_2, tfr_3, tfr_4, w_is1, w_ire, trg, true_and, and_true, Nat.reduceAdd, Nat.reduceSub, eq_self, tsh_78, tsh_79, tsh_109, tsh_110, tsh_111, tyk_4, tyk_2, tyk_10, tyk_3, tcq_4, tcq_2, tcq_10, tcq_3, hrs]
      refine tc_n (D := 1) (fun d' hd' => z_between (b := b) h0 cl_109 cl_110 k1 k2 (show 110 ≠ r + 1 by omega) hb k5.1.1 hd') (by omega) ?_
      rintro M2 ⟨q1, q2⟩
      try simp only [kb_X0_product_177, w_ald_1, w_ald_0, w_gf_2_2, tw_f, w_gf_2_3, w_iv2, tfr_0, tfr_1, tfr_2, tfr_3, tfr_4, w_is1, w_ire, trg, true_and, and_true, Nat.reduceAdd, Nat.reduceSub, eq_self, tsh_78, tsh_79, tsh_109, tsh_110, tsh_111, tyk_4, tyk_2, tyk_10, tyk_3, tcq_4, tcq_2, tcq_10, tcq_3, hrs]
      refine tc_i (D := 2) (fun d' hd' => z_judged h0 q1 ra rb hd') (by omega) ?_
      rintro z M3 ⟨q3, rfl⟩
      try simp only [kb_X0_product_177, w_ald_1, w_ald_0, w_gf_2_2, tw_f, w_gf_2_3, w_iv2, tfr_0, tfr_1, tfr_2, tfr_3, tfr_4, w_is1, w_ire, trg, true_and, and_true, Nat.reduceAdd, Nat.reduceSub, eq_self, tsh_78, tsh_79, tsh_109, tsh_110, tsh_111, tyk_4, tyk_2, tyk_10, tyk_3, tcq_4, tcq_2, tcq_10, tcq_3, hrs]
      refine ⟨_, rfl, rfl, _, _, ⟨q1, q3⟩, fun hz => ?_, RO_b k4 q2 hr, AE_tr (AE_F k5) (AE_b q2)⟩
      have nz : NF (dn (M 78 5) T1) ∧ NF (up (M 78 5) T2) := by
        rcases q3 with ⟨g, _⟩ | ⟨_, g⟩
        · omega
        · exact g
      have a1 : ¬ 20000000000000000000000 ≤ T2 := fun g => by
        have := up_far hup g
        have := nz.2.2
        omega
      have a2 : ¬ T1 ≤ -20000000000000000000000 := fun g => by
        have := dn_far hup g
        have := nz.1.1
        omega
      obtain ⟨c1, c2⟩ := CM_end hs hm k3 a1 a2
      rw [← c1, ← c2]
      exact ⟨rfl, rfl⟩
    have n32 : ∀ (fu : Nat) (M1 : tM) (j : Nat), m - j ≤ fu → j ≤ m → (j = 0 ∨ ∃ T1 T2 : Int, BB M1 109 (dn (M 78 5) T1) ∧ BB M1 110 (up (M 78 5) T2) ∧ CM (cr lo hi l2 h2 s) j T1 T2) → RO M1 → AF b M M1 → tT e d 517 32 [some (.inr (.inr (.inl (78)))), some (.inr (.inr (.inl (r)))), some (.inr (.inr (.inl (x1)))), some (.inl ((s : Int))), some (.inl ((m : Int))), some (.inl ((j : Int)))] [] M1 n (tQi n (fun z M' => ∃ L H : Int, (BX M' r L H ∧ ST z L H) ∧ (z = 0 → L = dn (M 78 5) (pdL lo hi l2 h2) ∧ H = up (M 78 5) (pdH lo hi l2 h2)) ∧ RO M' ∧ AE b M M' r)) := by
      intro fu
      induction fu with
      | zero =>
        intro M1 j hf hj k1 k2 k3
        have hje : j = m := by omega
        subst hje
        rcases k1 with k1 | ⟨T1, T2, g1, g2, g3⟩
        · exfalso
          omega
        · refine tb_X0_product_32 (c := false) ?_
          simp only [kb_X0_product_32, w_ild5, w_ild4, w_ic_ge, w_ald_0, w_gf_2_0, tw_f, w_ild_3, w_irem, w_if_ne, w_ald_1, w_gf_4_0, w_goto, true_and, and_true, Nat.reduceAdd, Nat.reduceSub, eq_self, tsh_78, tsh_79, tsh_109, tsh_110, tsh_111, tyk_4, tyk_2, tyk_10, tyk_3, tcq_4, tcq_2, tcq_10, tcq_3]
          repeat refine And.intro (by omega) ?_
          exact ⟨fun _ => n177 M1 T1 T2 _ g1 g2 g3 k2 k3, fun q => absurd (by omega) q⟩
      | succ fu ih =>
        intro M1 j hf hj k1 k2 k3
        rcases Nat.lt_or_ge j m with hlt | hge
        · have e5 : M1 78 5 = M 78 5 := UN_78 k3.1.2
          have vx : BX M1 r lo hi := BX_f hv (fun i => k3.2 _ i (by omega)) (fun i => k3.2 _ i (by omega))
          have wx : BX M1 x1 l2 h2 := BX_f hw (fun i => k3.2 _ i (by omega)) (fun i => k3.2 _ i (by omega))
          -- a corner is made
          have n78 : ∀ (cx cy : Nat) (xv yv : Int), cl cx 3 → cl cy 3 → 111 < cx → 111 < cy → BB M1 cx xv → BB M1 cy yv → WF xv → WF yv → cr lo hi l2 h2 s j = cd (xv * yv) 10000000000 → tT e d 517 78 [some (.inr (.inr (.inl (78)))), some (.inr (.inr (.inl (r)))), some (.inr (.inr (.inl (x1)))), some (.inl ((s : Int))), some (.inl ((m : Int))), some (.inl ((j : Int)))] [.inr (.inr (.inl cy)), .inr (.inr (.inl cx)), .inr (.inr (.inl 79))] M1 n (tQi n (fun z M' => ∃ L H : Int, (BX M' r L H ∧ ST z L H) ∧ (z = 0 → L = dn (M 78 5) (pdL lo hi l2 h2) ∧ H = up (M 78 5) (pdH lo hi l2 h2)) ∧ RO M' ∧ AE b M M' r)) := by
            intro cx cy xv yv a1 a2 a3 a4 a5 a6 a7 a8 a9
            refine tb_X0_product_78 (c := false) ?_
            simp only [kb_X0_product_78, w_iv2, tfr_0, tfr_1, tfr_2, tfr_3, tfr_4, w_ald_0, w_gf_2_0, tw_f, w_gf_2_4, w_gf_2_5, w_ild5, w_if_eq, w_gf_2_2, w_iv1, w_nil, true_and, and_true, Nat.reduceAdd, Nat.reduceSub, eq_self, tsh_78, tsh_79, tsh_109, tsh_110, tsh_111, tyk_4, tyk_2, tyk_10, tyk_3, tcq_4, tcq_2, tcq_10, tcq_3]
            refine tc_n (D := 2) (fun d' hd' => y_product (b := b) a1 a2 (by omega) (by omega) a5 a6 (nf a7) (nf a8) k2 hb k3.1.1 hd') (by omega) ?_
            rintro M2 ⟨⟨t, b1, b2⟩, b3, b4⟩
            have e52 : M2 78 5 = M 78 5 := (UN_78 b4.1.2).trans e5
            try simp only [kb_X0_product_78, w_iv2, tfr_0, tfr_1, tfr_2, tfr_3, tfr_4, w_ald_0, w_gf_2_0, tw_f, w_gf_2_4, w_gf_2_5, w_ild5, w_if_eq, w_gf_2_2, w_iv1, w_nil, true_and, and_true, Nat.reduceAdd, Nat.reduceSub, eq_self, tsh_78, tsh_79, tsh_109, tsh_110, tsh_111, tyk_4, tyk_2, tyk_10, tyk_3, tcq_4, tcq_2, tcq_10, tcq_3, e52]
            obtain ⟨t1, t2⟩ := b2
            rw [← a9] at t1
            have rt : RV t := by unfold RV; omega
            have tr := dn_rv hu t2
            refine tc_n (D := 1) (fun d' hd' => y_tellDown (b := b) cl_111 b1 rt hu (Or.inl hb) b4.1.1 hd') (by omega) ?_
            rintro M3 ⟨b5, b6⟩
            have e53 : M3 78 5 = M 78 5 := (UN_78 b6.2.1).trans e52
            try simp only [kb_X0_product_78, w_iv2, tfr_0, tfr_1, tfr_2, tfr_3, tfr_4, w_ald_0, w_gf_2_0, tw_f, w_gf_2_4, w_gf_2_5, w_ild5, w_if_eq, w_gf_2_2, w_iv1, w_nil, true_and, and_true, Nat.reduceAdd, Nat.reduceSub, eq_self, tsh_78, tsh_79, tsh_109, tsh_110, tsh_111, tyk_4, tyk_2, tyk_10, tyk_3, tcq_4, tcq_2, tcq_10, tcq_3]
            have R3 : RN M3 t := ⟨BB_u b1.1 (fun i => b6.2.2 80 i (by decide)), (b6.2.2 79 1 (by decide)).trans b1.2⟩
            have ro3 := RO_d b3 b6 (by decide)
            have af3 : AF b M M3 := AF_tr k3 (AF_tr (AF_R b4) (AF_d b6 (by decide)))
            -- the greatest
            have n126 : ∀ (M4 : tM) (T1 : Int), BB M4 109 (dn (M 78 5) T1) → (j = 0 → T1 = t) → (j ≠ 0 → ∃ T1' T2' : Int, T1 = min t T1' ∧ BB M4 110 (up (M 78 5) T2') ∧ CM (cr lo hi l2 h2 s) j T1' T2') → RN M4 t → RO M4 → AF b M M4 → tT e d 517 126 [some (.inr (.inr (.inl (78)))), some (.inr (.inr (.inl (r)))), some (.inr (.inr (.inl (x1)))), some (.inl ((s : Int))), some (.inl ((m : Int))), some (.inl ((j : Int)))] [] M4 n (tQi n (fun z M' => ∃ L H : Int, (BX M' r L H ∧ ST z L H) ∧ (z = 0 → L = dn (M 78 5) (pdL lo hi l2 h2) ∧ H = up (M 78 5) (pdH lo hi l2 h2)) ∧ RO M' ∧ AE b M M' r)) := by
              intro M4 T1 c1 c2 c3 c4 c5 c6
              have e54 : M4 78 5 = M 78 5 := UN_78 c6.1.2
              refine tb_X0_product_126 (c := false) ?_
              simp only [kb_X0_product_126, w_ald_0, w_gf_2_0, tw_f, w_gf_2_4, w_gf_2_5, w_iv2, tfr_0, tfr_1, tfr_2, tfr_3, tfr_4, w_ild5, w_if_eq, w_gf_2_3, w_iv1, w_nil, true_and, and_true, Nat.reduceAdd, Nat.reduceSub, eq_self, tsh_78, tsh_79, tsh_109, tsh_110, tsh_111, tyk_4, tyk_2, tyk_10, tyk_3, tcq_4, tcq_2, tcq_10, tcq_3, e54]
              refine tc_n (D := 1) (fun d' hd' => y_tellUp (b := b) cl_111 c4 rt hu (Or.inl hb) c6.1.1 hd') (by omega) ?_
              rintro M5 ⟨c7, c8⟩
              try simp only [kb_X0_product_126, w_ald_0, w_gf_2_0, tw_f, w_gf_2_4, w_gf_2_5, w_iv2, tfr_0, tfr_1, tfr_2, tfr_3, tfr_4, w_ild5, w_if_eq, w_gf_2_3, w_iv1, w_nil, true_and, and_true, Nat.reduceAdd, Nat.reduceSub, eq_self, tsh_78, tsh_79, tsh_109, tsh_110, tsh_111, tyk_4, tyk_2, tyk_10, tyk_3, tcq_4, tcq_2, tcq_10, tcq_3]
              have l5 : BB M5 109 (dn (M 78 5) T1) := BB_u c1 (fun i => c8.2.2 109 i (by decide))
              have ro5 := RO_d c5 c8 (by decide)
              have af5 : AF b M M5 := AF_tr c6 (AF_d c8 (by decide))
              have n171 : ∀ (M6 : tM) (T1 T2 : Int), BB M6 109 (dn (M 78 5) T1) → BB M6 110 (up (M 78 5) T2) → CM (cr lo hi l2 h2 s) (j + 1) T1 T2 → RO M6 → AF b M M6 → tT e d 517 171 [some (.inr (.inr (.inl (78)))), some (.inr (.inr (.inl (r)))), some (.inr (.inr (.inl (x1)))), some (.inl ((s : Int))), some (.inl ((m : Int))), some (.inl ((j : Int)))] [] M6 n (tQi n (fun z M' => ∃ L H : Int, (BX M' r L H ∧ ST z L H) ∧ (z = 0 → L = dn (M 78 5) (pdL lo hi l2 h2) ∧ H = up (M 78 5) (pdH lo hi l2 h2)) ∧ RO M' ∧ AE b M M' r)) := by
                intro M6 T1 T2 d1 d2 d3 d4 d5
                refine tb_X0_product_171 (c := false) ?_
                simp only [kb_X0_product_171, w_inc5, tkl_n, tkl_i, tkl_l, tkl_r, w_goto, true_and, and_true, Nat.reduceAdd, Nat.reduceSub, eq_self]
                repeat refine And.intro (by omega) ?_
                rw [show ((j : Nat) : Int) + 1 = ((j + 1 : Nat) : Int) by omega]
                exact ih M6 (j + 1) (by omega) (by omega) (Or.inr ⟨T1, T2, d1, d2, d3⟩) d4 d5
              have n160 : ∀ (T2 : Int), T2 = t → CM (cr lo hi l2 h2 s) (j + 1) T1 T2 → tT e d 517 160 [some (.inr (.inr (.inl (78)))), some (.inr (.inr (.inl (r)))), some (.inr (.inr (.inl (x1)))), some (.inl ((s : Int))), some (.inl ((m : Int))), some (.inl ((j : Int)))] [] M5 n (tQi n (fun z M' => ∃ L H : Int, (BX M' r L H ∧ ST z L H) ∧ (z = 0 → L = dn (M 78 5) (pdL lo hi l2 h2) ∧ H = up (M 78 5) (pdH lo hi l2 h2)) ∧ RO M' ∧ AE b M M' r)) := by
                intro T2 hT d1
                refine tb_X0_product_160 (c := false) ?_
                simp only [kb_X0_product_160, w_ald_0, w_gf_2_3, tw_f, w_gf_2_4, w_iv1, tfr_0, tfr_1, tfr_2, tfr_3, tfr_4, w_nil, true_and, and_true, Nat.reduceAdd, Nat.reduceSub, eq_self, tsh_78, tsh_79, tsh_109, tsh_110, tsh_111, tyk_4, tyk_2, tyk_10, tyk_3, tcq_4, tcq_2, tcq_10, tcq_3]
                refine tc_n (D := 0) (fun d' hd' => y_copy (b := b) cl_110 cl_111 c7 (Or.inl hb) c8.1) (by omega) ?_
                rintro M6 ⟨d2, d3⟩
                try simp only [kb_X0_product_160, w_ald_0, w_gf_2_3, tw_f, w_gf_2_4, w_iv1, tfr_0, tfr_1, tfr_2, tfr_3, tfr_4, w_nil, true_and, and_true, Nat.reduceAdd, Nat.reduceSub, eq_self, tsh_78, tsh_79, tsh_109, tsh_110, tsh_111, tyk_4, tyk_2, tyk_10, tyk_3, tcq_4, tcq_2, tcq_10, tcq_3]
                refine n171 M6 T1 T2 (BB_u l5 (fun i => d3.2.2 109 i (by decide))) ?_ d1 (RO_d ro5 d3 (by decide)) (AF_tr af5 (AF_d d3 (by decide)))
                rw [hT]
                exact d2
              repeat refine And.intro (by omega) ?_
              refine ⟨fun q => ?_, fun q => ?_⟩
              · have hj0 : j = 0 := by omega
                have hT := c2 hj0
                refine n160 t rfl ?_
                rw [hT, hj0]
                rw [hj0] at t1
                exact CM_1 t1 t2
              · obtain ⟨T1', T2', d1, d2, d3⟩ := c3 (by omega)
                have d25 : BB M5 110 (up (M 78 5) T2') := BB_u d2 (fun i => c8.2.2 110 i (by decide))
                refine tc_i (D := 0) (fun d' hd' => y_isBelow cl_110 cl_111 d25 c7 (dn_rv hu d3.2.1).2 tr.2) (by omega) ?_
                rintro z M6 ⟨d4, rfl⟩
                try simp only [kb_X0_product_126, w_ald_0, w_gf_2_0, tw_f, w_gf_2_4, w_gf_2_5, w_iv2, tfr_0, tfr_1, tfr_2, tfr_3, tfr_4, w_ild5, w_if_eq, w_gf_2_3, w_iv1, w_nil, true_and, and_true, Nat.reduceAdd, Nat.reduceSub, eq_self, tsh_78, tsh_79, tsh_109, tsh_110, tsh_111, tyk_4, tyk_2, tyk_10, tyk_3, tcq_4, tcq_2, tcq_10, tcq_3]
                have cm := CM_s d3 t1 t2
                rw [← d1] at cm
                refine ⟨by omega, fun q2 => ?_, fun q2 => ?_⟩
                · have hle : up (M 78 5) t ≤ up (M 78 5) T2' := by omega
                  refine n171 M6 T1 (max T2' t) l5 ?_ cm ro5 af5
                  rw [up_max hup, Int.max_eq_left hle]
                  exact d25
                · have hle : up (M 78 5) T2' ≤ up (M 78 5) t := by omega
                  refine tb_X0_product_160 (c := false) ?_
                  simp only [kb_X0_product_160, w_ald_0, w_gf_2_3, tw_f, w_gf_2_4, w_iv1, tfr_0, tfr_1, tfr_2, tfr_3, tfr_4, w_nil, true_and, and_true, Nat.reduceAdd, Nat.reduceSub, eq_self, tsh_78, tsh_79, tsh_109, tsh_110, tsh_111, tyk_4, tyk_2, tyk_10, tyk_3, tcq_4, tcq_2, tcq_10, tcq_3]
                  refine tc_n (D := 0) (fun d' hd' => y_copy (b := b) cl_110 cl_111 c7 (Or.inl hb) c8.1) (by omega) ?_
                  rintro M7 ⟨d5, d6⟩
                  try simp only [kb_X0_product_160, w_ald_0, w_gf_2_3, tw_f, w_gf_2_4, w_iv1, tfr_0, tfr_1, tfr_2, tfr_3, tfr_4, w_nil, true_and, and_true, Nat.reduceAdd, Nat.reduceSub, eq_self, tsh_78, tsh_79, tsh_109, tsh_110, tsh_111, tyk_4, tyk_2, tyk_10, tyk_3, tcq_4, tcq_2, tcq_10, tcq_3]
                  refine n171 M7 T1 (max T2' t) (BB_u l5 (fun i => d6.2.2 109 i (by decide))) ?_ cm (RO_d ro5 d6 (by decide)) (AF_tr af5 (AF_d d6 (by decide)))
                  rw [up_max hup, Int.max_eq_right hle]
                  exact d5
            repeat refine And.intro (by omega) ?_
            refine ⟨fun q => ?_, fun q => ?_⟩
            · have hj0 : j = 0 := by omega
              refine tb_X0_product_115 (c := false) ?_
              simp only [kb_X0_product_115, w_ald_0, w_gf_2_2, tw_f, w_gf_2_4, w_iv1, tfr_0, tfr_1, tfr_2, tfr_3, tfr_4, w_nil, true_and, and_true, Nat.reduceAdd, Nat.reduceSub, eq_self, tsh_78, tsh_79, tsh_109, tsh_110, tsh_111, tyk_4, tyk_2, tyk_10, tyk_3, tcq_4, tcq_2, tcq_10, tcq_3]
              refine tc_n (D := 0) (fun d' hd' => y_copy (b := b) cl_109 cl_111 b5 (Or.inl hb) b6.1) (by omega) ?_
              rintro M4 ⟨d2, d3⟩
              try simp only [kb_X0_product_115, w_ald_0, w_gf_2_2, tw_f, w_gf_2_4, w_iv1, tfr_0, tfr_1, tfr_2, tfr_3, tfr_4, w_nil, true_and, and_true, Nat.reduceAdd, Nat.reduceSub, eq_self, tsh_78, tsh_79, tsh_109, tsh_110, tsh_111, tyk_4, tyk_2, tyk_10, tyk_3, tcq_4, tcq_2, tcq_10, tcq_3]
              exact n126 M4 t d2 (fun _ => rfl) (fun q2 => absurd hj0 q2) ⟨BB_u R3.1 (fun i => d3.2.2 80 i (by decide)), (d3.2.2 79 1 (by decide)).trans R3.2⟩ (RO_d ro3 d3 (by decide)) (AF_tr af3 (AF_d d3 (by decide)))
            · obtain ⟨T1', T2', d1, d2, d3⟩ := k1.resolve_left (by omega)
              have l3 : BB M3 109 (dn (M 78 5) T1') := BB_u d1 (fun i => (b6.2.2 109 i (by decide)).trans (b4.2 109 i (by decide)))
              have g3 : BB M3 110 (up (M 78 5) T2') := BB_u d2 (fun i => (b6.2.2 110 i (by decide)).trans (b4.2 110 i (by decide)))
              refine tc_i (D := 0) (fun d' hd' => y_isBelow cl_111 cl_109 b5 l3 tr.1 (dn_rv hu d3.1).1) (by omega) ?_
              rintro z M4 ⟨d4, rfl⟩
              try simp only [kb_X0_product_78, w_iv2, tfr_0, tfr_1, tfr_2, tfr_3, tfr_4, w_ald_0, w_gf_2_0, tw_f, w_gf_2_4, w_gf_2_5, w_ild5, w_if_eq, w_gf_2_2, w_iv1, w_nil, true_and, and_true, Nat.reduceAdd, Nat.reduceSub, eq_self, tsh_78, tsh_79, tsh_109, tsh_110, tsh_111, tyk_4, tyk_2, tyk_10, tyk_3, tcq_4, tcq_2, tcq_10, tcq_3]
              refine ⟨by omega, fun q2 => ?_, fun q2 => ?_⟩
              · have hle : dn (M 78 5) T1' ≤ dn (M 78 5) t := by omega
                refine n126 M4 (min t T1') ?_ (fun q3 => absurd q3 (by omega)) (fun _ => ⟨T1', T2', rfl, g3, d3⟩) R3 ro3 af3
                rw [dn_min hup, Int.min_eq_right hle]
                exact l3
              · have hle : dn (M 78 5) t ≤ dn (M 78 5) T1' := by omega
                refine tb_X0_product_115 (c := false) ?_
                simp only [kb_X0_product_115, w_ald_0, w_gf_2_2, tw_f, w_gf_2_4, w_iv1, tfr_0, tfr_1, tfr_2, tfr_3, tfr_4, w_nil, true_and, and_true, Nat.reduceAdd, Nat.reduceSub, eq_self, tsh_78, tsh_79, tsh_109, tsh_110, tsh_111, tyk_4, tyk_2, tyk_10, tyk_3, tcq_4, tcq_2, tcq_10, tcq_3]
                refine tc_n (D := 0) (fun d' hd' => y_copy (b := b) cl_109 cl_111 b5 (Or.inl hb) b6.1) (by omega) ?_
                rintro M5 ⟨d5, d6⟩
                try simp only [kb_X0_product_115, w_ald_0, w_gf_2_2, tw_f, w_gf_2_4, w_iv1, tfr_0, tfr_1, tfr_2, tfr_3, tfr_4, w_nil, true_and, and_true, Nat.reduceAdd, Nat.reduceSub, eq_self, tsh_78, tsh_79, tsh_109, tsh_110, tsh_111, tyk_4, tyk_2, tyk_10, tyk_3, tcq_4, tcq_2, tcq_10, tcq_3]
                refine n126 M5 (min t T1') ?_ (fun q3 => absurd q3 (by omega)) (fun _ => ⟨T1', T2', rfl, BB_u g3 (fun i => d6.2.2 110 i (by decide)), d3⟩) ⟨BB_u R3.1 (fun i => d6.2.2 80 i (by decide)), (d6.2.2 79 1 (by decide)).trans R3.2⟩ (RO_d ro3 d6 (by decide)) (AF_tr af3 (AF_d d6 (by decide)))
                rw [dn_min hup, Int.min_eq_left hle]
                exact d5
          -- the sides of the corner
          have n61 : ∀ (cx : Nat) (xv : Int), cl cx 3 → 111 < cx → BB M1 cx xv → WF xv → xv = (if j % s = 0 then lo else hi) → tT e d 517 61 [some (.inr (.inr (.inl (78)))), some (.inr (.inr (.inl (r)))), some (.inr (.inr (.inl (x1)))), some (.inl ((s : Int))), some (.inl ((m : Int))), some (.inl ((j : Int)))] [.inr (.inr (.inl cx)), .inr (.inr (.inl 79))] M1 n (tQi n (fun z M' => ∃ L H : Int, (BX M' r L H ∧ ST z L H) ∧ (z = 0 → L = dn (M 78 5) (pdL lo hi l2 h2) ∧ H = up (M 78 5) (pdH lo hi l2 h2)) ∧ RO M' ∧ AE b M M' r)) := by
            intro cx xv a1 a2 a3 a4 a5
            refine tb_X0_product_61 (c := false) ?_
            simp only [kb_X0_product_61, w_ild5, w_ild_3, w_ic_ge, w_ald_2, w_gf_4_0, tw_f, w_goto, true_and, and_true, Nat.reduceAdd, Nat.reduceSub, eq_self, tsh_78, tsh_79, tsh_109, tsh_110, tsh_111, tyk_4, tyk_2, tyk_10, tyk_3, tcq_4, tcq_2, tcq_10, tcq_3, hxs, hx1, hx2]
            repeat refine And.intro (by omega) ?_
            refine ⟨fun q => ?_, fun q => ?_⟩
            · refine tb_X0_product_74 (c := false) ?_
              simp only [kb_X0_product_74, w_ald_2, w_gf_4_1, tw_f, w_nil, true_and, and_true, Nat.reduceAdd, Nat.reduceSub, eq_self, tsh_78, tsh_79, tsh_109, tsh_110, tsh_111, tyk_4, tyk_2, tyk_10, tyk_3, tcq_4, tcq_2, tcq_10, tcq_3, hxs, hx1, hx2]
              refine n78 cx (x1 + 2) xv h2 a1 (bxl_2 h1) a2 (by omega) a3 wx.2 a4 r2.2 ?_
              unfold cr
              rw [← a5, if_neg (by omega)]
            · refine n78 cx (x1 + 1) xv l2 a1 (bxl_1 h1) a2 (by omega) a3 wx.1 a4 r2.1 ?_
              unfold cr
              rw [← a5, if_pos (by omega)]
          have em : ((j : Nat) : Int).tmod (s : Int) = ((j % s : Nat) : Int) := by
            rw [Int.tmod_eq_emod_of_nonneg (by omega)]
            exact (Int.natCast_emod j s).symm
          refine tb_X0_product_32 (c := false) ?_
          simp only [kb_X0_product_32, w_ild5, w_ild4, w_ic_ge, w_ald_0, w_gf_2_0, tw_f, w_ild_3, w_irem, w_if_ne, w_ald_1, w_gf_4_0, w_goto, true_and, and_true, Nat.reduceAdd, Nat.reduceSub, eq_self, tsh_78, tsh_79, tsh_109, tsh_110, tsh_111, tyk_4, tyk_2, tyk_10, tyk_3, tcq_4, tcq_2, tcq_10, tcq_3, hrs, hm1, hm2]
          repeat refine And.intro (by omega) ?_
          first | refine ⟨fun q => absurd q (by omega), fun _ => ?_⟩ | refine fun _ => ?_
          rw [em]
          have hms := Nat.mod_le j s
          repeat refine And.intro (by omega) ?_
          refine ⟨fun q => ?_, fun q => ?_⟩
          · refine tb_X0_product_57 (c := false) ?_
            simp only [kb_X0_product_57, w_ald_1, w_gf_4_1, tw_f, w_nil, true_and, and_true, Nat.reduceAdd, Nat.reduceSub, eq_self, tsh_78, tsh_79, tsh_109, tsh_110, tsh_111, tyk_4, tyk_2, tyk_10, tyk_3, tcq_4, tcq_2, tcq_10, tcq_3, hrs, hm1, hm2]
            exact n61 (r + 2) hi (bxl_2 h0) (by omega) vx.2 r1.2 (by rw [if_neg (by omega)])
          · exact n61 (r + 1) lo (bxl_1 h0) (by omega) vx.1 r1.1 (by rw [if_pos (by omega)])
        · have hje : j = m := by omega
          subst hje
          rcases k1 with k1 | ⟨T1, T2, g1, g2, g3⟩
          · exfalso
            omega
          · refine tb_X0_product_32 (c := false) ?_
            simp only [kb_X0_product_32, w_ild5, w_ild4, w_ic_ge, w_ald_0, w_gf_2_0, tw_f, w_ild_3, w_irem, w_if_ne, w_ald_1, w_gf_4_0, w_goto, true_and, and_true, Nat.reduceAdd, Nat.reduceSub, eq_self, tsh_78, tsh_79, tsh_109, tsh_110, tsh_111, tyk_4, tyk_2, tyk_10, tyk_3, tcq_4, tcq_2, tcq_10, tcq_3]
            repeat refine And.intro (by omega) ?_
            exact ⟨fun _ => n177 M1 T1 T2 _ g1 g2 g3 k2 k3, fun q => absurd (by omega) q⟩
    refine tb_X0_product_27 (c := false) ?_
    simp only [kb_X0_product_27, w_ist4, tkl_n, tkl_i, tkl_l, tkl_r, w_ic, w_ist5, w_nil, true_and, and_true, Nat.reduceAdd, Nat.reduceSub, eq_self]
    repeat refine And.intro (by omega) ?_
    exact n32 m M 0 (by omega) (by omega) (Or.inl rfl) hro (AF_refl hC)
  have n12 : ∀ (s : Nat), ((s = 1 ∧ lo = hi) ∨ s = 2) → tT e d 517 12 [some (.inr (.inr (.inl (78)))), some (.inr (.inr (.inl (r)))), some (.inr (.inr (.inl (x1)))), none, none, none] [.inl (s : Int)] M n (tQi n (fun z M' => ∃ L H : Int, (BX M' r L H ∧ ST z L H) ∧ (z = 0 → L = dn (M 78 5) (pdL lo hi l2 h2) ∧ H = up (M 78 5) (pdH lo hi l2 h2)) ∧ RO M' ∧ AE b M M' r)) := by
    intro s hs
    refine tb_X0_product_12 (c := false) ?_
    simp only [kb_X0_product_12, w_ist_3, tkl_n, tkl_i, tkl_l, tkl_r, w_ald_2, w_iv0, tfr_0, tfr_1, tfr_2, tfr_3, tfr_4, w_if_eq, w_ild_3, w_goto, true_and, and_true, Nat.reduceAdd, Nat.reduceSub, eq_self, tsh_78, tsh_79, tsh_109, tsh_110, tsh_111, tyk_4, tyk_2, tyk_10, tyk_3, tcq_4, tcq_2, tcq_10, tcq_3, hxs]
    repeat refine And.intro (by omega) ?_
    refine tc_i (D := 2) (fun d' hd' => z_isSingle h1 hw (WF_r r2.1) (WF_r r2.2) hd') (by omega) ?_
    rintro z M1 ⟨q, rfl⟩
    try simp only [kb_X0_product_12, w_ist_3, tkl_n, tkl_i, tkl_l, tkl_r, w_ald_2, w_iv0, tfr_0, tfr_1, tfr_2, tfr_3, tfr_4, w_if_eq, w_ild_3, w_goto, true_and, and_true, Nat.reduceAdd, Nat.reduceSub, eq_self, tsh_78, tsh_79, tsh_109, tsh_110, tsh_111, tyk_4, tyk_2, tyk_10, tyk_3, tcq_4, tcq_2, tcq_10, tcq_3, hxs]
    refine ⟨by omega, fun h => ?_, fun h => ?_⟩
    · refine tb_X0_product_24 (c := false) ?_
      simp only [kb_X0_product_24, w_ic, w_ild_3, w_imul, w_nil, true_and, and_true, Nat.reduceAdd, Nat.reduceSub, eq_self]
      repeat refine And.intro (by omega) ?_
      rw [show (2 : Int) * (s : Int) = ((2 * s : Nat) : Int) by omega]
      exact n27 s (2 * s) hs (Or.inr rfl)
    · exact n27 s s hs (Or.inl ⟨rfl, by omega⟩)
  refine tb_X0_product_0 (c := false) ?_
  simp only [kb_X0_product_0, w_ald_1, w_iv0, tfr_0, tfr_1, tfr_2, tfr_3, tfr_4, w_if_eq, w_ic, w_goto, true_and, and_true, Nat.reduceAdd, Nat.reduceSub, eq_self, tsh_78, tsh_79, tsh_109, tsh_110, tsh_111, tyk_4, tyk_2, tyk_10, tyk_3, tcq_4, tcq_2, tcq_10, tcq_3, hrs]
  refine tc_i (D := 2) (fun d' hd' => z_isSingle h0 hv (WF_r r1.1) (WF_r r1.2) hd') (by omega) ?_
  rintro z M1 ⟨q, rfl⟩
  try simp only [kb_X0_product_0, w_ald_1, w_iv0, tfr_0, tfr_1, tfr_2, tfr_3, tfr_4, w_if_eq, w_ic, w_goto, true_and, and_true, Nat.reduceAdd, Nat.reduceSub, eq_self, tsh_78, tsh_79, tsh_109, tsh_110, tsh_111, tyk_4, tyk_2, tyk_10, tyk_3, tcq_4, tcq_2, tcq_10, tcq_3, hrs]
  refine ⟨by omega, fun h => ?_, fun h => ?_⟩
  · refine tb_X0_product_11 (c := false) ?_
    simp only [kb_X0_product_11, w_ic, w_nil, true_and, and_true, Nat.reduceAdd, Nat.reduceSub, eq_self]
    exact n12 2 (Or.inr rfl)
  · exact n12 1 (Or.inl ⟨rfl, by omega⟩)
/-- the stack with a wide box on top -/
def SKV (M : tM) (m : Nat) (B : Nat → Int × Int) (w : Int × Int) : Prop := M 77 2 = ((m + 1 : Nat) : Int) ∧ (∀ i : Nat, i < m → BX M (113 + 3 * i) (B i).1 (B i).2 ∧ GBX (B i)) ∧ BX M (113 + 3 * m) w.1 w.2
theorem z_star {m : Nat} {B : Nat → Int × Int} {w : Int × Int} (hm : 1 ≤ m ∧ m < 127) (hs : SKV M m B w) (hw : WF w.1 ∧ WF w.2) (hu : UU (M 78 5)) (hro : RO M) (hb : b < 2) (hC : CI M) (hd : 7 ≤ d) : tC e d 2055 [.inr (.inr (.inl 77)), .inl 42, .inr (.inl 0), .inl 0] M n (tQi n (fun z M' => (0 ≤ z ∧ z ≤ 2) ∧ (z = 0 → ∃ B' : Nat → Int × Int, SK M' m B') ∧ RO M' ∧ MKF b M M')) := by
  have hm0 := hs.1
  have hu1 := hu.1
  refine tst_X6_make ?_
  refine tb_X6_make_0 (c := false) ?_
  simp only [kb_X6_make_0, w_ald_0, w_gf_8_2, tw_f, w_si, w_ic_lt, w_ic, w_ire, trg, true_and, and_true, Nat.reduceAdd, Nat.reduceSub, eq_self, tsh_77, tsh_112, tyk_25, tel_4, tqo_112, tyk_8, tcq_8, tsh_78, tyk_2, tcq_2, tyk_4, tcq_4, hm0]
  repeat refine And.intro (by omega) ?_
  refine ⟨fun _ => ?_, fun q => absurd (by omega) q⟩
  refine tb_X6_make_12 (c := false) ?_
  simp only [kb_X6_make_12, w_ald_0, w_gf_8_2, tw_f, w_ic, w_isub, w_iv1, tfr_0, tfr_1, tfr_2, tfr_3, tfr_4, w_ast5, tkl_n, tkl_i, tkl_l, tkl_r, w_ast6, w_ast7, w_ild_1, w_is1, w_if_eq, w_ic_le, w_dupi, w_dupr, w_pf_8_2, w_nil, true_and, and_true, Nat.reduceAdd, Nat.reduceSub, eq_self, tsh_77, tsh_112, tyk_25, tel_4, tqo_112, tyk_8, tcq_8, tsh_78, tyk_2, tcq_2, tyk_4, tcq_4, hm0]
  repeat refine And.intro (by omega) ?_
  refine tc_r (D := 0) (fun d' hd' => z_at (p := ((m + 1 : Nat) : Int) - 2) (by omega)) (by omega) ?_
  rintro x5 M1 ⟨h5, rfl⟩
  try simp only [kb_X6_make_12, w_ald_0, w_gf_8_2, tw_f, w_ic, w_isub, w_iv1, tfr_0, tfr_1, tfr_2, tfr_3, tfr_4, w_ast5, tkl_n, tkl_i, tkl_l, tkl_r, w_ast6, w_ast7, w_ild_1, w_is1, w_if_eq, w_ic_le, w_dupi, w_dupr, w_pf_8_2, w_nil, true_and, and_true, Nat.reduceAdd, Nat.reduceSub, eq_self, tsh_77, tsh_112, tyk_25, tel_4, tqo_112, tyk_8, tcq_8, tsh_78, tyk_2, tcq_2, tyk_4, tcq_4, hm0]
  repeat refine And.intro (by omega) ?_
  refine tc_r (D := 0) (fun d' hd' => z_at (p := ((m + 1 : Nat) : Int) - 1) (by omega)) (by omega) ?_
  rintro x6 M2 ⟨h6, rfl⟩
  try simp only [kb_X6_make_12, w_ald_0, w_gf_8_2, tw_f, w_ic, w_isub, w_iv1, tfr_0, tfr_1, tfr_2, tfr_3, tfr_4, w_ast5, tkl_n, tkl_i, tkl_l, tkl_r, w_ast6, w_ast7, w_ild_1, w_is1, w_if_eq, w_ic_le, w_dupi, w_dupr, w_pf_8_2, w_nil, true_and, and_true, Nat.reduceAdd, Nat.reduceSub, eq_self, tsh_77, tsh_112, tyk_25, tel_4, tqo_112, tyk_8, tcq_8, tsh_78, tyk_2, tcq_2, tyk_4, tcq_4, hm0]
  refine tc_r (D := 0) (fun d' hd' => z_at (p := ((m + 1 : Nat) : Int)) (by omega)) (by omega) ?_
  rintro x7 M3 ⟨h7, rfl⟩
  have e7 : x7 = 113 + 3 * (m + 1) := by rw [h7]; unfold csA; rw [if_pos (by omega), nat_n]
  subst e7
  try simp only [kb_X6_make_12, w_ald_0, w_gf_8_2, tw_f, w_ic, w_isub, w_iv1, tfr_0, tfr_1, tfr_2, tfr_3, tfr_4, w_ast5, tkl_n, tkl_i, tkl_l, tkl_r, w_ast6, w_ast7, w_ild_1, w_is1, w_if_eq, w_ic_le, w_dupi, w_dupr, w_pf_8_2, w_nil, true_and, and_true, Nat.reduceAdd, Nat.reduceSub, eq_self, tsh_77, tsh_112, tyk_25, tel_4, tqo_112, tyk_8, tcq_8, tsh_78, tyk_2, tcq_2, tyk_4, tcq_4, hm0]
  refine tc_i (D := 0) (fun d' hd' => z_isPair (by decide)) (by omega) ?_
  rintro z M4 ⟨hz, rfl⟩
  try simp only [kb_X6_make_12, w_ald_0, w_gf_8_2, tw_f, w_ic, w_isub, w_iv1, tfr_0, tfr_1, tfr_2, tfr_3, tfr_4, w_ast5, tkl_n, tkl_i, tkl_l, tkl_r, w_ast6, w_ast7, w_ild_1, w_is1, w_if_eq, w_ic_le, w_dupi, w_dupr, w_pf_8_2, w_nil, true_and, and_true, Nat.reduceAdd, Nat.reduceSub, eq_self, tsh_77, tsh_112, tyk_25, tel_4, tqo_112, tyk_8, tcq_8, tsh_78, tyk_2, tcq_2, tyk_4, tcq_4, hm0]
  have e5 : x5 = 113 + 3 * (m - 1) := by rw [h5]; unfold csA; rw [if_pos (by omega)]; omega
  have e6 : x6 = 113 + 3 * m := by rw [h6]; unfold csA; rw [if_pos (by omega)]; omega
  subst e5
  subst e6
  have hz1 : z = 1 := by omega
  subst hz1
  repeat refine And.intro (by omega) ?_
  first | refine ⟨fun q => absurd q (by omega), fun _ => ?_⟩ | refine fun _ => ?_
  repeat refine And.intro (by omega) ?_
  first | refine ⟨fun q => absurd q (by omega), fun _ => ?_⟩ | refine fun _ => ?_
  repeat refine And.intro (by omega) ?_
  have ft := MKF_top (b := b) (v := ((m + 1 : Nat) : Int) - 1) hb hC (by omega)
  have t77 : tU M4 77 2 (((m + 1 : Nat) : Int) - 1) 77 2 = (m : Int) := by rw [tU_eq]; omega
  have t78 : tU M4 77 2 (((m + 1 : Nat) : Int) - 1) 78 5 = M4 78 5 := tU_nk (by decide)
  have tro : RO (tU M4 77 2 (((m + 1 : Nat) : Int) - 1)) := RO_u hro (tU_nk (by decide)) (tU_nk (by decide))
  have tk : ∀ (k : Nat) (i : Int), k ≠ 77 → tU M4 77 2 (((m + 1 : Nat) : Int) - 1) k i = M4 k i := fun k i q => tU_nk q
  generalize tU M4 77 2 (((m + 1 : Nat) : Int) - 1) = M5 at ft t77 t78 tro tk ⊢
  have c5 := cl_cs (i := m - 1) (by omega)
  have c6 := cl_cs (i := m) (by omega)
  have g5 := hs.2.1 (m - 1) (by omega)
  have v5 : BX M5 (113 + 3 * (m - 1)) (B (m - 1)).1 (B (m - 1)).2 := BX_f g5.1 (fun j => tk _ _ (by omega)) (fun j => tk _ _ (by omega))
  have v6 : BX M5 (113 + 3 * m) w.1 w.2 := BX_f hs.2.2 (fun j => tk _ _ (by omega)) (fun j => tk _ _ (by omega))
  have s5 := c5.1
  have s6 := c6.1
  have ne56 : 113 + 3 * (m - 1) ≠ 113 + 3 * m := by omega
  refine tb_X6_make_71 (c := false) ?_
  simp only [kb_X6_make_71, w_ild_1, w_sw, tsw, true_and, and_true, Nat.reduceAdd, Nat.reduceSub, eq_self]
  refine ⟨by omega, ?_⟩
  repeat refine ⟨fun h => absurd h (by decide), fun _ => ?_⟩
  refine ⟨fun _ => ?_, fun h => absurd rfl h⟩
  show tT e d 2055 274 _ _ _ _ _
  refine tb_X6_make_274 (c := false) ?_
  simp only [kb_X6_make_274, w_ald_0, w_gf_8_0, tw_f, w_ald5, w_ald6, w_iv2, tfr_0, tfr_1, tfr_2, tfr_3, tfr_4, w_ire, trg, true_and, and_true, Nat.reduceAdd, Nat.reduceSub, eq_self, tsh_77, tsh_112, tyk_25, tel_4, tqo_112, tyk_8, tcq_8, tsh_78, tyk_2, tcq_2, tyk_4, tcq_4, s5, s6]
  refine tc_i (D := 4) (fun d' hd' => z_productW (b := b) c5 c6 (by omega) (by omega) ne56 v5 v6 ⟨WF_n g5.2.1.1, WF_n g5.2.1.2⟩ hw (by rw [t78]; exact hu) tro hb ft.1.1 hd') (by omega) ?_
  rintro z M6 ⟨L, H, ⟨q1, q2⟩, q3, q4, q5⟩
  try simp only [kb_X6_make_274, w_ald_0, w_gf_8_0, tw_f, w_ald5, w_ald6, w_iv2, tfr_0, tfr_1, tfr_2, tfr_3, tfr_4, w_ire, trg, true_and, and_true, Nat.reduceAdd, Nat.reduceSub, eq_self, tsh_77, tsh_112, tyk_25, tel_4, tqo_112, tyk_8, tcq_8, tsh_78, tyk_2, tcq_2, tyk_4, tcq_4, s5, s6]
  rw [t78] at q3
  refine ⟨_, rfl, rfl, ST_2 q2, fun hz0 => ?_, q4, MKF_tr ft (MKF_AX (by omega) (by omega) (AX_r (x := 113 + 3 * m) q5))⟩
  have hLH : L ≤ H := by
    obtain ⟨e1, e2⟩ := q3 hz0
    rw [e1, e2]
    exact dnup_o hu pd_o
  refine ⟨upB B (m - 1) (L, H), (q5.2 77 2 (by omega) (by omega) (by omega)).trans t77, fun i hi => ?_⟩
  by_cases h : i = m - 1
  · rw [h, upB_eq]
    exact ⟨q1, ST_0 q2 hz0, hLH⟩
  · rw [upB_ne h]
    obtain ⟨a1, a2⟩ := hs.2.1 i hi
    exact ⟨BX_f a1 (fun j => (q5.2 _ _ (by omega) (by omega) (by omega)).trans (tk _ _ (by omega))) (fun j => (q5.2 _ _ (by omega) (by omega) (by omega)).trans (tk _ _ (by omega))), a2⟩
theorem z_pushW {y m : Nat} {B : Nat → Int × Int} {v : Int × Int} (hm : m < 128) (hs : SK M m B) (hy : cl y 4) (hn : y + 2 < 113 ∨ 496 < y) (hv : BX M y v.1 v.2) (hK : KW M) (hC : CI M) (hd : 2 ≤ d) : tC e d 2061 [.inr (.inr (.inl 77)), .inr (.inr (.inl y))] M n (tQn n (fun M' => SKV M' m B v ∧ KA M M' ∧ MKF 0 M M')) := by
  have hys := hy.1
  have ht := hs.1
  refine tst_X6_push ?_
  refine tb_X6_push_0 (c := true) ?_
  simp only [kb_X6_push_0, w_ald_0, w_gf_8_2, tw_t, w_si, w_ic_ge, w_gf_8_1, w_aa, w_ald_1, w_iv1, tfr_0, tfr_1, tfr_2, tfr_3, tfr_4, w_dupi, w_dupr, w_ic, w_iadd, w_pf_8_2, w_nil, w64_r, true_and, and_true, Nat.reduceAdd, Nat.reduceSub, eq_self, tsh_77, tsh_112, tyk_25, tel_4, tqo_112, tyk_8, tcq_8, tsh_78, tyk_2, tcq_2, tyk_4, hys]
  repeat refine And.intro (by omega) ?_
  first | refine ⟨fun q => absurd q (by omega), fun _ => ?_⟩ | refine fun _ => ?_
  repeat refine And.intro (by omega) ?_
  have ck := cl_cs hm
  have cks := ck.1
  rw [ht, nat_n]
  try simp only [kb_X6_push_0, w_ald_0, w_gf_8_2, tw_t, w_si, w_ic_ge, w_gf_8_1, w_aa, w_ald_1, w_iv1, tfr_0, tfr_1, tfr_2, tfr_3, tfr_4, w_dupi, w_dupr, w_ic, w_iadd, w_pf_8_2, w_nil, w64_r, true_and, and_true, Nat.reduceAdd, Nat.reduceSub, eq_self, tsh_77, tsh_112, tyk_25, tel_4, tqo_112, tyk_8, tcq_8, tsh_78, tyk_2, tcq_2, tyk_4, hys, cks]
  repeat refine And.intro (by omega) ?_
  refine tc_n (D := 1) (fun d' hd' => z_copy (b := 0) ck hy hv (by decide) hC hd') (by omega) ?_
  rintro M1 ⟨x1, f1⟩
  try simp only [kb_X6_push_0, w_ald_0, w_gf_8_2, tw_t, w_si, w_ic_ge, w_gf_8_1, w_aa, w_ald_1, w_iv1, tfr_0, tfr_1, tfr_2, tfr_3, tfr_4, w_dupi, w_dupr, w_ic, w_iadd, w_pf_8_2, w_nil, w64_r, true_and, and_true, Nat.reduceAdd, Nat.reduceSub, eq_self, tsh_77, tsh_112, tyk_25, tel_4, tqo_112, tyk_8, tcq_8, tsh_78, tyk_2, tcq_2, tyk_4, hys, cks]
  have t1 : M1 77 2 = (m : Int) := (f1.2 77 2 (by omega) (by omega)).trans ht
  rw [t1]
  repeat refine And.intro (by omega) ?_
  have c2 : CI (tU M1 77 2 ((m : Int) + 1)) := CI_put f1.1.1 tsh_77 (fun _ => by show 0 ≤ (m : Int) + 1 ∧ (m : Int) + 1 ≤ 128; omega)
  have p2 : pE 0 M1 (tU M1 77 2 ((m : Int) + 1)) := pE_put (prt_f (a := 8) (f := 2) (Or.inl (by decide)) cl_77 (by decide) (fun _ q => absurd q (by decide)) (by decide))
  have u2 : ∀ (k : Nat) (i : Int), k ≠ 77 → tU M1 77 2 ((m : Int) + 1) k i = M1 k i := fun k i q => tU_nk q
  have t2 : tU M1 77 2 ((m : Int) + 1) 77 2 = (m : Int) + 1 := tU_eq ..
  have u3 : ∀ i : Int, i ≠ 2 → tU M1 77 2 ((m : Int) + 1) 77 i = M1 77 i := fun i q => tU_ni q
  generalize tU M1 77 2 ((m : Int) + 1) = M2 at *
  refine tb_X6_push_33 (c := true) ?_
  simp only [kb_X6_push_33, w_re, w64_r, true_and, and_true, Nat.reduceAdd, Nat.reduceSub, eq_self]
  have mk : MKF 0 M M2 := ⟨⟨c2, pE_tr f1.1.2 p2⟩, fun i q => (u3 i q).trans (f1.2 77 i (by omega) (by omega)), fun k i q => (u2 k i (by omega)).trans (f1.2 k i (by omega) (by omega))⟩
  refine ⟨rfl, rfl, ⟨t2.trans (by omega), fun i hi => ?_, BX_f x1 (fun j => u2 _ _ (by omega)) (fun j => u2 _ _ (by omega))⟩, KA_m hK (RO_u hK.1.1.2 ((u2 79 4 (by decide)).trans (f1.2 79 4 (by omega) (by omega))) ((u2 79 5 (by decide)).trans (f1.2 79 5 (by omega) (by omega)))) mk, mk⟩
  obtain ⟨a1, a2⟩ := hs.2 i hi
  exact ⟨BX_f a1 (fun j => (u2 _ _ (by omega)).trans (f1.2 _ _ (by omega) (by omega))) (fun j => (u2 _ _ (by omega)).trans (f1.2 _ _ (by omega) (by omega))), a2⟩
theorem tsh_662 : tsh 662 = 3 := by rw [tsh_def]; decide +kernel
theorem cl_662 : cl 662 3 := ⟨tsh_662, by decide⟩
theorem KA_s {M M1 : tM} (h : KW M) (f : BD 0 M M1 662) : KA M M1 := KA_f h f.1 f.2.1 (RO_u h.1.1.2 (f.2.2 79 4 (by decide)) (f.2.2 79 5 (by decide))) (fun k i g => f.2.2 k i (by unfold KPC at g; omega))
theorem v_sumUp {r x k : Nat} {X : Int × Int} (hr : FMC r) (h6 : M r 6 = 1) (hx : cl x 4 ∧ x + 2 < 77) (hX : BX M x X.1 X.2 ∧ GBX X) (hk : k ≤ 3) (he : EVr e) (hK : KW M) (hC : CI M) (hd : 9 ≤ d) : tC e d 3392 [.inr (.inr (.inl 0)), .inr (.inr (.inl r)), .inr (.inr (.inl x)), .inl (k : Int)] M n (tQi n (fun z M' => (0 ≤ z ∧ z ≤ 2) ∧ KA M M' ∧ (z = 0 → BXG M' 650))) := by
  have sr := (FM_of hr).1
  have rr : 499 < r ∧ r + 6 < 531 := by unfold FMC at hr; omega
  have sx := hx.1.1
  have hu := KU hK hC
  have hu1 := hu.1
  refine tst_X11_sumUp ?_
  refine tb_X11_sumUp_0 (c := true) ?_
  simp only [kb_X11_sumUp_0, w_ald_0, w_gf_13_9, tw_t, w_ald_2, w_ild_3, w_gf_13_4, w_iv0, tfr_0, tfr_1, tfr_2, tfr_3, tfr_4, w_iv3, w_ic, w_ist4, tkl_n, tkl_i, tkl_l, tkl_r, w_nil, w64_r, true_and, and_true, Nat.reduceAdd, Nat.reduceSub, eq_self, tsh_0, tyk_13, tcq_13, tsh_77, tyk_8, tcq_8, tyk_4, tcq_4, tsh_113, tsh_650, tsh_653, tsh_656, tsh_590, tyk_9, tcq_9, tsh_662, tyk_3, tcq_3, sr, sx]
  refine tc_l (D := 0) (fun d' hd' => z_unit) (by omega) ?_
  rintro u M4 ⟨rfl, rfl⟩
  try simp only [kb_X11_sumUp_0, w_ald_0, w_gf_13_9, tw_t, w_ald_2, w_ild_3, w_gf_13_4, w_iv0, tfr_0, tfr_1, tfr_2, tfr_3, tfr_4, w_iv3, w_ic, w_ist4, tkl_n, tkl_i, tkl_l, tkl_r, w_nil, w64_r, true_and, and_true, Nat.reduceAdd, Nat.reduceSub, eq_self, tsh_0, tyk_13, tcq_13, tsh_77, tyk_8, tcq_8, tyk_4, tcq_4, tsh_113, tsh_650, tsh_653, tsh_656, tsh_590, tyk_9, tcq_9, tsh_662, tyk_3, tcq_3, sr, sx]
  repeat refine And.intro (by omega) ?_
  refine tc_n (D := 3) (fun d' hd' => z_cut (P := 590) (Or.inl rfl) hx.1 hX hk hu hK hC hd') (by omega) ?_
  rintro M5 ⟨⟨ca, ca1, ca2⟩, f5⟩
  have k5 := KA_pf (Or.inl rfl) hK f5
  have l8 := ca2.1.2
  try simp only [kb_X11_sumUp_0, w_ald_0, w_gf_13_9, tw_t, w_ald_2, w_ild_3, w_gf_13_4, w_iv0, tfr_0, tfr_1, tfr_2, tfr_3, tfr_4, w_iv3, w_ic, w_ist4, tkl_n, tkl_i, tkl_l, tkl_r, w_nil, w64_r, true_and, and_true, Nat.reduceAdd, Nat.reduceSub, eq_self, tsh_0, tyk_13, tcq_13, tsh_77, tyk_8, tcq_8, tyk_4, tcq_4, tsh_113, tsh_650, tsh_653, tsh_656, tsh_590, tyk_9, tcq_9, tsh_662, tyk_3, tcq_3, sr, sx]
  have nl : ∀ (fu : Nat) (N : tM) (p : Nat) (w5 w6 : Option tV), ca - p = fu → p ≤ ca → (0 < p → BXG N 650) → KA M4 N → PCG N 590 ca → (∀ (k : Nat) (i : Int), (499 ≤ k ∧ k < 590) → N k i = M4 k i) → tT e d 3392 19 [some (.inr (.inr (.inl (0)))), some (.inr (.inr (.inl (r)))), some (.inr (.inr (.inl (x)))), some (.inl ((k : Int))), some (.inl ((p : Int))), w5, w6] [] N n (tQi n (fun z M' => (0 ≤ z ∧ z ≤ 2) ∧ KA M4 M' ∧ (z = 0 → BXG M' 650))) := by
    intro fu
    induction fu with
    | zero =>
      intro N p w5 w6 hf hp hb kN pa fN
      have t1 := pa.1.1
      refine tb_X11_sumUp_19 (c := true) ?_
      simp only [kb_X11_sumUp_19, w_ild4, w_ald_0, w_gf_13_9, tw_t, w_gf_9_3, w_ic_ge, w_iv1, tfr_0, tfr_1, tfr_2, tfr_3, tfr_4, w_ast5, tkl_n, tkl_i, tkl_l, tkl_r, w_gf_13_4, w_ald5, w_iv2, w_ald_1, w_ist6, w_ild6, w_if_eq, w_ire, trg, w64_r, true_and, and_true, Nat.reduceAdd, Nat.reduceSub, eq_self, tsh_0, tyk_13, tcq_13, tsh_77, tyk_8, tcq_8, tyk_4, tcq_4, tsh_113, tsh_650, tsh_653, tsh_656, tsh_590, tyk_9, tcq_9, tsh_662, tyk_3, tcq_3, sr, sx]
      rw [t1]
      repeat refine And.intro (by omega) ?_
      refine ⟨fun _ => ?_, fun q => absurd (by omega) q⟩
      refine tb_X11_sumUp_226 (c := true) ?_
      simp only [kb_X11_sumUp_226, w_ic, w_ire, trg, w64_r, true_and, and_true, Nat.reduceAdd, Nat.reduceSub, eq_self]
      exact ⟨_, rfl, rfl, by decide, kN, fun _ => hb (by omega)⟩
    | succ fu ih =>
      intro N p w5 w6 hf hp hb kN pa fN
      have t1 := pa.1.1
      have cka := cl_pc (P := 590) (i := p) (Or.inr (Or.inr (Or.inl rfl))) (by omega)
      have ksa := cka.1
      have ks1 := (bxl_1 cka).1
      have ks2 := (bxl_2 cka).1
      obtain ⟨va, va1, va2⟩ := pa.2 p (by omega)
      refine tb_X11_sumUp_19 (c := true) ?_
      simp only [kb_X11_sumUp_19, w_ild4, w_ald_0, w_gf_13_9, tw_t, w_gf_9_3, w_ic_ge, w_iv1, tfr_0, tfr_1, tfr_2, tfr_3, tfr_4, w_ast5, tkl_n, tkl_i, tkl_l, tkl_r, w_gf_13_4, w_ald5, w_iv2, w_ald_1, w_ist6, w_ild6, w_if_eq, w_ire, trg, w64_r, true_and, and_true, Nat.reduceAdd, Nat.reduceSub, eq_self, tsh_0, tyk_13, tcq_13, tsh_77, tyk_8, tcq_8, tyk_4, tcq_4, tsh_113, tsh_650, tsh_653, tsh_656, tsh_590, tyk_9, tcq_9, tsh_662, tyk_3, tcq_3, sr, sx]
      rw [t1]
      repeat refine And.intro (by omega) ?_
      first | refine ⟨fun q => absurd q (by omega), fun _ => ?_⟩ | refine fun _ => ?_
      repeat refine And.intro (by omega) ?_
      refine tc_r (D := 1) (fun d' hd' => z_pbox (P := 590) (i := p) (Or.inr (Or.inr (Or.inl rfl))) (by omega) hd') (by omega) ?_
      rintro y N3 ⟨rfl, rfl⟩
      try simp only [kb_X11_sumUp_19, w_ild4, w_ald_0, w_gf_13_9, tw_t, w_gf_9_3, w_ic_ge, w_iv1, tfr_0, tfr_1, tfr_2, tfr_3, tfr_4, w_ast5, tkl_n, tkl_i, tkl_l, tkl_r, w_gf_13_4, w_ald5, w_iv2, w_ald_1, w_ist6, w_ild6, w_if_eq, w_ire, trg, w64_r, true_and, and_true, Nat.reduceAdd, Nat.reduceSub, eq_self, tsh_0, tyk_13, tcq_13, tsh_77, tyk_8, tcq_8, tyk_4, tcq_4, tsh_113, tsh_650, tsh_653, tsh_656, tsh_590, tyk_9, tcq_9, tsh_662, tyk_3, tcq_3, sr, sx, ksa]
      refine tc_n (D := 0) (fun d' hd' => v_aim ⟨cka, Or.inr (by omega)⟩ ⟨cka, Or.inr (by omega)⟩ ⟨va1, va2⟩ ⟨va1, va2⟩ kN.2 kN.1.1) (by omega) ?_
      rintro N5 ⟨am, kN5, g5⟩
      try simp only [kb_X11_sumUp_19, w_ild4, w_ald_0, w_gf_13_9, tw_t, w_gf_9_3, w_ic_ge, w_iv1, tfr_0, tfr_1, tfr_2, tfr_3, tfr_4, w_ast5, tkl_n, tkl_i, tkl_l, tkl_r, w_gf_13_4, w_ald5, w_iv2, w_ald_1, w_ist6, w_ild6, w_if_eq, w_ire, trg, w64_r, true_and, and_true, Nat.reduceAdd, Nat.reduceSub, eq_self, tsh_0, tyk_13, tcq_13, tsh_77, tyk_8, tcq_8, tyk_4, tcq_4, tsh_113, tsh_650, tsh_653, tsh_656, tsh_590, tyk_9, tcq_9, tsh_662, tyk_3, tcq_3, sr, sx, ksa]
      refine tc_i (D := 8) (fun d' hd' => v_mkV hr ((g5 r 6 (by omega)).trans ((fN r 6 (by omega)).trans h6)) am he kN5.2 kN5.1.1 hd') (by omega) ?_
      rintro z6 N6 ⟨hz6, kN6, m6, v6⟩
      have kk6 : KA M4 N6 := KA_tr (pE_tr kN.1.2 kN5.1.2) kN6
      have f6 : ∀ (k : Nat) (i : Int), 496 < k → N6 k i = N3 k i := fun k i g => (m6.2.2 k i (by omega)).trans (g5 k i (by omega))
      try simp only [kb_X11_sumUp_19, w_ild4, w_ald_0, w_gf_13_9, tw_t, w_gf_9_3, w_ic_ge, w_iv1, tfr_0, tfr_1, tfr_2, tfr_3, tfr_4, w_ast5, tkl_n, tkl_i, tkl_l, tkl_r, w_gf_13_4, w_ald5, w_iv2, w_ald_1, w_ist6, w_ild6, w_if_eq, w_ire, trg, w64_r, true_and, and_true, Nat.reduceAdd, Nat.reduceSub, eq_self, tsh_0, tyk_13, tcq_13, tsh_77, tyk_8, tcq_8, tyk_4, tcq_4, tsh_113, tsh_650, tsh_653, tsh_656, tsh_590, tyk_9, tcq_9, tsh_662, tyk_3, tcq_3, sr, sx, ksa]
      repeat refine And.intro (by omega) ?_
      refine ⟨fun q0 => ?_, fun q => ⟨_, rfl, rfl, hz6, kk6, fun q2 => absurd q2 (by omega)⟩⟩
      obtain ⟨B0, s0, -⟩ := v6 (by omega)
      obtain ⟨b0, gb0⟩ := s0.2 0 (by decide)
      -- the end of a round
      have n198 : ∀ (N1 : tM) (z : Int), (0 ≤ z ∧ z ≤ 2) → KA M4 N1 → (z = 0 → ∃ B' : Nat → Int × Int, SK N1 1 B') → PCG N1 590 ca → (∀ (k : Nat) (i : Int), (499 ≤ k ∧ k < 590) → N1 k i = M4 k i) → tT e d 3392 198 [some (.inr (.inr (.inl (0)))), some (.inr (.inr (.inl (r)))), some (.inr (.inr (.inl (x)))), some (.inl ((k : Int))), some (.inl ((p : Int))), some (.inr (.inr (.inl (590 + 1 + 1 + 3 * p)))), some (.inl (z))] [] N1 n (tQi n (fun z M' => (0 ≤ z ∧ z ≤ 2) ∧ KA M4 M' ∧ (z = 0 → BXG M' 650))) := by
        intro N1 z hz kz sz pz fz
        refine tb_X11_sumUp_198 (c := true) ?_
        simp only [kb_X11_sumUp_198, w_ild6, w_if_eq, w_ire, trg, w64_r, true_and, and_true, Nat.reduceAdd, Nat.reduceSub, eq_self]
        repeat refine And.intro (by omega) ?_
        refine ⟨fun q1 => ?_, fun q => ⟨_, rfl, rfl, hz, kz, fun q2 => absurd q2 (by omega)⟩⟩
        obtain ⟨B1, s1⟩ := sz (by omega)
        obtain ⟨b1, gb1⟩ := s1.2 0 (by decide)
        refine tb_X11_sumUp_206 (c := true) ?_
        simp only [kb_X11_sumUp_206, w_ald_0, w_gf_13_11, tw_t, w_gf_13_4, w_iv0, tfr_0, tfr_1, tfr_2, tfr_3, tfr_4, w_iv1, w_inc4, tkl_n, tkl_i, tkl_l, tkl_r, w_goto, w64_r, true_and, and_true, Nat.reduceAdd, Nat.reduceSub, eq_self, tsh_0, tyk_13, tcq_13, tsh_77, tyk_8, tcq_8, tyk_4, tcq_4, tsh_113, tsh_650, tsh_653, tsh_656, tsh_590, tyk_9, tcq_9, tsh_662, tyk_3, tcq_3]
        refine tc_r (D := 1) (fun d' hd' => z_result s1.1 hd') (by omega) ?_
        rintro y N7 ⟨rfl, rfl⟩
        try simp only [kb_X11_sumUp_206, w_ald_0, w_gf_13_11, tw_t, w_gf_13_4, w_iv0, tfr_0, tfr_1, tfr_2, tfr_3, tfr_4, w_iv1, w_inc4, tkl_n, tkl_i, tkl_l, tkl_r, w_goto, w64_r, true_and, and_true, Nat.reduceAdd, Nat.reduceSub, eq_self, tsh_0, tyk_13, tcq_13, tsh_77, tyk_8, tcq_8, tyk_4, tcq_4, tsh_113, tsh_650, tsh_653, tsh_656, tsh_590, tyk_9, tcq_9, tsh_662, tyk_3, tcq_3]
        refine tc_n (D := 1) (fun d' hd' => z_copy (b := 0) cl_650 cl_113 b1 (by decide) kz.1.1 hd') (by omega) ?_
        rintro N8 ⟨x8, f8⟩
        have k8 := KA_b kz.2 (by decide) f8
        try simp only [kb_X11_sumUp_206, w_ald_0, w_gf_13_11, tw_t, w_gf_13_4, w_iv0, tfr_0, tfr_1, tfr_2, tfr_3, tfr_4, w_iv1, w_inc4, tkl_n, tkl_i, tkl_l, tkl_r, w_goto, w64_r, true_and, and_true, Nat.reduceAdd, Nat.reduceSub, eq_self, tsh_0, tyk_13, tcq_13, tsh_77, tyk_8, tcq_8, tyk_4, tcq_4, tsh_113, tsh_650, tsh_653, tsh_656, tsh_590, tyk_9, tcq_9, tsh_662, tyk_3, tcq_3]
        repeat refine And.intro (by omega) ?_
        rw [show ((p : Nat) : Int) + 1 = ((p + 1 : Nat) : Int) by omega]
        exact ih N8 (p + 1) _ _ (by omega) (by omega) (fun _ => ⟨B1 0, x8, gb1⟩) (KA_tr kz.1.2 k8) (PCG_u pz (f8.2 _ _ (by decide) (by decide)) (fun k i a b => f8.2 k i (by omega) (by omega))) (fun k i g => (f8.2 k i (by omega) (by omega)).trans (fz k i g))
      have wW : WF (va.2 - va.1) := by
        have n1 := va2.1.1
        have n2 := va2.1.2
        unfold NF at n1 n2
        unfold WF
        omega
      have n140 : ∀ (N1 : tM) (m : Nat) (B : Nat → Int × Int) (w6 : Option tV), (m = 0 ∧ p = 0 ∨ m = 1 ∧ 0 < p) → SK N1 m B → KA M4 N1 → BX N1 653 (B0 0).1 (B0 0).2 → BX N1 656 (va.2 - va.1) (va.2 - va.1) → PCG N1 590 ca → (∀ (k : Nat) (i : Int), (499 ≤ k ∧ k < 590) → N1 k i = M4 k i) → tT e d 3392 140 [some (.inr (.inr (.inl (0)))), some (.inr (.inr (.inl (r)))), some (.inr (.inr (.inl (x)))), some (.inl ((k : Int))), some (.inl ((p : Int))), some (.inr (.inr (.inl (590 + 1 + 1 + 3 * p)))), w6] [] N1 n (tQi n (fun z M' => (0 ≤ z ∧ z ≤ 2) ∧ KA M4 M' ∧ (z = 0 → BXG M' 650))) := by
        intro N1 m B w6 hm sm km b3 b6 pm fm
        refine tb_X11_sumUp_140 (c := true) ?_
        simp only [kb_X11_sumUp_140, w_ald_0, w_gf_13_4, tw_t, w_gf_13_12, w_iv1, tfr_0, tfr_1, tfr_2, tfr_3, tfr_4, w_gf_13_13, w_bi, w_lc0, w_ic, w_iv3, w_ist6, tkl_n, tkl_i, tkl_l, tkl_r, w_ild6, w_if_ne, w_ild4, w_if_le, w_nil, w64_r, true_and, and_true, Nat.reduceAdd, Nat.reduceSub, eq_self, tsh_0, tyk_13, tcq_13, tsh_77, tyk_8, tcq_8, tyk_4, tcq_4, tsh_113, tsh_650, tsh_653, tsh_656, tsh_590, tyk_9, tcq_9, tsh_662, tyk_3, tcq_3]
        refine tc_n (D := 2) (fun d' hd' => v_push (by omega) sm cl_653 (by decide) ⟨b3, gb0⟩ km.2 km.1.1 hd') (by omega) ?_
        rintro N2 ⟨⟨B2, s2⟩, k2, m2⟩
        have kk2 := KA_tr km.1.2 k2
        try simp only [kb_X11_sumUp_140, w_ald_0, w_gf_13_4, tw_t, w_gf_13_12, w_iv1, tfr_0, tfr_1, tfr_2, tfr_3, tfr_4, w_gf_13_13, w_bi, w_lc0, w_ic, w_iv3, w_ist6, tkl_n, tkl_i, tkl_l, tkl_r, w_ild6, w_if_ne, w_ild4, w_if_le, w_nil, w64_r, true_and, and_true, Nat.reduceAdd, Nat.reduceSub, eq_self, tsh_0, tyk_13, tcq_13, tsh_77, tyk_8, tcq_8, tyk_4, tcq_4, tsh_113, tsh_650, tsh_653, tsh_656, tsh_590, tyk_9, tcq_9, tsh_662, tyk_3, tcq_3]
        refine tc_n (D := 2) (fun d' hd' => z_pushW (v := (va.2 - va.1, va.2 - va.1)) (by omega) s2 cl_656 (by decide) (BX_f b6 (fun j => m2.2.2 _ _ (by decide)) (fun j => m2.2.2 _ _ (by decide))) kk2.2 kk2.1.1 hd') (by omega) ?_
        rintro N4 ⟨s4, k4, m4⟩
        have kk4 := KA_tr kk2.1.2 k4
        try simp only [kb_X11_sumUp_140, w_ald_0, w_gf_13_4, tw_t, w_gf_13_12, w_iv1, tfr_0, tfr_1, tfr_2, tfr_3, tfr_4, w_gf_13_13, w_bi, w_lc0, w_ic, w_iv3, w_ist6, tkl_n, tkl_i, tkl_l, tkl_r, w_ild6, w_if_ne, w_ild4, w_if_le, w_nil, w64_r, true_and, and_true, Nat.reduceAdd, Nat.reduceSub, eq_self, tsh_0, tyk_13, tcq_13, tsh_77, tyk_8, tcq_8, tyk_4, tcq_4, tsh_113, tsh_650, tsh_653, tsh_656, tsh_590, tyk_9, tcq_9, tsh_662, tyk_3, tcq_3]
        refine tc_i (D := 7) (fun d' hd' => z_star (b := 0) (by omega) s4 ⟨wW, wW⟩ (KU kk4.2 kk4.1.1) kk4.2.1.1.2 (by decide) kk4.1.1 hd') (by omega) ?_
        rintro z7 N7 ⟨hz7, v7, ro7, m7⟩
        have kk7 := KA_tr kk4.1.2 (KA_m kk4.2 ro7 m7)
        have f7 : ∀ (k : Nat) (i : Int), 496 < k → N7 k i = N1 k i := fun k i g => (m7.2.2 k i (by omega)).trans ((m4.2.2 k i (by omega)).trans (m2.2.2 k i (by omega)))
        have p7 : PCG N7 590 ca := PCG_m (Or.inr (Or.inr (Or.inl rfl))) pm f7
        have ff7 : ∀ (k : Nat) (i : Int), (499 ≤ k ∧ k < 590) → N7 k i = M4 k i := fun k i g => (f7 k i (by omega)).trans (fm k i g)
        try simp only [kb_X11_sumUp_140, w_ald_0, w_gf_13_4, tw_t, w_gf_13_12, w_iv1, tfr_0, tfr_1, tfr_2, tfr_3, tfr_4, w_gf_13_13, w_bi, w_lc0, w_ic, w_iv3, w_ist6, tkl_n, tkl_i, tkl_l, tkl_r, w_ild6, w_if_ne, w_ild4, w_if_le, w_nil, w64_r, true_and, and_true, Nat.reduceAdd, Nat.reduceSub, eq_self, tsh_0, tyk_13, tcq_13, tsh_77, tyk_8, tcq_8, tyk_4, tcq_4, tsh_113, tsh_650, tsh_653, tsh_656, tsh_590, tyk_9, tcq_9, tsh_662, tyk_3, tcq_3]
        repeat refine And.intro (by omega) ?_
        refine ⟨fun q => n198 N7 z7 hz7 kk7 (fun q2 => absurd q2 (by omega)) p7 ff7, fun q => ?_⟩
        obtain ⟨B7, s7⟩ := v7 (by omega)
        repeat refine And.intro (by omega) ?_
        refine ⟨fun q2 => n198 N7 z7 hz7 kk7 (fun _ => ⟨B7, by
          have hm0 : m = 0 := by omega
          rw [hm0] at s7
          exact s7⟩) p7 ff7, fun q2 => ?_⟩
        have hm1 : m = 1 := by omega
        subst hm1
        refine tc_i (D := 7) (fun d' hd' => v_pair (by decide) (by decide) s7 he kk7.2 kk7.1.1 hd') (by omega) ?_
        rintro z8 N8 ⟨hz8, k8, m8, v8⟩
        try simp only [kb_X11_sumUp_140, w_ald_0, w_gf_13_4, tw_t, w_gf_13_12, w_iv1, tfr_0, tfr_1, tfr_2, tfr_3, tfr_4, w_gf_13_13, w_bi, w_lc0, w_ic, w_iv3, w_ist6, tkl_n, tkl_i, tkl_l, tkl_r, w_ild6, w_if_ne, w_ild4, w_if_le, w_nil, w64_r, true_and, and_true, Nat.reduceAdd, Nat.reduceSub, eq_self, tsh_0, tyk_13, tcq_13, tsh_77, tyk_8, tcq_8, tyk_4, tcq_4, tsh_113, tsh_650, tsh_653, tsh_656, tsh_590, tyk_9, tcq_9, tsh_662, tyk_3, tcq_3]
        repeat refine And.intro (by omega) ?_
        exact n198 N8 z8 hz8 (KA_tr kk7.1.2 k8) v8 (PCG_m (Or.inr (Or.inr (Or.inl rfl))) p7 (fun k i g => m8.2.2 k i (by omega))) (fun k i g => (m8.2.2 k i (by omega)).trans (ff7 k i g))
      refine tb_X11_sumUp_71 (c := true) ?_
      simp only [kb_X11_sumUp_71, w_ald_0, w_gf_13_12, tw_t, w_gf_13_4, w_iv0, tfr_0, tfr_1, tfr_2, tfr_3, tfr_4, w_iv1, w_gf_13_15, w_ald5, w_gf_4_1, w_gf_4_0, w_iv2, w_gf_13_13, w_ild4, w_if_le, w_gf_13_11, w_nil, w64_r, true_and, and_true, Nat.reduceAdd, Nat.reduceSub, eq_self, tsh_0, tyk_13, tcq_13, tsh_77, tyk_8, tcq_8, tyk_4, tcq_4, tsh_113, tsh_650, tsh_653, tsh_656, tsh_590, tyk_9, tcq_9, tsh_662, tyk_3, tcq_3, sr, sx, ksa]
      refine tc_r (D := 1) (fun d' hd' => z_result s0.1 hd') (by omega) ?_
      rintro y N7 ⟨rfl, rfl⟩
      try simp only [kb_X11_sumUp_71, w_ald_0, w_gf_13_12, tw_t, w_gf_13_4, w_iv0, tfr_0, tfr_1, tfr_2, tfr_3, tfr_4, w_iv1, w_gf_13_15, w_ald5, w_gf_4_1, w_gf_4_0, w_iv2, w_gf_13_13, w_ild4, w_if_le, w_gf_13_11, w_nil, w64_r, true_and, and_true, Nat.reduceAdd, Nat.reduceSub, eq_self, tsh_0, tyk_13, tcq_13, tsh_77, tyk_8, tcq_8, tyk_4, tcq_4, tsh_113, tsh_650, tsh_653, tsh_656, tsh_590, tyk_9, tcq_9, tsh_662, tyk_3, tcq_3, sr, sx, ksa]
      refine tc_n (D := 1) (fun d' hd' => z_copy (b := 0) cl_653 cl_113 b0 (by decide) kk6.1.1 hd') (by omega) ?_
      rintro N8 ⟨x8, f8⟩
      have k8 := KA_b kk6.2 (by decide) f8
      have va8 : BX N8 (590 + 1 + 1 + 3 * p) va.1 va.2 := BX_f va1 (fun j => (f8.2 _ _ (by omega) (by omega)).trans (f6 _ _ (by omega))) (fun j => (f8.2 _ _ (by omega) (by omega)).trans (f6 _ _ (by omega)))
      try simp only [kb_X11_sumUp_71, w_ald_0, w_gf_13_12, tw_t, w_gf_13_4, w_iv0, tfr_0, tfr_1, tfr_2, tfr_3, tfr_4, w_iv1, w_gf_13_15, w_ald5, w_gf_4_1, w_gf_4_0, w_iv2, w_gf_13_13, w_ild4, w_if_le, w_gf_13_11, w_nil, w64_r, true_and, and_true, Nat.reduceAdd, Nat.reduceSub, eq_self, tsh_0, tyk_13, tcq_13, tsh_77, tyk_8, tcq_8, tyk_4, tcq_4, tsh_113, tsh_650, tsh_653, tsh_656, tsh_590, tyk_9, tcq_9, tsh_662, tyk_3, tcq_3, sr, sx, ksa, ks1, ks2]
      refine tc_n (D := 0) (fun d' hd' => y_toDifference (b := 0) cl_662 (bxl_2 cka) (bxl_1 cka) va8.2 va8.1 (RV_g va2).2 (RV_g va2).1 (Or.inl (by decide)) k8.1.1) (by omega) ?_
      rintro N9 ⟨x9, f9⟩
      have k9 := KA_s k8.2 f9
      try simp only [kb_X11_sumUp_71, w_ald_0, w_gf_13_12, tw_t, w_gf_13_4, w_iv0, tfr_0, tfr_1, tfr_2, tfr_3, tfr_4, w_iv1, w_gf_13_15, w_ald5, w_gf_4_1, w_gf_4_0, w_iv2, w_gf_13_13, w_ild4, w_if_le, w_gf_13_11, w_nil, w64_r, true_and, and_true, Nat.reduceAdd, Nat.reduceSub, eq_self, tsh_0, tyk_13, tcq_13, tsh_77, tyk_8, tcq_8, tyk_4, tcq_4, tsh_113, tsh_650, tsh_653, tsh_656, tsh_590, tyk_9, tcq_9, tsh_662, tyk_3, tcq_3, sr, sx, ksa, ks1, ks2]
      refine tc_n (D := 1) (fun d' hd' => z_between (b := 0) cl_656 cl_662 cl_662 x9 x9 (by decide) (by decide) k9.1.1 hd') (by omega) ?_
      rintro N10 ⟨x10, f10⟩
      have k10 := KA_b k9.2 (by decide) f10
      have kk10 : KA M4 N10 := KA_tr (pE_tr kk6.1.2 (pE_tr k8.1.2 k9.1.2)) k10
      try simp only [kb_X11_sumUp_71, w_ald_0, w_gf_13_12, tw_t, w_gf_13_4, w_iv0, tfr_0, tfr_1, tfr_2, tfr_3, tfr_4, w_iv1, w_gf_13_15, w_ald5, w_gf_4_1, w_gf_4_0, w_iv2, w_gf_13_13, w_ild4, w_if_le, w_gf_13_11, w_nil, w64_r, true_and, and_true, Nat.reduceAdd, Nat.reduceSub, eq_self, tsh_0, tyk_13, tcq_13, tsh_77, tyk_8, tcq_8, tyk_4, tcq_4, tsh_113, tsh_650, tsh_653, tsh_656, tsh_590, tyk_9, tcq_9, tsh_662, tyk_3, tcq_3, sr, sx, ksa, ks1, ks2]
      refine tc_n (D := 0) (fun d' hd' => v_clear kk10.2 kk10.1.1) (by omega) ?_
      rintro N11 ⟨s11, k11, m11⟩
      have kk11 : KA M4 N11 := KA_tr kk10.1.2 k11
      have f11 : ∀ (k : Nat) (i : Int), (499 ≤ k ∧ k < 650) → N11 k i = N7 k i := fun k i g => (m11.2.2 k i (by omega)).trans ((f10.2 k i (by omega) (by omega)).trans ((f9.2.2 k i (by omega)).trans (f8.2 k i (by omega) (by omega))))
      have x11a : BX N11 653 (B0 0).1 (B0 0).2 := BX_f x8 (fun j => (m11.2.2 _ _ (by decide)).trans ((f10.2 _ _ (by decide) (by decide)).trans (f9.2.2 _ _ (by decide)))) (fun j => (m11.2.2 _ _ (by decide)).trans ((f10.2 _ _ (by decide) (by decide)).trans (f9.2.2 _ _ (by decide))))
      have x11b : BX N11 656 (va.2 - va.1) (va.2 - va.1) := BX_f x10 (fun j => m11.2.2 _ _ (by decide)) (fun j => m11.2.2 _ _ (by decide))
      have p11 : PCG N11 590 ca := PCG_u (PCG_u pa (M1 := N7) (f6 _ _ (by decide)) (fun k i a b => f6 k i (by omega))) (f11 _ _ (by decide)) (fun k i a b => f11 k i (by omega))
      have ff11 : ∀ (k : Nat) (i : Int), (499 ≤ k ∧ k < 590) → N11 k i = M4 k i := fun k i g => (f11 k i (by omega)).trans ((f6 k i (by omega)).trans (fN k i g))
      try simp only [kb_X11_sumUp_71, w_ald_0, w_gf_13_12, tw_t, w_gf_13_4, w_iv0, tfr_0, tfr_1, tfr_2, tfr_3, tfr_4, w_iv1, w_gf_13_15, w_ald5, w_gf_4_1, w_gf_4_0, w_iv2, w_gf_13_13, w_ild4, w_if_le, w_gf_13_11, w_nil, w64_r, true_and, and_true, Nat.reduceAdd, Nat.reduceSub, eq_self, tsh_0, tyk_13, tcq_13, tsh_77, tyk_8, tcq_8, tyk_4, tcq_4, tsh_113, tsh_650, tsh_653, tsh_656, tsh_590, tyk_9, tcq_9, tsh_662, tyk_3, tcq_3, sr, sx, ksa, ks1, ks2]
      repeat refine And.intro (by omega) ?_
      refine ⟨fun q => n140 N11 0 B00 _ (Or.inl ⟨rfl, by omega⟩) s11 kk11 x11a x11b p11 ff11, fun q => ?_⟩
      have b650 : BXG N11 650 := BXG_f (hb (by omega)) (fun j => (m11.2.2 _ _ (by decide)).trans ((f10.2 _ _ (by decide) (by decide)).trans ((f9.2.2 _ _ (by decide)).trans ((f8.2 _ _ (by decide) (by decide)).trans (f6 _ _ (by decide)))))) (fun j => (m11.2.2 _ _ (by decide)).trans ((f10.2 _ _ (by decide) (by decide)).trans ((f9.2.2 _ _ (by decide)).trans ((f8.2 _ _ (by decide) (by decide)).trans (f6 _ _ (by decide))))))
      obtain ⟨F, hF⟩ := b650
      refine tc_n (D := 2) (fun d' hd' => v_push (by decide) s11 cl_650 (by decide) hF kk11.2 kk11.1.1 hd') (by omega) ?_
      rintro N12 ⟨⟨B12, s12⟩, k12, m12⟩
      try simp only [kb_X11_sumUp_71, w_ald_0, w_gf_13_12, tw_t, w_gf_13_4, w_iv0, tfr_0, tfr_1, tfr_2, tfr_3, tfr_4, w_iv1, w_gf_13_15, w_ald5, w_gf_4_1, w_gf_4_0, w_iv2, w_gf_13_13, w_ild4, w_if_le, w_gf_13_11, w_nil, w64_r, true_and, and_true, Nat.reduceAdd, Nat.reduceSub, eq_self, tsh_0, tyk_13, tcq_13, tsh_77, tyk_8, tcq_8, tyk_4, tcq_4, tsh_113, tsh_650, tsh_653, tsh_656, tsh_590, tyk_9, tcq_9, tsh_662, tyk_3, tcq_3, sr, sx, ksa, ks1, ks2]
      exact n140 N12 1 B12 _ (Or.inr ⟨rfl, by omega⟩) s12 (KA_tr kk11.1.2 k12) (BX_f x11a (fun j => m12.2.2 _ _ (by decide)) (fun j => m12.2.2 _ _ (by decide))) (BX_f x11b (fun j => m12.2.2 _ _ (by decide)) (fun j => m12.2.2 _ _ (by decide))) (PCG_m (Or.inr (Or.inr (Or.inl rfl))) p11 (fun k i g => m12.2.2 k i (by omega))) (fun k i g => (m12.2.2 k i (by omega)).trans (ff11 k i g))
  exact nl ca M5 0 _ _ rfl (by omega) (fun q => absurd q (by decide)) k5 ca2 (fun k i g => f5.2 k i (by omega))
theorem v_area {x1 x2 x3 x4 : Int} (h1 : (-2147483648 ≤ x1 ∧ x1 ≤ 2147483647)) (h2 : (-2147483648 ≤ x2 ∧ x2 ≤ 2147483647)) (h3 : (-2147483648 ≤ x3 ∧ x3 ≤ 2147483647)) (h4 : (-2147483648 ≤ x4 ∧ x4 ≤ 2147483647)) (he : EVr e) (hK : KW M) (hC : CI M) (hd : 10 ≤ d) : tC e d 3331 [.inr (.inr (.inl 0)), .inl x1, .inl x2, .inl x3, .inl x4] M n (tQx n (tQi n (fun z M' => (0 ≤ z ∧ z ≤ 1) ∧ KA M M')) (fun _ M' => KA M M')) := by
  refine tst_X11_area ?_
  refine tb_X11_area_0 (c := true) ?_
  simp only [kb_X11_area_0, w_ald_0, w_ild_1, w_ild_2, w_ild_3, w_ild4, w_iv4, tfr_0, tfr_1, tfr_2, tfr_3, tfr_4, w_gf_13_5, tw_t, w_aa, w_gf_13_3, w_iv1, w_iv3, w_gf_13_11, w_iv2, w_ire, trg, w64_r, true_and, and_true, Nat.reduceAdd, Nat.reduceSub, eq_self, tsh_0, tyk_13, tsh_77, tyk_8, tcq_8, tsh_5, tyk_11, tcq_13, tcq_11, tyk_4, tcq_4, tsh_113, tsh_650, tsh_499, tyk_27, tel_5, tyk_7, tcq_7]
  refine tc_xn (D := 3) (fun d' hd' => x_cbc h1 h2 h3 h4 hC hd') (by omega) rfl ?_ (fun s M' q => Or.inr ⟨_, rfl, rfl, by rw [q]; exact KA_refl hC hK⟩)
  rintro M1 ⟨⟨⟨a1, a2, a3, a4⟩, a5⟩, rfl⟩
  obtain ⟨i, rfl⟩ : ∃ k : Nat, x3 = (k : Int) := ⟨x3.toNat, by omega⟩
  obtain ⟨j, rfl⟩ : ∃ k : Nat, x4 = (k : Int) := ⟨x4.toNat, by omega⟩
  have hf0 := fm_cl hC a2
  have sf := hf0.1
  have hfm := FM_cl hf0
  have ci := (cl_sh (s := i) (by omega)).1
  try simp only [kb_X11_area_0, w_ald_0, w_ild_1, w_ild_2, w_ild_3, w_ild4, w_iv4, tfr_0, tfr_1, tfr_2, tfr_3, tfr_4, w_gf_13_5, tw_t, w_aa, w_gf_13_3, w_iv1, w_iv3, w_gf_13_11, w_iv2, w_ire, trg, w64_r, true_and, and_true, Nat.reduceAdd, Nat.reduceSub, eq_self, tsh_0, tyk_13, tsh_77, tyk_8, tcq_8, tsh_5, tyk_11, tcq_13, tcq_11, tyk_4, tcq_4, tsh_113, tsh_650, tsh_499, tyk_27, tel_5, tyk_7, tcq_7, sf, ci]
  repeat refine And.intro (by omega) ?_
  refine tc_r (D := 1) (fun d' hd' => z_box (s := i) (by omega) hd') (by omega) ?_
  rintro y M2 ⟨rfl, rfl⟩
  try simp only [kb_X11_area_0, w_ald_0, w_ild_1, w_ild_2, w_ild_3, w_ild4, w_iv4, tfr_0, tfr_1, tfr_2, tfr_3, tfr_4, w_gf_13_5, tw_t, w_aa, w_gf_13_3, w_iv1, w_iv3, w_gf_13_11, w_iv2, w_ire, trg, w64_r, true_and, and_true, Nat.reduceAdd, Nat.reduceSub, eq_self, tsh_0, tyk_13, tsh_77, tyk_8, tcq_8, tsh_5, tyk_11, tcq_13, tcq_11, tyk_4, tcq_4, tsh_113, tsh_650, tsh_499, tyk_27, tel_5, tyk_7, tcq_7, sf, ci]
  obtain ⟨v, hv⟩ := hK.1.2.1 i (by omega)
  refine tc_i (D := 9) (fun d' hd' => v_sumUp hfm a5 ⟨cl_sh (s := i) (by omega), by omega⟩ hv (by omega) he hK hC hd') (by omega) ?_
  rintro z M3 ⟨hz, k3, b3⟩
  try simp only [kb_X11_area_0, w_ald_0, w_ild_1, w_ild_2, w_ild_3, w_ild4, w_iv4, tfr_0, tfr_1, tfr_2, tfr_3, tfr_4, w_gf_13_5, tw_t, w_aa, w_gf_13_3, w_iv1, w_iv3, w_gf_13_11, w_iv2, w_ire, trg, w64_r, true_and, and_true, Nat.reduceAdd, Nat.reduceSub, eq_self, tsh_0, tyk_13, tsh_77, tyk_8, tcq_8, tsh_5, tyk_11, tcq_13, tcq_11, tyk_4, tcq_4, tsh_113, tsh_650, tsh_499, tyk_27, tel_5, tyk_7, tcq_7, sf, ci]
  refine tc_xn (D := 0) (fun d' hd' => x_cs hz) (by omega) rfl ?_ (fun s M' q => Or.inr ⟨_, rfl, rfl, by rw [q]; exact k3⟩)
  rintro M4 ⟨hz0, rfl⟩
  try simp only [kb_X11_area_0, w_ald_0, w_ild_1, w_ild_2, w_ild_3, w_ild4, w_iv4, tfr_0, tfr_1, tfr_2, tfr_3, tfr_4, w_gf_13_5, tw_t, w_aa, w_gf_13_3, w_iv1, w_iv3, w_gf_13_11, w_iv2, w_ire, trg, w64_r, true_and, and_true, Nat.reduceAdd, Nat.reduceSub, eq_self, tsh_0, tyk_13, tsh_77, tyk_8, tcq_8, tsh_5, tyk_11, tcq_13, tcq_11, tyk_4, tcq_4, tsh_113, tsh_650, tsh_499, tyk_27, tel_5, tyk_7, tcq_7, sf, ci]
  refine tc_i (D := 3) (fun d' hd' => v_fill a1 cl_650 (b3 hz0) (by decide) k3.2 k3.1.1 hd') (by omega) ?_
  rintro w M5 ⟨p1, p2⟩
  try simp only [kb_X11_area_0, w_ald_0, w_ild_1, w_ild_2, w_ild_3, w_ild4, w_iv4, tfr_0, tfr_1, tfr_2, tfr_3, tfr_4, w_gf_13_5, tw_t, w_aa, w_gf_13_3, w_iv1, w_iv3, w_gf_13_11, w_iv2, w_ire, trg, w64_r, true_and, and_true, Nat.reduceAdd, Nat.reduceSub, eq_self, tsh_0, tyk_13, tsh_77, tyk_8, tcq_8, tsh_5, tyk_11, tcq_13, tcq_11, tyk_4, tcq_4, tsh_113, tsh_650, tsh_499, tyk_27, tel_5, tyk_7, tcq_7, sf, ci]
  exact ⟨by omega, Or.inl ⟨_, rfl, rfl, p1, KA_tr k3.1.2 p2⟩⟩
end HAND
