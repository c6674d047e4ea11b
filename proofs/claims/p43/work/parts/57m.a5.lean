/-! THE CLASS BY VALUES: a row times a factor; what a row is worth. -/
theorem SV_z {M : tM} {r : Nat} : ∀ {k : Nat}, (∀ j : Nat, j < k → M r (j : Int) = 0) → SV M r k = 0 := by
  intro k
  induction k with
  | zero => intro _; rfl
  | succ k ih =>
    intro h
    rw [SV_s, h k (by omega), Int.zero_mul, ih (fun j q => h j (by omega))]
    rfl
section HAND
variable {e : tE} {b d n : Nat} {M : tM}
/-- what is left of a row when carries went up to a place -/
theorem cs_idx (I J : Nat) : ((I : Nat) : Int) + ((J : Nat) : Int) = ((I + J : Nat) : Int) := (Int.natCast_add I J).symm
theorem y_widen {a c u be : Nat} {N F : Int} (hr : RC M a c) (hu : M 79 8 = (u : Int)) (hbe : M 79 7 = (be : Int)) (hul : 1 ≤ u ∧ u ≤ 27) (hbl : be ≤ 26 ∧ be ≤ u + 2) (hN : RD M a u N) (hF : RD M 85 5 F) (hb : b < 2) (hC : CI M) : tC e d 2581 [.inr (.inr (.inl 79))] M n (tQn n (fun M' => ∃ u' : Nat, RC M' c a ∧ M' 79 8 = (u' : Int) ∧ M' 79 7 = ((be + 2 : Nat) : Int) ∧ (be + 3 ≤ u' ∧ u' ≤ u + 5) ∧ RD M' c u' (N * F) ∧ (u' = be + 3 ∨ M' c ((u' - 1 : Nat) : Int) ≠ 0) ∧ (CI M' ∧ pE b M M') ∧ ∀ (k : Nat) (i : Int), k ≠ c → ¬ (k = 79 ∧ (i = 4 ∨ i = 5 ∨ i = 7 ∨ i = 8)) → M' k i = M k i)) := by
  obtain ⟨ta, tc, nac, n79, n85⟩ := RC_t hr
  obtain ⟨hac, h4, h5⟩ := hr
  have hc2 : c = 83 ∨ c = 84 := by omega
  have tF := TT_pos 25
  have rN := SV_r hN.1
  have rF := SV_r hF.1
  rw [hN.2] at rN
  rw [hF.2] at rF
  refine tst_X8_widen ?_
  have n224 : ∀ (L : tL) (M1 : tM), (∃ u' : Nat, RC M1 c a ∧ M1 79 8 = (u' : Int) ∧ M1 79 7 = ((be + 2 : Nat) : Int) ∧ (be + 3 ≤ u' ∧ u' ≤ u + 5) ∧ RD M1 c u' (N * F) ∧ (u' = be + 3 ∨ M1 c ((u' - 1 : Nat) : Int) ≠ 0) ∧ (CI M1 ∧ pE b M M1) ∧ ∀ (k : Nat) (i : Int), k ≠ c → ¬ (k = 79 ∧ (i = 4 ∨ i = 5 ∨ i = 7 ∨ i = 8)) → M1 k i = M k i) → tT e d 2581 224 L [] M1 n (tQn n (fun M' => ∃ u' : Nat, RC M' c a ∧ M' 79 8 = (u' : Int) ∧ M' 79 7 = ((be + 2 : Nat) : Int) ∧ (be + 3 ≤ u' ∧ u' ≤ u + 5) ∧ RD M' c u' (N * F) ∧ (u' = be + 3 ∨ M' c ((u' - 1 : Nat) : Int) ≠ 0) ∧ (CI M' ∧ pE b M M') ∧ ∀ (k : Nat) (i : Int), k ≠ c → ¬ (k = 79 ∧ (i = 4 ∨ i = 5 ∨ i = 7 ∨ i = 8)) → M' k i = M k i)) := by
    intro L M1 h
    refine tb_X8_widen_224 (c := false) ?_
    simp only [kb_X8_widen_224, w_re, true_and, and_true, Nat.reduceAdd, Nat.reduceSub, eq_self]
    exact ⟨rfl, rfl, h⟩
  -- the last loop: no zeros in front
  have n182 : ∀ (fu : Nat) (M1 : tM) (u' : Nat) (w1 w2 w3 w4 w5 w6 : Option tV), u' ≤ fu → RC M1 c a → M1 79 8 = (u' : Int) → M1 79 7 = ((be + 2 : Nat) : Int) → (be + 3 ≤ u' ∧ u' ≤ u + 5) → RD M1 c u' (N * F) → (CI M1 ∧ pE b M M1) → (∀ (k : Nat) (i : Int), k ≠ c → ¬ (k = 79 ∧ (i = 4 ∨ i = 5 ∨ i = 7 ∨ i = 8)) → M1 k i = M k i) → tT e d 2581 182 [some (.inr (.inr (.inl (79)))), w1, w2, w3, w4, w5, w6] [] M1 n (tQn n (fun M' => ∃ u' : Nat, RC M' c a ∧ M' 79 8 = (u' : Int) ∧ M' 79 7 = ((be + 2 : Nat) : Int) ∧ (be + 3 ≤ u' ∧ u' ≤ u + 5) ∧ RD M' c u' (N * F) ∧ (u' = be + 3 ∨ M' c ((u' - 1 : Nat) : Int) ≠ 0) ∧ (CI M' ∧ pE b M M') ∧ ∀ (k : Nat) (i : Int), k ≠ c → ¬ (k = 79 ∧ (i = 4 ∨ i = 5 ∨ i = 7 ∨ i = 8)) → M' k i = M k i)) := by
    intro fu
    induction fu with
    | zero => intro M1 u' w1 w2 w3 w4 w5 w6 hf _ _ _ g; exfalso; omega
    | succ fu ih =>
      intro M1 u' w1 w2 w3 w4 w5 w6 hf g1 g2 g3 g4 g5 g6 g7
      have g14 := g1.2.1
      refine tb_X8_widen_182 (c := false) ?_
      simp only [kb_X8_widen_182, w_ald_0, w_gf_10_8, tw_f, w_gf_10_7, w_ic, w_iadd, w_ic_le, w_gf_10_4, w_isub, w_la, w_lax, w_lc0, w_lcmp, ne_eq, tlc_r, tlc_eq, tlc_lt, tlc_ge, tlc_gt, tlc_le, w_if_ne, w_dupi, w_dupr, w_pf_10_8, w_goto, true_and, and_true, Nat.reduceAdd, Nat.reduceSub, eq_self, tsh_79, tyk_10, tcq_10, tyk_21, tyk_22, tcq_32, tcq_5, nat_n, g2, g3, g14, tc]
      refine ⟨by omega, fun h => n224 _ _ ⟨u', g1, g2, g3, g4, g5, Or.inl (by omega), g6, g7⟩, fun h => ?_⟩
      have hm : ((u' : Nat) : Int) - 1 = ((u' - 1 : Nat) : Int) := by omega
      rw [hm]
      have hd := g5.1 (u' - 1) (by omega)
      refine ⟨by omega, by omega, fun h2 => n224 _ _ ⟨u', g1, g2, g3, g4, g5, Or.inr h2, g6, g7⟩, fun h2 => ?_⟩
      have hz : M1 c ((u' - 1 : Nat) : Int) = 0 := by omega
      have hC2 : CI (tU M1 79 8 ((u' - 1 : Nat) : Int)) := CI_put g6.1 tsh_79 (fun _ => by show (-2147483648 : Int) ≤ _ ∧ _ ≤ (2147483647 : Int); omega)
      have hp2 : pE b M1 (tU M1 79 8 ((u' - 1 : Nat) : Int)) := pE_put (prt_f (a := 10) (f := 8) (Or.inl hb) cl_79 (fun q => absurd q (by decide)) (fun q => absurd q (by decide)) (by decide))
      refine ih _ (u' - 1) _ _ _ _ _ _ (by omega) ⟨g1.1, (tU_ni (by decide)).trans g1.2.1, (tU_ni (by decide)).trans g1.2.2⟩ (tU_eq ..) ((tU_ni (by decide)).trans g3) (by omega) ⟨fun j hj => ?_, ?_⟩ ⟨hC2, pE_tr g6.2 hp2⟩ (fun k i q1 q2 => (if_neg (by omega)).trans (g7 k i q1 q2))
      · rw [tU_nk (by omega)]
        exact g5.1 j (by omega)
      · rw [SV_u (M := M1) (fun j _ => tU_nk (by omega)), ← g5.2]
        have e := SV_s M1 c (u' - 1)
        rw [show u' - 1 + 1 = u' by omega, hz, Int.zero_mul] at e
        omega
  -- what stays while the next row is made
  have st : ∀ M1 : tM, CE b M M1 c → M1 79 8 = (u : Int) ∧ M1 79 4 = (a : Int) ∧ M1 79 5 = (c : Int) ∧ M1 79 7 = (be : Int) ∧ (∀ i, M1 a i = M a i) ∧ (∀ i, M1 85 i = M 85 i) := fun M1 h => ⟨(h.2 79 8 (by omega)).trans hu, (h.2 79 4 (by omega)).trans h4, (h.2 79 5 (by omega)).trans h5, (h.2 79 7 (by omega)).trans hbe, fun i => h.2 a i nac, fun i => h.2 85 i (by omega)⟩
  have cl_c : cl c 21 := ⟨tc, by omega⟩
  have cl_a : cl a 21 := ⟨ta, by omega⟩
  -- carries
  have n104z : ∀ (fu : Nat) (M1 : tM) (I : Nat) (cy : Int) (w5 w6 : Option tV), I = u + 5 → (0 ≤ cy ∧ cy ≤ 10000000) → (∀ k : Nat, k < I → 0 ≤ M1 c (k : Int) ∧ M1 c (k : Int) < 100000) → SV M1 c (u + 5) + cy * TT (5 * I) = N * F → CE b M M1 c → tT e d 2581 104 [some (.inr (.inr (.inl (79)))), some (.inl ((u : Int) + 5)), some (.inr (.inl (cy))), none, some (.inl ((I : Int))), w5, w6] [] M1 n (tQn n (fun M' => ∃ u' : Nat, RC M' c a ∧ M' 79 8 = (u' : Int) ∧ M' 79 7 = ((be + 2 : Nat) : Int) ∧ (be + 3 ≤ u' ∧ u' ≤ u + 5) ∧ RD M' c u' (N * F) ∧ (u' = be + 3 ∨ M' c ((u' - 1 : Nat) : Int) ≠ 0) ∧ (CI M' ∧ pE b M M') ∧ ∀ (k : Nat) (i : Int), k ≠ c → ¬ (k = 79 ∧ (i = 4 ∨ i = 5 ∨ i = 7 ∨ i = 8)) → M' k i = M k i)) := by
    intro fu M1 I cy w5 w6 hIe hcy hd1 hs hce
    subst hIe
    obtain ⟨s8, s4, s5, s7, sa, sF⟩ := st M1 hce
    have rS := SV_r (k := u + 5) (r := c) (M := M1) hd1
    have tP := TT_pos (5 * (u + 5))
    have hb1 : N * F < TT (5 * (u + 5)) := by
      rw [show 5 * (u + 5) = 5 * u + 25 by omega, TT_add]
      have g1 : N * F ≤ N * TT 25 := Int.mul_le_mul_of_nonneg_left (Int.le_of_lt rF.2) rN.1
      have g2 : N * TT 25 < TT (5 * u) * TT 25 := Int.mul_lt_mul_of_pos_right rN.2 tF
      omega
    have hcy0 : cy = 0 := by
      rcases Classical.em (cy = 0) with q | q
      · exact q
      · have g : 1 * TT (5 * (u + 5)) ≤ cy * TT (5 * (u + 5)) := Int.mul_le_mul_of_nonneg_right (by omega) (Int.le_of_lt tP)
        rw [Int.one_mul] at g
        omega
    rw [hcy0, Int.zero_mul, Int.add_zero] at hs
    refine tb_X8_widen_104 (c := false) ?_
    simp only [kb_X8_widen_104, w_ild4, w_ild_1, w_ic_ge, w_ald_0, w_gf_10_5, tw_f, w_la, w_lax, w_lld_2, w_ladd, w_lst5, tkl_n, tkl_i, tkl_l, tkl_r, w_lld5, w_ld2, w_lrem, w_las, w_ldiv, w_lst_2, w_inc4, w_goto, true_and, and_true, Nat.reduceAdd, Nat.reduceSub, eq_self, tsh_79, tyk_10, tcq_10, tyk_21, tyk_22, tcq_32, tcq_5, nat_n, s5, tc]
    refine ⟨by omega, fun _ => ?_, fun h => absurd (by omega) h⟩
    refine tb_X8_widen_147 (c := false) ?_
    simp only [kb_X8_widen_147, w_ald_0, w_gf_10_4, tw_f, w_ast4, tkl_n, tkl_i, tkl_l, tkl_r, w_gf_10_5, w_pf_10_4, w_ald4, w_pf_10_5, w_dupi, w_dupr, w_gf_10_7, w_ic, w_iadd, w_pf_10_7, w_ild_1, w_pf_10_8, w_nil, true_and, and_true, Nat.reduceAdd, Nat.reduceSub, eq_self, tsh_79, tyk_10, tcq_10, tyk_21, tyk_22, tcq_32, tcq_5, nat_n, s4, s5]
    have k1 := CI_put (i := 4) (v := (c : Int)) hce.1.1 tsh_79 (fun _ => by show cl ((c : Nat) : Int).toNat 21; rw [nat_n]; exact cl_c)
    have p1 : pE b M1 (tU M1 79 4 (c : Int)) := pE_put (prt_f (a := 10) (f := 4) (Or.inl hb) cl_79 (fun q => absurd q (by decide)) (fun q => absurd q (by decide)) (by decide))
    have k2 := CI_put (i := 5) (v := (a : Int)) k1 tsh_79 (fun _ => by show cl ((a : Nat) : Int).toNat 21; rw [nat_n]; exact cl_a)
    have p2 : pE b (tU M1 79 4 (c : Int)) (tU (tU M1 79 4 (c : Int)) 79 5 (a : Int)) := pE_put (prt_f (a := 10) (f := 5) (Or.inl hb) cl_79 (fun q => absurd q (by decide)) (fun q => absurd q (by decide)) (by decide))
    have e7 : tU (tU M1 79 4 (c : Int)) 79 5 (a : Int) 79 7 = (be : Int) := (tU_ni (by decide)).trans ((tU_ni (by decide)).trans s7)
    rw [e7]
    generalize hM2 : tU (tU M1 79 4 (c : Int)) 79 5 (a : Int) = M2 at k2 p2 ⊢
    have k3 := CI_put (i := 7) (v := (be : Int) + 2) k2 tsh_79 (fun _ => by show (-2147483648 : Int) ≤ _ ∧ _ ≤ (2147483647 : Int); omega)
    have p3 : pE b M2 (tU M2 79 7 ((be : Int) + 2)) := pE_put (prt_f (a := 10) (f := 7) (Or.inl hb) cl_79 (fun q => absurd q (by decide)) (fun q => absurd q (by decide)) (by decide))
    have k4 := CI_put (i := 8) (v := (u : Int) + 5) k3 tsh_79 (fun _ => by show (-2147483648 : Int) ≤ _ ∧ _ ≤ (2147483647 : Int); omega)
    have p4 : pE b (tU M2 79 7 ((be : Int) + 2)) (tU (tU M2 79 7 ((be : Int) + 2)) 79 8 ((u : Int) + 5)) := pE_put (prt_f (a := 10) (f := 8) (Or.inl hb) cl_79 (fun q => absurd q (by decide)) (fun q => absurd q (by decide)) (by decide))
    have f2 : ∀ (k : Nat) (i : Int), k ≠ 79 → tU (tU M2 79 7 ((be : Int) + 2)) 79 8 ((u : Int) + 5) k i = M1 k i := fun k i q => by rw [tU_nk q, tU_nk q, ← hM2, tU_nk q, tU_nk q]
    have f3 : ∀ i : Int, ¬ (i = 4 ∨ i = 5 ∨ i = 7 ∨ i = 8) → tU (tU M2 79 7 ((be : Int) + 2)) 79 8 ((u : Int) + 5) 79 i = M1 79 i := fun i q => by rw [tU_ni (by omega), tU_ni (by omega), ← hM2, tU_ni (by omega), tU_ni (by omega)]
    refine n182 (u + 5) _ (u + 5) _ _ _ _ _ _ (Nat.le_refl _) ⟨by omega, ?_, ?_⟩ ?_ ?_ (by omega) ⟨fun j hj => ?_, ?_⟩ ⟨k4, pE_tr hce.1.2 (pE_tr p1 (pE_tr p2 (pE_tr p3 p4)))⟩ (fun k i q1 q2 => ?_)
    · rw [tU_ni (by decide), tU_ni (by decide), ← hM2, tU_ni (by decide), tU_eq]
    · rw [tU_ni (by decide), tU_ni (by decide), ← hM2, tU_eq]
    · rw [tU_eq]
      omega
    · rw [tU_ni (by decide), tU_eq]
      omega
    · rw [f2 _ _ (by omega)]
      exact hd1 j hj
    · rw [SV_u (M := M1) (fun j _ => f2 _ _ (by omega))]
      exact hs
    · by_cases h79 : k = 79
      · subst h79
        rw [f3 i (fun q => q2 ⟨rfl, q⟩)]
        exact hce.2 _ _ (by omega)
      · rw [f2 _ _ h79]
        exact hce.2 _ _ q1
  have n104 : ∀ (fu : Nat) (M1 : tM) (I : Nat) (cy : Int) (w5 w6 : Option tV), u + 5 - I ≤ fu → I ≤ u + 5 → (0 ≤ cy ∧ cy ≤ 10000000) → (∀ k : Nat, k < I → 0 ≤ M1 c (k : Int) ∧ M1 c (k : Int) < 100000) → (∀ k : Nat, I ≤ k → k < u + 5 → 0 ≤ M1 c (k : Int) ∧ M1 c (k : Int) ≤ 300000000000) → SV M1 c (u + 5) + cy * TT (5 * I) = N * F → CE b M M1 c → tT e d 2581 104 [some (.inr (.inr (.inl (79)))), some (.inl ((u : Int) + 5)), some (.inr (.inl (cy))), none, some (.inl ((I : Int))), w5, w6] [] M1 n (tQn n (fun M' => ∃ u' : Nat, RC M' c a ∧ M' 79 8 = (u' : Int) ∧ M' 79 7 = ((be + 2 : Nat) : Int) ∧ (be + 3 ≤ u' ∧ u' ≤ u + 5) ∧ RD M' c u' (N * F) ∧ (u' = be + 3 ∨ M' c ((u' - 1 : Nat) : Int) ≠ 0) ∧ (CI M' ∧ pE b M M') ∧ ∀ (k : Nat) (i : Int), k ≠ c → ¬ (k = 79 ∧ (i = 4 ∨ i = 5 ∨ i = 7 ∨ i = 8)) → M' k i = M k i)) := by
    intro fu
    induction fu with
    | zero =>
      intro M1 I cy w5 w6 hf hI hcy hd1 hd2 hs hce
      exact n104z 0 M1 I cy w5 w6 (by omega) hcy hd1 hs hce
    | succ fu ih =>
      intro M1 I cy w5 w6 hf hI hcy hd1 hd2 hs hce
      rcases Nat.lt_or_ge I (u + 5) with hlt | hge
      · obtain ⟨s8, s4, s5, s7, sa, sF⟩ := st M1 hce
        have hx := hd2 I (Nat.le_refl _) hlt
        have et : ∀ y : Int, 0 ≤ y → y.tdiv 100000 = y / 100000 ∧ y.tmod 100000 = y % 100000 := fun y h => ⟨Int.tdiv_eq_ediv_of_nonneg h, Int.tmod_eq_emod_of_nonneg h⟩
        refine tb_X8_widen_104 (c := false) ?_
        simp only [kb_X8_widen_104, w_ild4, w_ild_1, w_ic_ge, w_ald_0, w_gf_10_5, tw_f, w_la, w_lax, w_lld_2, w_ladd, w_lst5, tkl_n, tkl_i, tkl_l, tkl_r, w_lld5, w_ld2, w_lrem, w_las, w_ldiv, w_lst_2, w_inc4, w_goto, true_and, and_true, Nat.reduceAdd, Nat.reduceSub, eq_self, tsh_79, tyk_10, tcq_10, tyk_21, tyk_22, tcq_32, tcq_5, nat_n, s5, tc]
        refine ⟨by omega, fun h => absurd h (by omega), fun _ => ?_⟩
        refine ⟨by omega, ?_⟩
        rw [(et (M1 c (I : Int) + cy) (by omega)).1, (et (M1 c (I : Int) + cy) (by omega)).2]
        refine ⟨by omega, by omega, by omega, ?_⟩
        rw [show ((I : Nat) : Int) + 1 = ((I + 1 : Nat) : Int) by omega]
        have ce := CE_tr hce (CE_row (i := (I : Int)) (v := (M1 c (I : Int) + cy) % 100000) hb hce.1.1 hc2 (by omega))
        refine ih _ (I + 1) _ _ _ (by omega) (by omega) (by omega) (fun k hk => ?_) (fun k hk1 hk2 => ?_) ?_ ce
        · by_cases hkI : k = I
          · rw [hkI, tU_eq]
            omega
          · rw [tU_ni (by omega)]
            exact hd1 k (by omega)
        · rw [tU_ni (by omega)]
          exact hd2 k (by omega) hk2
        · rw [SV_set hlt, TT_5s, ← hs]
          generalize M1 c (I : Int) = x at hx ⊢
          generalize TT (5 * I) = T
          have e1 : (x + cy) / 100000 * (T * 100000) = (x + cy) / 100000 * 100000 * T := by rw [Int.mul_comm T, ← Int.mul_assoc]
          have e2 : ((x + cy) % 100000 - x) * T + (x + cy) / 100000 * 100000 * T = cy * T := by
            rw [← Int.add_mul]
            congr 1
            omega
          rw [e1, Int.add_assoc, e2]
      · exact n104z fu M1 I cy w5 w6 (by omega) hcy hd1 hs hce
  -- a place of the row times the factor
  have n36 : ∀ (fu : Nat) (M1 : tM) (I : Nat) (w3 w4 w5 w6 : Option tV), u - I ≤ fu → I ≤ u → (∀ k : Nat, k < u + 5 → 0 ≤ M1 c (k : Int) ∧ M1 c (k : Int) ≤ (I : Int) * 10000000000) → SV M1 c (u + 5) = SV M a I * F → CE b M M1 c → tT e d 2581 36 [some (.inr (.inr (.inl (79)))), some (.inl ((u : Int) + 5)), some (.inl ((I : Int))), w3, w4, w5, w6] [] M1 n (tQn n (fun M' => ∃ u' : Nat, RC M' c a ∧ M' 79 8 = (u' : Int) ∧ M' 79 7 = ((be + 2 : Nat) : Int) ∧ (be + 3 ≤ u' ∧ u' ≤ u + 5) ∧ RD M' c u' (N * F) ∧ (u' = be + 3 ∨ M' c ((u' - 1 : Nat) : Int) ≠ 0) ∧ (CI M' ∧ pE b M M') ∧ ∀ (k : Nat) (i : Int), k ≠ c → ¬ (k = 79 ∧ (i = 4 ∨ i = 5 ∨ i = 7 ∨ i = 8)) → M' k i = M k i)) := by
    intro fu
    induction fu with
    | zero =>
      intro M1 I w3 w4 w5 w6 hf hI hd1 hs hce
      have hIe : I = u := by omega
      subst hIe
      obtain ⟨s8, s4, s5, s7, sa, sF⟩ := st M1 hce
      refine tb_X8_widen_36 (c := false) ?_
      simp only [kb_X8_widen_36, w_ild_2, w_ald_0, w_gf_10_8, tw_f, w_ic_ge, w_gf_10_4, w_la, w_lax, w_lst_3, tkl_n, tkl_i, tkl_l, tkl_r, w_lld_3, w_lc0, w_lcmp, ne_eq, tlc_r, tlc_eq, tlc_lt, tlc_ge, tlc_gt, tlc_le, w_if_eq, w_ic, w_ist5, w_nil, true_and, and_true, Nat.reduceAdd, Nat.reduceSub, eq_self, tsh_79, tyk_10, tcq_10, tyk_21, tyk_22, tcq_32, tcq_5, nat_n, s8]
      refine ⟨by omega, fun _ => ?_, fun h => absurd (by omega) h⟩
      refine tb_X8_widen_99 (c := false) ?_
      simp only [kb_X8_widen_99, w_lc0, w_lst_2, tkl_n, tkl_i, tkl_l, tkl_r, w_ic, w_ist4, w_nil, true_and, and_true, Nat.reduceAdd, Nat.reduceSub, eq_self]
      refine n104 (I + 5) M1 0 0 _ _ (by omega) (by omega) (by omega) (fun k hk => absurd hk (Nat.not_lt_zero k)) (fun k _ hk => ?_) ?_ hce
      · have := hd1 k hk
        omega
      · rw [hs, hN.2, Int.zero_mul, Int.add_zero]
    | succ fu ih =>
      intro M1 I w3 w4 w5 w6 hf hI hd1 hs hce
      obtain ⟨s8, s4, s5, s7, sa, sF⟩ := st M1 hce
      rcases Nat.lt_or_ge I u with hlt | hge
      · have hpl := hN.1 I hlt
        have saI := sa (I : Int)
        refine tb_X8_widen_36 (c := false) ?_
        simp only [kb_X8_widen_36, w_ild_2, w_ald_0, w_gf_10_8, tw_f, w_ic_ge, w_gf_10_4, w_la, w_lax, w_lst_3, tkl_n, tkl_i, tkl_l, tkl_r, w_lld_3, w_lc0, w_lcmp, ne_eq, tlc_r, tlc_eq, tlc_lt, tlc_ge, tlc_gt, tlc_le, w_if_eq, w_ic, w_ist5, w_nil, true_and, and_true, Nat.reduceAdd, Nat.reduceSub, eq_self, tsh_79, tyk_10, tcq_10, tyk_21, tyk_22, tcq_32, tcq_5, nat_n, s8, s4, ta, saI]
        refine ⟨by omega, fun h => absurd h (by omega), fun _ => ?_⟩
        refine ⟨by omega, by omega, fun h => ?_, fun h => ?_⟩
        · refine tb_X8_widen_93 (c := false) ?_
          simp only [kb_X8_widen_93, w_inc2, tkl_n, tkl_i, tkl_l, tkl_r, w_goto, true_and, and_true, Nat.reduceAdd, Nat.reduceSub, eq_self]
          rw [show ((I : Nat) : Int) + 1 = ((I + 1 : Nat) : Int) by omega]
          refine ih M1 (I + 1) _ _ _ _ (by omega) (by omega) (fun k hk => ?_) ?_ hce
          · have := hd1 k hk
            omega
          · rw [hs, SV_s, h, Int.zero_mul, Int.add_zero]
        -- the places of the factor
        have n60 : ∀ (fu2 : Nat) (M2 : tM) (J : Nat) (w6 : Option tV), 5 - J ≤ fu2 → J ≤ 5 → (∀ k : Nat, k < u + 5 → 0 ≤ M2 c (k : Int) ∧ M2 c (k : Int) ≤ ((I + 1 : Nat) : Int) * 10000000000) → (∀ k : Nat, I + J ≤ k → k < u + 5 → M2 c (k : Int) ≤ (I : Int) * 10000000000) → SV M2 c (u + 5) = SV M a I * F + M a (I : Int) * TT (5 * I) * SV M 85 J → CE b M M2 c → tT e d 2581 60 [some (.inr (.inr (.inl (79)))), some (.inl ((u : Int) + 5)), some (.inl ((I : Int))), some (.inr (.inl (M a (I : Int)))), none, some (.inl ((J : Int))), w6] [] M2 n (tQn n (fun M' => ∃ u' : Nat, RC M' c a ∧ M' 79 8 = (u' : Int) ∧ M' 79 7 = ((be + 2 : Nat) : Int) ∧ (be + 3 ≤ u' ∧ u' ≤ u + 5) ∧ RD M' c u' (N * F) ∧ (u' = be + 3 ∨ M' c ((u' - 1 : Nat) : Int) ≠ 0) ∧ (CI M' ∧ pE b M M') ∧ ∀ (k : Nat) (i : Int), k ≠ c → ¬ (k = 79 ∧ (i = 4 ∨ i = 5 ∨ i = 7 ∨ i = 8)) → M' k i = M k i)) := by
          intro fu2
          induction fu2 with
          | zero =>
            intro M2 J w6 hf2 hJ hd3 hd4 hs2 hce2
            have hJe : J = 5 := by omega
            subst hJe
            refine tb_X8_widen_60 (c := false) ?_
            simp only [kb_X8_widen_60, w_ild5, w_ic, w_ic_ge, w_ald_0, w_gf_10_5, tw_f, w_ild_2, w_iadd, w_dup2l, w_dup2a, w_la, w_lax, w_lld_3, w_gf_10_6, w_lmul, w_ladd, w_las, w_inc5, tkl_n, tkl_i, tkl_l, tkl_r, w_goto, true_and, and_true, Nat.reduceAdd, Nat.reduceSub, eq_self, tsh_79, tyk_10, tcq_10, tyk_21, tyk_22, tcq_32, tcq_5, nat_n]
            refine ⟨by decide, fun _ => ?_, fun h => absurd (by decide) h⟩
            refine tb_X8_widen_93 (c := false) ?_
            simp only [kb_X8_widen_93, w_inc2, tkl_n, tkl_i, tkl_l, tkl_r, w_goto, true_and, and_true, Nat.reduceAdd, Nat.reduceSub, eq_self]
            rw [show ((I : Nat) : Int) + 1 = ((I + 1 : Nat) : Int) by omega]
            refine ih M2 (I + 1) _ _ _ _ (by omega) (by omega) hd3 ?_ hce2
            rw [hs2, hF.2, SV_s M a I, Int.add_mul]
          | succ fu2 ih2 =>
            intro M2 J w6 hf2 hJ hd3 hd4 hs2 hce2
            obtain ⟨z8, z4, z5, z7, za, zF⟩ := st M2 hce2
            rcases Nat.lt_or_ge J 5 with hJl | hJg
            · have hfa := hF.1 J hJl
              have zFJ := zF (J : Int)
              have hx := hd3 (I + J) (by omega)
              have hx4 := hd4 (I + J) (Nat.le_refl _) (by omega)
              have pr1 : 0 ≤ M a (I : Int) * M 85 (J : Int) := Int.mul_nonneg hpl.1 hfa.1
              have pr2 : M a (I : Int) * M 85 (J : Int) ≤ 99999 * 99999 := Int.mul_le_mul (by omega) (by omega) hfa.1 (by decide)
              refine tb_X8_widen_60 (c := false) ?_
              simp only [kb_X8_widen_60, w_ild5, w_ic, w_ic_ge, w_ald_0, w_gf_10_5, tw_f, w_ild_2, w_iadd, w_dup2l, w_dup2a, w_la, w_lax, w_lld_3, w_gf_10_6, w_lmul, w_ladd, w_las, w_inc5, tkl_n, tkl_i, tkl_l, tkl_r, w_goto, true_and, and_true, Nat.reduceAdd, Nat.reduceSub, eq_self, tsh_79, tyk_10, tcq_10, tyk_21, tyk_22, tcq_32, tcq_5, nat_n, z5, tc, tsh_85, zFJ, cs_idx]
              refine ⟨by omega, fun h => absurd h (by omega), fun _ => ?_⟩
              refine ⟨by omega, by omega, by omega, ?_⟩
              rw [show ((J : Nat) : Int) + 1 = ((J + 1 : Nat) : Int) by omega]
              have ce := CE_tr hce2 (CE_row (i := ((I + J : Nat) : Int)) (v := M2 c ((I + J : Nat) : Int) + M a (I : Int) * M 85 (J : Int)) hb hce2.1.1 hc2 (by omega))
              refine ih2 _ (J + 1) _ (by omega) (by omega) (fun k hk => ?_) (fun k hk1 hk2 => ?_) ?_ ce
              · by_cases hkI : k = I + J
                · rw [hkI, tU_eq]
                  omega
                · rw [tU_ni (by omega)]
                  exact hd3 k hk
              · rw [tU_ni (by omega)]
                exact hd4 k (by omega) hk2
              · rw [SV_set (by omega), hs2, SV_s, show 5 * (I + J) = 5 * I + 5 * J by omega, TT_add]
                generalize M a (I : Int) = p
                generalize M 85 (J : Int) = q
                generalize M2 c ((I + J : Nat) : Int) = x
                generalize TT (5 * I) = A
                generalize TT (5 * J) = B
                generalize SV M 85 J = S
                generalize SV M a I * F = Z
                rw [show x + p * q - x = p * q by omega, Int.mul_add, Int.add_assoc]
                congr 1
                congr 1
                rw [Int.mul_assoc, Int.mul_assoc, Int.mul_left_comm q A B]
            · have hJe : J = 5 := by omega
              subst hJe
              refine tb_X8_widen_60 (c := false) ?_
              simp only [kb_X8_widen_60, w_ild5, w_ic, w_ic_ge, w_ald_0, w_gf_10_5, tw_f, w_ild_2, w_iadd, w_dup2l, w_dup2a, w_la, w_lax, w_lld_3, w_gf_10_6, w_lmul, w_ladd, w_las, w_inc5, tkl_n, tkl_i, tkl_l, tkl_r, w_goto, true_and, and_true, Nat.reduceAdd, Nat.reduceSub, eq_self, tsh_79, tyk_10, tcq_10, tyk_21, tyk_22, tcq_32, tcq_5, nat_n]
              refine ⟨by decide, fun _ => ?_, fun h => absurd (by decide) h⟩
              refine tb_X8_widen_93 (c := false) ?_
              simp only [kb_X8_widen_93, w_inc2, tkl_n, tkl_i, tkl_l, tkl_r, w_goto, true_and, and_true, Nat.reduceAdd, Nat.reduceSub, eq_self]
              rw [show ((I : Nat) : Int) + 1 = ((I + 1 : Nat) : Int) by omega]
              refine ih M2 (I + 1) _ _ _ _ (by omega) (by omega) hd3 ?_ hce2
              rw [hs2, hF.2, SV_s M a I, Int.add_mul]
        exact n60 5 M1 0 _ (by omega) (by omega) (fun k hk => by have := hd1 k hk; omega) (fun k _ hk => (hd1 k hk).2) (by rw [hs, show SV M 85 0 = 0 from rfl, Int.mul_zero, Int.add_zero]) hce
      · have hIe : I = u := by omega
        subst hIe
        refine tb_X8_widen_36 (c := false) ?_
        simp only [kb_X8_widen_36, w_ild_2, w_ald_0, w_gf_10_8, tw_f, w_ic_ge, w_gf_10_4, w_la, w_lax, w_lst_3, tkl_n, tkl_i, tkl_l, tkl_r, w_lld_3, w_lc0, w_lcmp, ne_eq, tlc_r, tlc_eq, tlc_lt, tlc_ge, tlc_gt, tlc_le, w_if_eq, w_ic, w_ist5, w_nil, true_and, and_true, Nat.reduceAdd, Nat.reduceSub, eq_self, tsh_79, tyk_10, tcq_10, tyk_21, tyk_22, tcq_32, tcq_5, nat_n, s8]
        refine ⟨by omega, fun _ => ?_, fun h => absurd (by omega) h⟩
        refine tb_X8_widen_99 (c := false) ?_
        simp only [kb_X8_widen_99, w_lc0, w_lst_2, tkl_n, tkl_i, tkl_l, tkl_r, w_ic, w_ist4, w_nil, true_and, and_true, Nat.reduceAdd, Nat.reduceSub, eq_self]
        refine n104 (I + 5) M1 0 0 _ _ (by omega) (by omega) (by omega) (fun k hk => absurd hk (Nat.not_lt_zero k)) (fun k _ hk => ?_) ?_ hce
        · have := hd1 k hk
          omega
        · rw [hs, hN.2, Int.zero_mul, Int.add_zero]
  -- the row of zeros
  have n16 : ∀ (fu : Nat) (M1 : tM) (I : Nat) (w3 w4 w5 w6 : Option tV), u + 5 - I ≤ fu → I ≤ u + 5 → (∀ k : Nat, k < I → M1 c (k : Int) = 0) → CE b M M1 c → tT e d 2581 16 [some (.inr (.inr (.inl (79)))), some (.inl ((u : Int) + 5)), some (.inl ((I : Int))), w3, w4, w5, w6] [] M1 n (tQn n (fun M' => ∃ u' : Nat, RC M' c a ∧ M' 79 8 = (u' : Int) ∧ M' 79 7 = ((be + 2 : Nat) : Int) ∧ (be + 3 ≤ u' ∧ u' ≤ u + 5) ∧ RD M' c u' (N * F) ∧ (u' = be + 3 ∨ M' c ((u' - 1 : Nat) : Int) ≠ 0) ∧ (CI M' ∧ pE b M M') ∧ ∀ (k : Nat) (i : Int), k ≠ c → ¬ (k = 79 ∧ (i = 4 ∨ i = 5 ∨ i = 7 ∨ i = 8)) → M' k i = M k i)) := by
    intro fu
    induction fu with
    | zero =>
      intro M1 I w3 w4 w5 w6 hf hI hz hce
      have hIe : I = u + 5 := by omega
      subst hIe
      refine tb_X8_widen_16 (c := false) ?_
      simp only [kb_X8_widen_16, w_ild_2, w_ild_1, w_ic_ge, w_ald_0, w_gf_10_5, tw_f, w_lc0, w_las, w_inc2, tkl_n, tkl_i, tkl_l, tkl_r, w_goto, true_and, and_true, Nat.reduceAdd, Nat.reduceSub, eq_self, tsh_79, tyk_10, tcq_10, tyk_21, tyk_22, tcq_32, tcq_5, nat_n]
      refine ⟨by omega, fun _ => ?_, fun h => absurd (by omega) h⟩
      refine tb_X8_widen_34 (c := false) ?_
      simp only [kb_X8_widen_34, w_ic, w_ist_2, tkl_n, tkl_i, tkl_l, tkl_r, w_nil, true_and, and_true, Nat.reduceAdd, Nat.reduceSub, eq_self]
      refine n36 u M1 0 _ _ _ _ (by omega) (by omega) (fun k hk => ?_) ?_ hce
      · rw [hz k hk]
        omega
      · rw [SV_z hz, show SV M a 0 = 0 from rfl, Int.zero_mul]
    | succ fu ih =>
      intro M1 I w3 w4 w5 w6 hf hI hz hce
      obtain ⟨s8, s4, s5, s7, sa, sF⟩ := st M1 hce
      rcases Nat.lt_or_ge I (u + 5) with hlt | hge
      · refine tb_X8_widen_16 (c := false) ?_
        simp only [kb_X8_widen_16, w_ild_2, w_ild_1, w_ic_ge, w_ald_0, w_gf_10_5, tw_f, w_lc0, w_las, w_inc2, tkl_n, tkl_i, tkl_l, tkl_r, w_goto, true_and, and_true, Nat.reduceAdd, Nat.reduceSub, eq_self, tsh_79, tyk_10, tcq_10, tyk_21, tyk_22, tcq_32, tcq_5, nat_n, s5, tc]
        refine ⟨by omega, fun h => absurd h (by omega), fun _ => ?_⟩
        repeat refine ⟨by omega, ?_⟩
        rw [show ((I : Nat) : Int) + 1 = ((I + 1 : Nat) : Int) by omega]
        refine ih _ (I + 1) _ _ _ _ (by omega) (by omega) (fun k hk => ?_) (CE_tr hce (CE_row (i := (I : Int)) (v := 0) hb hce.1.1 hc2 (by omega)))
        by_cases hkI : k = I
        · rw [hkI, tU_eq]
        · rw [tU_ni (by omega)]
          exact hz k (by omega)
      · have hIe : I = u + 5 := by omega
        subst hIe
        refine tb_X8_widen_16 (c := false) ?_
        simp only [kb_X8_widen_16, w_ild_2, w_ild_1, w_ic_ge, w_ald_0, w_gf_10_5, tw_f, w_lc0, w_las, w_inc2, tkl_n, tkl_i, tkl_l, tkl_r, w_goto, true_and, and_true, Nat.reduceAdd, Nat.reduceSub, eq_self, tsh_79, tyk_10, tcq_10, tyk_21, tyk_22, tcq_32, tcq_5, nat_n]
        refine ⟨by omega, fun _ => ?_, fun h => absurd (by omega) h⟩
        refine tb_X8_widen_34 (c := false) ?_
        simp only [kb_X8_widen_34, w_ic, w_ist_2, tkl_n, tkl_i, tkl_l, tkl_r, w_nil, true_and, and_true, Nat.reduceAdd, Nat.reduceSub, eq_self]
        refine n36 u M1 0 _ _ _ _ (by omega) (by omega) (fun k hk => ?_) ?_ hce
        · rw [hz k hk]
          omega
        · rw [SV_z hz, show SV M a 0 = 0 from rfl, Int.zero_mul]
  refine tb_X8_widen_0 (c := false) ?_
  simp only [kb_X8_widen_0, w_ald_0, w_gf_10_8, tw_f, w_ic, w_iadd, w_ist_1, tkl_n, tkl_i, tkl_l, tkl_r, w_ild_1, w_bi, w_ic_le, w_re, true_and, and_true, Nat.reduceAdd, Nat.reduceSub, eq_self, tsh_79, tyk_10, tcq_10, tyk_21, tyk_22, tcq_32, tcq_5, nat_n, hu]
  repeat refine ⟨by omega, ?_⟩
  refine ⟨fun _ => ?_, fun h => absurd (by omega) h⟩
  refine tb_X8_widen_14 (c := false) ?_
  simp only [kb_X8_widen_14, w_ic, w_ist_2, tkl_n, tkl_i, tkl_l, tkl_r, w_nil, true_and, and_true, Nat.reduceAdd, Nat.reduceSub, eq_self]
  exact n16 (u + 5) M 0 _ _ _ _ (by omega) (by omega) (fun k hk => absurd hk (Nat.not_lt_zero k)) (CE_refl hC)
end HAND
