/-! THE CLASS BY VALUES: the logarithm. -/
theorem w32_e {x : Int} (h : -2147483648 ≤ x ∧ x < 2147483648) : w32 x = x := by unfold w32; omega
theorem w64_e {x : Int} (h : -9223372036854775808 ≤ x ∧ x < 9223372036854775808) : w64 x = x := by unfold w64; omega
theorem p37 : (2 : Int) ^ ((37 : Int).toNat) = 137438953472 := by decide
theorem p36 : (2 : Int) ^ ((36 : Int).toNat) = 68719476736 := by decide
theorem LB6 : (1000000000 : Int) ^ 6 = 1000000000000000000000000000000000000000000000000000000 := by decide
/-- the middle of a row, and the logarithm by a row -/
def lgu (row : Nat) : Int := (2 * (row : Int) + 17) * 687194767360000000000
noncomputable def clF (row : Nat) (o : Int) : Int := tbN bLOGS row 6 + (if o < lgu row then -(2 * csr false (qz (lgu row - o) (o + lgu row))) else 2 * csr false (qz (o - lgu row) (o + lgu row)))
/-- what stands for a number's logarithm -/
def LGX (v X : Int) : Prop := ∃ k row : Nat, (k ≤ 80 ∧ row ≤ 7) ∧ ((8 + (row : Int)) * 1374389534720000000000 ≤ v * 2 ^ k ∧ v * 2 ^ k < (9 + (row : Int)) * 1374389534720000000000) ∧ X = clF row (v * 2 ^ k) + (40 - (k : Int)) * tbN bLOGS 8 6
def LGY (v X : Int) : Prop := (v = 10000000000 ∧ X = 0) ∨ (v ≠ 10000000000 ∧ LGX v X)
section HAND
variable {e : tE} {b d n : Nat} {M : tM}
theorem t_abs {x1 : Int} (h0 : -87 ≤ x1 ∧ x1 ≤ 40) : tC e d 4352 [.inl x1] M n (tQi n (fun z M' => z = (if x1 < 0 then -x1 else x1) ∧ M' = M)) := by
  refine tst_J9_abs_0f7a4 ?_
  have n10 : ∀ z : Int, z = (if x1 < 0 then -x1 else x1) → tT e d 4352 10 [some (.inl (x1))] [.inl z] M n (tQi n (fun z M' => z = (if x1 < 0 then -x1 else x1) ∧ M' = M)) := by
    intro z hz
    refine tb_J9_abs_0f7a4_10 (c := false) ?_
    simp only [kb_J9_abs_0f7a4_10, w_ire, trg, true_and, and_true, Nat.reduceAdd, Nat.reduceSub, eq_self]
    exact ⟨_, rfl, rfl, hz, rfl⟩
  refine tb_J9_abs_0f7a4_0 (c := false) ?_
  simp only [kb_J9_abs_0f7a4_0, w_ild_0, w_if_ge, w_ineg, w_goto, true_and, and_true, Nat.reduceAdd, Nat.reduceSub, eq_self]
  repeat refine And.intro (by omega) ?_
  refine ⟨fun g => ?_, fun g => ?_⟩
  · refine tb_J9_abs_0f7a4_9 (c := false) ?_
    simp only [kb_J9_abs_0f7a4_9, w_ild_0, w_nil, true_and, and_true, Nat.reduceAdd, Nat.reduceSub, eq_self]
    exact n10 _ (by rw [if_neg (by omega)])
  · repeat refine And.intro (by omega) ?_
    exact n10 _ (by rw [if_pos (by omega)])
theorem f_logarithm {x : Nat} {v : Int} (h1 : cl x 3) (hx2 : x < 79 ∨ 111 < x) (hv : BB M x v) (rv : 0 < v ∧ v < 10000000000000000000000) (hb : b < 2) (hC : CI M) (hd : 3 ≤ d) : tC e d 1284 [.inr (.inr (.inl 86)), .inr (.inr (.inl x))] M n (tQn n (fun M' => (∃ X : Int, LGY v X ∧ M' 86 1 = (if X < 0 then 1 else 0) ∧ M' 86 2 = (if v = 10000000000 then 0 else 1) ∧ LX M' 96 (if X < 0 then -X else X)) ∧ CF b M M')) := by
  have hx := h1.1
  have rV : RV v := by unfold RV; omega
  refine tst_X3_logarithm ?_
  -- from the difference on
  have n180 : ∀ (M1 : tM) (k row : Nat) (o z : Int) (x1 x2 : Nat) (w2 : Option tV), v ≠ 10000000000 → o = v * 2 ^ k → (k ≤ 80 ∧ row ≤ 7) → ((8 + (row : Int)) * 1374389534720000000000 ≤ o ∧ o < (9 + (row : Int)) * 1374389534720000000000) → BB M1 107 o → BB M1 108 (lgu row) → ((z = 1 ∧ o < lgu row ∧ x1 = 108 ∧ x2 = 107) ∨ (z = 0 ∧ ¬ o < lgu row ∧ x1 = 107 ∧ x2 = 108)) → M1 86 1 = 0 → M1 86 2 = 1 → CF b M M1 → tT e d 1284 180 [some (.inr (.inr (.inl (86)))), some (.inr (.inr (.inl (x)))), w2, some (.inl ((k : Int))), some (.inl ((row : Int))), some (.inl (z))] [.inr (.inr (.inl x2)), .inr (.inr (.inl x1)), .inr (.inr (.inl 105))] M1 n (tQn n (fun M' => (∃ X : Int, LGY v X ∧ M' 86 1 = (if X < 0 then 1 else 0) ∧ M' 86 2 = (if v = 10000000000 then 0 else 1) ∧ LX M' 96 (if X < 0 then -X else X)) ∧ CF b M M')) := by
    intro M1 k row o z x1 x2 w2 hv0 ho hk hr a1 a2 hz a3 a4 a5
    have eu : lgu row = (2 * (row : Int) + 17) * 687194767360000000000 := rfl
    generalize hU : lgu row = u at *
    have rr : (0 : Int) ≤ (row : Int) ∧ (row : Int) ≤ 7 := by omega
    have ru : RV u := by unfold RV; omega
    have ro : RV o := by unfold RV; omega
    have c1 : cl x1 3 := by rcases hz with ⟨_, _, rfl, _⟩ | ⟨_, _, rfl, _⟩; exact cl_108; exact cl_107
    have c2 : cl x2 3 := by rcases hz with ⟨_, _, _, rfl⟩ | ⟨_, _, _, rfl⟩; exact cl_107; exact cl_108
    obtain ⟨p, q, hp, hq, hpr, hqr, hpq⟩ : ∃ p q : Int, BB M1 x1 p ∧ BB M1 x2 q ∧ RV p ∧ RV q ∧ p - q = (if o < u then u - o else o - u) := by
      rcases hz with ⟨_, hl, rfl, rfl⟩ | ⟨_, hl, rfl, rfl⟩
      · exact ⟨u, o, a2, a1, ru, ro, by rw [if_pos hl]⟩
      · exact ⟨o, u, a1, a2, ro, ru, by rw [if_neg hl]⟩
    generalize hA : (if o < u then u - o else o - u) = A at hpq
    have rA : 0 ≤ A ∧ 16 * A ≤ o + u := by rw [← hA]; split <;> omega
    refine tb_X3_logarithm_180 (c := false) ?_
    simp only [kb_X3_logarithm_180, w_iv2, tfr_0, tfr_1, tfr_2, tfr_3, tfr_4, w_ald_0, w_gf_5_10, tw_f, w_gf_5_11, w_gf_5_12, w_ic, w_iv1, w_gf_5_6, w_gf_5_7, w_gs, w_ild4, w_iv3, w_gf_5_8, w_iv0, w_gf_5_5, w_bi, w_ild_3, w_isub, w_is1, w_ic_le, w_goto, true_and, and_true, Nat.reduceAdd, Nat.reduceSub, eq_self, tsh_86, tyk_5, tcq_5, tsh_87, tsh_90, tsh_93, tsh_96, tsh_99, tsh_102, tyk_6, tcq_6, tsh_79, tyk_10, tcq_10, tyk_3, tcq_3, tsh_105, tsh_106, tsh_107, tsh_108]
    refine tc_n (D := 0) (fun d' hd' => y_toDifference (b := b) cl_105 c1 c2 hp hq hpr hqr (Or.inl hb) a5.1.1) (by omega) ?_
    rintro M2 ⟨q1, q2⟩
    rw [hpq] at q1
    try simp only [kb_X3_logarithm_180, w_iv2, tfr_0, tfr_1, tfr_2, tfr_3, tfr_4, w_ald_0, w_gf_5_10, tw_f, w_gf_5_11, w_gf_5_12, w_ic, w_iv1, w_gf_5_6, w_gf_5_7, w_gs, w_ild4, w_iv3, w_gf_5_8, w_iv0, w_gf_5_5, w_bi, w_ild_3, w_isub, w_is1, w_ic_le, w_goto, true_and, and_true, Nat.reduceAdd, Nat.reduceSub, eq_self, tsh_86, tyk_5, tcq_5, tsh_87, tsh_90, tsh_93, tsh_96, tsh_99, tsh_102, tyk_6, tcq_6, tsh_79, tyk_10, tcq_10, tyk_3, tcq_3, tsh_105, tsh_106, tsh_107, tsh_108]
    have b1 : BB M2 107 o := BB_u a1 (fun i => q2.2.2 _ _ (by decide))
    have b2 : BB M2 108 u := BB_u a2 (fun i => q2.2.2 _ _ (by decide))
    refine tc_n (D := 0) (fun d' hd' => y_toSum (b := b) cl_106 cl_107 cl_108 b1 b2 ro ru (Or.inl hb) q2.1) (by omega) ?_
    rintro M3 ⟨q3, q4⟩
    try simp only [kb_X3_logarithm_180, w_iv2, tfr_0, tfr_1, tfr_2, tfr_3, tfr_4, w_ald_0, w_gf_5_10, tw_f, w_gf_5_11, w_gf_5_12, w_ic, w_iv1, w_gf_5_6, w_gf_5_7, w_gs, w_ild4, w_iv3, w_gf_5_8, w_iv0, w_gf_5_5, w_bi, w_ild_3, w_isub, w_is1, w_ic_le, w_goto, true_and, and_true, Nat.reduceAdd, Nat.reduceSub, eq_self, tsh_86, tyk_5, tcq_5, tsh_87, tsh_90, tsh_93, tsh_96, tsh_99, tsh_102, tyk_6, tcq_6, tsh_79, tyk_10, tcq_10, tyk_3, tcq_3, tsh_105, tsh_106, tsh_107, tsh_108]
    have q1' : BB M3 105 A := BB_u q1 (fun i => q4.2.2 _ _ (by decide))
    refine tc_n (D := 2) (fun d' hd' => f_sumOdd (b := b) (alt := false) (Or.inr ⟨rfl, rfl⟩) q1' q3 rA (by omega) hb q4.1 hd') (by omega) ?_
    rintro M4 ⟨q5, q6⟩
    try simp only [kb_X3_logarithm_180, w_iv2, tfr_0, tfr_1, tfr_2, tfr_3, tfr_4, w_ald_0, w_gf_5_10, tw_f, w_gf_5_11, w_gf_5_12, w_ic, w_iv1, w_gf_5_6, w_gf_5_7, w_gs, w_ild4, w_iv3, w_gf_5_8, w_iv0, w_gf_5_5, w_bi, w_ild_3, w_isub, w_is1, w_ic_le, w_goto, true_and, and_true, Nat.reduceAdd, Nat.reduceSub, eq_self, tsh_86, tyk_5, tcq_5, tsh_87, tsh_90, tsh_93, tsh_96, tsh_99, tsh_102, tyk_6, tcq_6, tsh_79, tyk_10, tcq_10, tyk_3, tcq_3, tsh_105, tsh_106, tsh_107, tsh_108]
    have rq := csr_r (alt := false) (qz_r rA (show 0 < o + u by omega))
    have rz := qz_r rA (show 0 < o + u by omega)
    generalize hS : csr false (qz A (o + u)) = s at *
    refine tc_n (D := 0) (fun d' hd' => f_plus (b := b) fx_96 fx_96 q5 q5 (by omega) hb q6.1.1) (by omega) ?_
    rintro M5 ⟨q7, q8⟩
    try simp only [kb_X3_logarithm_180, w_iv2, tfr_0, tfr_1, tfr_2, tfr_3, tfr_4, w_ald_0, w_gf_5_10, tw_f, w_gf_5_11, w_gf_5_12, w_ic, w_iv1, w_gf_5_6, w_gf_5_7, w_gs, w_ild4, w_iv3, w_gf_5_8, w_iv0, w_gf_5_5, w_bi, w_ild_3, w_isub, w_is1, w_ic_le, w_goto, true_and, and_true, Nat.reduceAdd, Nat.reduceSub, eq_self, tsh_86, tyk_5, tcq_5, tsh_87, tsh_90, tsh_93, tsh_96, tsh_99, tsh_102, tyk_6, tcq_6, tsh_79, tyk_10, tcq_10, tyk_3, tcq_3, tsh_105, tsh_106, tsh_107, tsh_108]
    refine tc_n (D := 1) (fun d' hd' => f_load (b := b) (j := 2) (row := row) (f := 1) fx_99 (Or.inl rfl) (by omega) (by decide) hb q8.1.1 hd') (by omega) ?_
    rintro M6 ⟨q9, q10⟩
    try simp only [kb_X3_logarithm_180, w_iv2, tfr_0, tfr_1, tfr_2, tfr_3, tfr_4, w_ald_0, w_gf_5_10, tw_f, w_gf_5_11, w_gf_5_12, w_ic, w_iv1, w_gf_5_6, w_gf_5_7, w_gs, w_ild4, w_iv3, w_gf_5_8, w_iv0, w_gf_5_5, w_bi, w_ild_3, w_isub, w_is1, w_ic_le, w_goto, true_and, and_true, Nat.reduceAdd, Nat.reduceSub, eq_self, tsh_86, tyk_5, tcq_5, tsh_87, tsh_90, tsh_93, tsh_96, tsh_99, tsh_102, tyk_6, tcq_6, tsh_79, tyk_10, tcq_10, tyk_3, tcq_3, tsh_105, tsh_106, tsh_107, tsh_108]
    have tb := tbN_r (j := 2) (row := row) (by omega) (i := 6) (Nat.le_refl _)
    have tb8 := tbN_r (j := 2) (row := 8) (by omega) (i := 6) (Nat.le_refl _)
    rw [show tabL 2 = bLOGS from rfl, LB6] at tb tb8
    rw [show tabL 2 = bLOGS from rfl, show ((1 : Nat) : Int) = 1 from rfl, Int.one_mul] at q9
    generalize hT : tbN bLOGS row 6 = t at *
    generalize hT8 : tbN bLOGS 8 6 = t8 at *
    refine tc_n (D := 0) (fun d' hd' => f_clear (b := b) fx_102 hb q10.1.1) (by omega) ?_
    rintro M7 ⟨q11, q12⟩
    try simp only [kb_X3_logarithm_180, w_iv2, tfr_0, tfr_1, tfr_2, tfr_3, tfr_4, w_ald_0, w_gf_5_10, tw_f, w_gf_5_11, w_gf_5_12, w_ic, w_iv1, w_gf_5_6, w_gf_5_7, w_gs, w_ild4, w_iv3, w_gf_5_8, w_iv0, w_gf_5_5, w_bi, w_ild_3, w_isub, w_is1, w_ic_le, w_goto, true_and, and_true, Nat.reduceAdd, Nat.reduceSub, eq_self, tsh_86, tyk_5, tcq_5, tsh_87, tsh_90, tsh_93, tsh_96, tsh_99, tsh_102, tyk_6, tcq_6, tsh_79, tyk_10, tcq_10, tyk_3, tcq_3, tsh_105, tsh_106, tsh_107, tsh_108]
    repeat refine And.intro (by omega) ?_
    refine tc_i (D := 0) (fun d' hd' => t_abs (by omega)) (by omega) ?_
    rintro ab M8 ⟨hab, rfl⟩
    obtain ⟨f, hf⟩ : ∃ f : Nat, ab = (f : Int) := ⟨ab.toNat, by split at hab <;> omega⟩
    have hf80 : f ≤ 80 := by split at hab <;> omega
    rw [hf]
    try simp only [kb_X3_logarithm_180, w_iv2, tfr_0, tfr_1, tfr_2, tfr_3, tfr_4, w_ald_0, w_gf_5_10, tw_f, w_gf_5_11, w_gf_5_12, w_ic, w_iv1, w_gf_5_6, w_gf_5_7, w_gs, w_ild4, w_iv3, w_gf_5_8, w_iv0, w_gf_5_5, w_bi, w_ild_3, w_isub, w_is1, w_ic_le, w_goto, true_and, and_true, Nat.reduceAdd, Nat.reduceSub, eq_self, tsh_86, tyk_5, tcq_5, tsh_87, tsh_90, tsh_93, tsh_96, tsh_99, tsh_102, tyk_6, tcq_6, tsh_79, tyk_10, tcq_10, tyk_3, tcq_3, tsh_105, tsh_106, tsh_107, tsh_108]
    refine tc_n (D := 1) (fun d' hd' => f_load (b := b) (j := 2) (row := 8) (f := f) fx_93 (Or.inl rfl) (by decide) hf80 hb q12.1.1 hd') (by omega) ?_
    rintro M9 ⟨q13, q14⟩
    try simp only [kb_X3_logarithm_180, w_iv2, tfr_0, tfr_1, tfr_2, tfr_3, tfr_4, w_ald_0, w_gf_5_10, tw_f, w_gf_5_11, w_gf_5_12, w_ic, w_iv1, w_gf_5_6, w_gf_5_7, w_gs, w_ild4, w_iv3, w_gf_5_8, w_iv0, w_gf_5_5, w_bi, w_ild_3, w_isub, w_is1, w_ic_le, w_goto, true_and, and_true, Nat.reduceAdd, Nat.reduceSub, eq_self, tsh_86, tyk_5, tcq_5, tsh_87, tsh_90, tsh_93, tsh_96, tsh_99, tsh_102, tyk_6, tcq_6, tsh_79, tyk_10, tcq_10, tyk_3, tcq_3, tsh_105, tsh_106, tsh_107, tsh_108]
    rw [show tabL 2 = bLOGS from rfl, hT8] at q13
    have pf : 0 ≤ (f : Int) * t8 := Int.mul_nonneg (by omega) tb8.1
    have pf2 : (f : Int) * t8 ≤ 80 * 1000000000000000000000000000000000000000000000000000000 := Int.mul_le_mul (by omega) (by omega) tb8.1 (by decide)
    -- the cells as they stand
    have g1 : CF b M M9 := CF_tr a5 (CF_tr (CF_d q2 (by decide)) (CF_tr (CF_d q4 (by decide)) (CF_tr (DF_C q6) (CF_tr (CF_g fx_96 q8) (CF_tr (CF_g fx_99 q10) (CF_tr (CF_g fx_102 q12) (CF_g fx_93 q14)))))))
    have h99 : LX M9 99 t := LX_u (LX_u q9 (fun i => q12.2 _ _ (by decide) (by decide))) (fun i => q14.2 _ _ (by decide) (by decide))
    have h102 : LX M9 102 0 := LX_u q11 (fun i => q14.2 _ _ (by decide) (by decide))
    have h96 : LX M9 96 (s + s) := LX_u (LX_u (LX_u q7 (fun i => q10.2 _ _ (by decide) (by decide))) (fun i => q12.2 _ _ (by decide) (by decide))) (fun i => q14.2 _ _ (by decide) (by decide))
    have h93 : LX M9 93 ((f : Int) * t8) := q13
    have e1 : M9 86 1 = 0 ∧ M9 86 2 = 1 := by
      have f1 : ∀ i, i = 1 ∨ i = 2 → M9 86 i = M1 86 i := fun i _ => by
        rw [q14.2 86 i (by decide) (by decide), q12.2 86 i (by decide) (by decide), q10.2 86 i (by decide) (by decide), q8.2 86 i (by decide) (by decide), q6.2 86 i (by decide) (fun g => absurd g.1 (by decide)), q4.2.2 86 i (by decide), q2.2.2 86 i (by decide)]
      exact ⟨(f1 1 (Or.inl rfl)).trans a3, (f1 2 (Or.inr rfl)).trans a4⟩
    have eF : clF row o = t + (if o < u then -(s + s) else s + s) := by
      unfold clF
      rw [hU, hT]
      congr 1
      split at hA
      · rename_i hl
        rw [if_pos hl, if_pos hl, hA, hS]
        omega
      · rename_i hl
        rw [if_neg hl, if_neg hl, hA, hS]
        omega
    have fin : ∀ (M11 M12 : tM) (P Q : Int), P - Q = clF row o + (40 - (k : Int)) * t8 → (M12 86 1 = sgn2 P Q ∧ M12 86 2 = M11 86 2 ∧ LX M12 96 (if P < Q then Q - P else P - Q)) → M11 86 2 = 1 → CF b M M11 → BG b M11 M12 → (∃ X : Int, LGY v X ∧ M12 86 1 = (if X < 0 then 1 else 0) ∧ M12 86 2 = (if v = 10000000000 then 0 else 1) ∧ LX M12 96 (if X < 0 then -X else X)) ∧ CF b M M12 := by
      intro M11 M12 P Q h1 h2 h3 h4 h5
      refine ⟨⟨P - Q, Or.inr ⟨hv0, k, row, hk, ?_, ?_⟩, ?_, ?_, ?_⟩, CF_tr h4 (CF_BG h5)⟩
      · rw [← ho]
        exact hr
      · rw [← ho, h1, hT8]
      · rw [h2.1]
        unfold sgn2
        by_cases g : P < Q
        · rw [if_pos g, if_pos (by omega)]
        · rw [if_neg g, if_neg (by omega)]
      · rw [h2.2.1, h3, if_neg hv0]
      · by_cases g : P < Q
        · rw [if_pos (show P - Q < 0 by omega), show -(P - Q) = Q - P by omega]
          rw [if_pos g] at h2
          exact h2.2.2
        · rw [if_neg (show ¬ P - Q < 0 by omega)]
          rw [if_neg g] at h2
          exact h2.2.2
    have ef8 : (40 - (k : Int)) * t8 = if k ≤ 40 then (f : Int) * t8 else -((f : Int) * t8) := by
      by_cases g : k ≤ 40
      · rw [if_pos g]
        congr 1
        split at hab <;> omega
      · rw [if_neg g, ← Int.neg_mul]
        congr 1
        split at hab <;> omega
    generalize hft : (f : Int) * t8 = ft at *
    have n293 : ∀ (M10 : tM) (P Q : Int) (x4 : Nat), LX M10 99 P → LX M10 102 Q → LX M10 96 (s + s) → (0 ≤ P ∧ P ≤ 90 * 1000000000000000000000000000000000000000000000000000000) → (0 ≤ Q ∧ Q ≤ 90 * 1000000000000000000000000000000000000000000000000000000) → P - Q = t + (40 - (k : Int)) * t8 → M10 86 2 = 1 → CF b M M10 → ((x4 = 99 ∧ ¬ o < u) ∨ (x4 = 102 ∧ o < u)) → tT e d 1284 293 [some (.inr (.inr (.inl (86)))), some (.inr (.inr (.inl (x)))), w2, some (.inl ((k : Int))), some (.inl ((row : Int))), some (.inl (z))] [.inr (.inr (.inl x4))] M10 n (tQn n (fun M' => (∃ X : Int, LGY v X ∧ M' 86 1 = (if X < 0 then 1 else 0) ∧ M' 86 2 = (if v = 10000000000 then 0 else 1) ∧ LX M' 96 (if X < 0 then -X else X)) ∧ CF b M M')) := by
      intro M10 P Q x4 b3 b4 b5 b6 b7 b8 b9 b10 hx4
      rcases hx4 with ⟨rfl, hl⟩ | ⟨rfl, hl⟩
      · refine tb_X3_logarithm_293 (c := false) ?_
        simp only [kb_X3_logarithm_293, w_ald_0, w_gf_5_6, tw_f, w_iv1, tfr_0, tfr_1, tfr_2, tfr_3, tfr_4, w_iv0, w_re, true_and, and_true, Nat.reduceAdd, Nat.reduceSub, eq_self, tsh_86, tyk_5, tcq_5, tsh_87, tsh_90, tsh_93, tsh_96, tsh_99, tsh_102, tyk_6, tcq_6, tsh_79, tyk_10, tcq_10, tyk_3, tcq_3, tsh_105, tsh_106, tsh_107, tsh_108]
        refine tc_n (D := 0) (fun d' hd' => f_plus (b := b) fx_99 fx_96 b3 b5 (by omega) hb b10.1.1) (by omega) ?_
        rintro M11 ⟨c3, c4⟩
        try simp only [kb_X3_logarithm_293, w_ald_0, w_gf_5_6, tw_f, w_iv1, tfr_0, tfr_1, tfr_2, tfr_3, tfr_4, w_iv0, w_re, true_and, and_true, Nat.reduceAdd, Nat.reduceSub, eq_self, tsh_86, tyk_5, tcq_5, tsh_87, tsh_90, tsh_93, tsh_96, tsh_99, tsh_102, tyk_6, tcq_6, tsh_79, tyk_10, tcq_10, tyk_3, tcq_3, tsh_105, tsh_106, tsh_107, tsh_108]
        refine tc_n (D := 1) (fun d' hd' => f_settle (b := b) c3 (LX_u b4 (fun i => c4.2 _ _ (by decide) (by decide))) hb c4.1.1 hd') (by omega) ?_
        rintro M12 ⟨c5, c6⟩
        try simp only [kb_X3_logarithm_293, w_ald_0, w_gf_5_6, tw_f, w_iv1, tfr_0, tfr_1, tfr_2, tfr_3, tfr_4, w_iv0, w_re, true_and, and_true, Nat.reduceAdd, Nat.reduceSub, eq_self, tsh_86, tyk_5, tcq_5, tsh_87, tsh_90, tsh_93, tsh_96, tsh_99, tsh_102, tyk_6, tcq_6, tsh_79, tyk_10, tcq_10, tyk_3, tcq_3, tsh_105, tsh_106, tsh_107, tsh_108]
        exact ⟨rfl, rfl, fin M11 M12 _ _ (by rw [eF, if_neg hl]; omega) c5 ((c4.2 86 2 (by decide) (by decide)).trans b9) (CF_tr b10 (CF_g fx_99 c4)) c6⟩
      · refine tb_X3_logarithm_293 (c := false) ?_
        simp only [kb_X3_logarithm_293, w_ald_0, w_gf_5_6, tw_f, w_iv1, tfr_0, tfr_1, tfr_2, tfr_3, tfr_4, w_iv0, w_re, true_and, and_true, Nat.reduceAdd, Nat.reduceSub, eq_self, tsh_86, tyk_5, tcq_5, tsh_87, tsh_90, tsh_93, tsh_96, tsh_99, tsh_102, tyk_6, tcq_6, tsh_79, tyk_10, tcq_10, tyk_3, tcq_3, tsh_105, tsh_106, tsh_107, tsh_108]
        refine tc_n (D := 0) (fun d' hd' => f_plus (b := b) fx_102 fx_96 b4 b5 (by omega) hb b10.1.1) (by omega) ?_
        rintro M11 ⟨c3, c4⟩
        try simp only [kb_X3_logarithm_293, w_ald_0, w_gf_5_6, tw_f, w_iv1, tfr_0, tfr_1, tfr_2, tfr_3, tfr_4, w_iv0, w_re, true_and, and_true, Nat.reduceAdd, Nat.reduceSub, eq_self, tsh_86, tyk_5, tcq_5, tsh_87, tsh_90, tsh_93, tsh_96, tsh_99, tsh_102, tyk_6, tcq_6, tsh_79, tyk_10, tcq_10, tyk_3, tcq_3, tsh_105, tsh_106, tsh_107, tsh_108]
        refine tc_n (D := 1) (fun d' hd' => f_settle (b := b) (LX_u b3 (fun i => c4.2 _ _ (by decide) (by decide))) c3 hb c4.1.1 hd') (by omega) ?_
        rintro M12 ⟨c5, c6⟩
        try simp only [kb_X3_logarithm_293, w_ald_0, w_gf_5_6, tw_f, w_iv1, tfr_0, tfr_1, tfr_2, tfr_3, tfr_4, w_iv0, w_re, true_and, and_true, Nat.reduceAdd, Nat.reduceSub, eq_self, tsh_86, tyk_5, tcq_5, tsh_87, tsh_90, tsh_93, tsh_96, tsh_99, tsh_102, tyk_6, tcq_6, tsh_79, tyk_10, tcq_10, tyk_3, tcq_3, tsh_105, tsh_106, tsh_107, tsh_108]
        exact ⟨rfl, rfl, fin M11 M12 _ _ (by rw [eF, if_pos hl]; omega) c5 ((c4.2 86 2 (by decide) (by decide)).trans b9) (CF_tr b10 (CF_g fx_102 c4)) c6⟩
    have n270 : ∀ x3 : Nat, ((x3 = 99 ∧ k ≤ 40) ∨ (x3 = 102 ∧ ¬ k ≤ 40)) → tT e d 1284 270 [some (.inr (.inr (.inl (86)))), some (.inr (.inr (.inl (x)))), w2, some (.inl ((k : Int))), some (.inl ((row : Int))), some (.inl (z))] [.inr (.inr (.inl x3))] M9 n (tQn n (fun M' => (∃ X : Int, LGY v X ∧ M' 86 1 = (if X < 0 then 1 else 0) ∧ M' 86 2 = (if v = 10000000000 then 0 else 1) ∧ LX M' 96 (if X < 0 then -X else X)) ∧ CF b M M')) := by
      intro x3 h3
      rcases h3 with ⟨rfl, hl⟩ | ⟨rfl, hl⟩
      · rw [if_pos hl] at ef8
        refine tb_X3_logarithm_270 (c := false) ?_
        simp only [kb_X3_logarithm_270, w_ald_0, w_gf_5_5, tw_f, w_iv1, tfr_0, tfr_1, tfr_2, tfr_3, tfr_4, w_ild5, w_if_eq, w_gf_5_8, w_goto, true_and, and_true, Nat.reduceAdd, Nat.reduceSub, eq_self, tsh_86, tyk_5, tcq_5, tsh_87, tsh_90, tsh_93, tsh_96, tsh_99, tsh_102, tyk_6, tcq_6, tsh_79, tyk_10, tcq_10, tyk_3, tcq_3, tsh_105, tsh_106, tsh_107, tsh_108]
        refine tc_n (D := 0) (fun d' hd' => f_plus (b := b) fx_99 fx_93 h99 h93 (by omega) hb g1.1.1) (by omega) ?_
        rintro M10 ⟨c3, c4⟩
        try simp only [kb_X3_logarithm_270, w_ald_0, w_gf_5_5, tw_f, w_iv1, tfr_0, tfr_1, tfr_2, tfr_3, tfr_4, w_ild5, w_if_eq, w_gf_5_8, w_goto, true_and, and_true, Nat.reduceAdd, Nat.reduceSub, eq_self, tsh_86, tyk_5, tcq_5, tsh_87, tsh_90, tsh_93, tsh_96, tsh_99, tsh_102, tyk_6, tcq_6, tsh_79, tyk_10, tcq_10, tyk_3, tcq_3, tsh_105, tsh_106, tsh_107, tsh_108]
        have d1 : LX M10 102 0 := LX_u h102 (fun i => c4.2 _ _ (by decide) (by decide))
        have d2 : LX M10 96 (s + s) := LX_u h96 (fun i => c4.2 _ _ (by decide) (by decide))
        have d3 : M10 86 2 = 1 := (c4.2 86 2 (by decide) (by decide)).trans e1.2
        have d4 := CF_tr g1 (CF_g fx_99 c4)
        repeat refine And.intro (by omega) ?_
        refine ⟨fun g => ?_, fun g => ?_⟩
        · refine tb_X3_logarithm_289 (c := false) ?_
          simp only [kb_X3_logarithm_289, w_ald_0, w_gf_5_7, tw_f, w_nil, true_and, and_true, Nat.reduceAdd, Nat.reduceSub, eq_self, tsh_86, tyk_5, tcq_5, tsh_87, tsh_90, tsh_93, tsh_96, tsh_99, tsh_102, tyk_6, tcq_6, tsh_79, tyk_10, tcq_10, tyk_3, tcq_3, tsh_105, tsh_106, tsh_107, tsh_108]
          exact n293 M10 _ _ 99 c3 d1 d2 (by omega) (by decide) (by omega) d3 d4 (Or.inl ⟨rfl, by omega⟩)
        · exact n293 M10 _ _ 102 c3 d1 d2 (by omega) (by decide) (by omega) d3 d4 (Or.inr ⟨rfl, by omega⟩)
      · rw [if_neg hl] at ef8
        refine tb_X3_logarithm_270 (c := false) ?_
        simp only [kb_X3_logarithm_270, w_ald_0, w_gf_5_5, tw_f, w_iv1, tfr_0, tfr_1, tfr_2, tfr_3, tfr_4, w_ild5, w_if_eq, w_gf_5_8, w_goto, true_and, and_true, Nat.reduceAdd, Nat.reduceSub, eq_self, tsh_86, tyk_5, tcq_5, tsh_87, tsh_90, tsh_93, tsh_96, tsh_99, tsh_102, tyk_6, tcq_6, tsh_79, tyk_10, tcq_10, tyk_3, tcq_3, tsh_105, tsh_106, tsh_107, tsh_108]
        refine tc_n (D := 0) (fun d' hd' => f_plus (b := b) fx_102 fx_93 h102 h93 (by omega) hb g1.1.1) (by omega) ?_
        rintro M10 ⟨c3, c4⟩
        try simp only [kb_X3_logarithm_270, w_ald_0, w_gf_5_5, tw_f, w_iv1, tfr_0, tfr_1, tfr_2, tfr_3, tfr_4, w_ild5, w_if_eq, w_gf_5_8, w_goto, true_and, and_true, Nat.reduceAdd, Nat.reduceSub, eq_self, tsh_86, tyk_5, tcq_5, tsh_87, tsh_90, tsh_93, tsh_96, tsh_99, tsh_102, tyk_6, tcq_6, tsh_79, tyk_10, tcq_10, tyk_3, tcq_3, tsh_105, tsh_106, tsh_107, tsh_108]
        have d1 : LX M10 99 t := LX_u h99 (fun i => c4.2 _ _ (by decide) (by decide))
        have d2 : LX M10 96 (s + s) := LX_u h96 (fun i => c4.2 _ _ (by decide) (by decide))
        have d3 : M10 86 2 = 1 := (c4.2 86 2 (by decide) (by decide)).trans e1.2
        have d4 := CF_tr g1 (CF_g fx_102 c4)
        repeat refine And.intro (by omega) ?_
        refine ⟨fun g => ?_, fun g => ?_⟩
        · refine tb_X3_logarithm_289 (c := false) ?_
          simp only [kb_X3_logarithm_289, w_ald_0, w_gf_5_7, tw_f, w_nil, true_and, and_true, Nat.reduceAdd, Nat.reduceSub, eq_self, tsh_86, tyk_5, tcq_5, tsh_87, tsh_90, tsh_93, tsh_96, tsh_99, tsh_102, tyk_6, tcq_6, tsh_79, tyk_10, tcq_10, tyk_3, tcq_3, tsh_105, tsh_106, tsh_107, tsh_108]
          exact n293 M10 _ _ 99 d1 c3 d2 (by omega) (by omega) (by omega) d3 d4 (Or.inl ⟨rfl, by omega⟩)
        · exact n293 M10 _ _ 102 d1 c3 d2 (by omega) (by omega) (by omega) d3 d4 (Or.inr ⟨rfl, by omega⟩)
    repeat refine And.intro (by omega) ?_
    refine ⟨fun g => ?_, fun g => ?_⟩
    · refine tb_X3_logarithm_266 (c := false) ?_
      simp only [kb_X3_logarithm_266, w_ald_0, w_gf_5_7, tw_f, w_nil, true_and, and_true, Nat.reduceAdd, Nat.reduceSub, eq_self, tsh_86, tyk_5, tcq_5, tsh_87, tsh_90, tsh_93, tsh_96, tsh_99, tsh_102, tyk_6, tcq_6, tsh_79, tyk_10, tcq_10, tyk_3, tcq_3, tsh_105, tsh_106, tsh_107, tsh_108]
      exact n270 99 (Or.inl ⟨rfl, by omega⟩)
    · exact n270 102 (Or.inr ⟨rfl, by omega⟩)
  -- from the row on
  have n93 : ∀ (M1 : tM) (k : Nat) (o : Int) (w2 w4 w5 : Option tV), v ≠ 10000000000 → o = v * 2 ^ k → k ≤ 80 → (10995116277760000000000 ≤ o ∧ o < 2 * 10995116277760000000000) → BB M1 107 o → M1 86 1 = 0 → M1 86 2 = 1 → CF b M M1 → tT e d 1284 93 [some (.inr (.inr (.inl (86)))), some (.inr (.inr (.inl (x)))), w2, some (.inl ((k : Int))), w4, w5] [] M1 n (tQn n (fun M' => (∃ X : Int, LGY v X ∧ M' 86 1 = (if X < 0 then 1 else 0) ∧ M' 86 2 = (if v = 10000000000 then 0 else 1) ∧ LX M' 96 (if X < 0 then -X else X)) ∧ CF b M M')) := by
    intro M1 k o w2 w4 w5 hv0 ho hk hr a1 a2 a3 a4
    obtain ⟨row, hrow⟩ : ∃ row : Nat, o / 10000000000 / 137438953472 - 8 = (row : Int) := ⟨(o / 10000000000 / 137438953472 - 8).toNat, by omega⟩
    have hrow7 : row ≤ 7 := by omega
    have hcell : (8 + (row : Int)) * 1374389534720000000000 ≤ o ∧ o < (9 + (row : Int)) * 1374389534720000000000 := by omega
    have e107 := a1.1
    have ro : RV o := by unfold RV; omega
    have eu : lgu row = (2 * (row : Int) + 17) * 687194767360000000000 := rfl
    have ru : RV (lgu row) := by unfold RV; omega
    refine tb_X3_logarithm_93 (c := false) ?_
    simp only [kb_X3_logarithm_93, w_ald_0, w_gf_5_11, tw_f, w_gf_3_0, w_bi, w_lshr, w_l2i, w_isub, w_ist4, tkl_n, tkl_i, tkl_l, tkl_r, w_gf_5_12, w_ld2, w_ild4, w_i2l, w_lmul, w_ladd, w_lshl, w_lc0, w_iv2, tfr_0, tfr_1, tfr_2, tfr_3, tfr_4, w_iv1, w_ist5, w_gf_5_9, w_ild5, w_if_eq, w_goto, true_and, and_true, Nat.reduceAdd, Nat.reduceSub, eq_self, tsh_86, tyk_5, tcq_5, tsh_87, tsh_90, tsh_93, tsh_96, tsh_99, tsh_102, tyk_6, tcq_6, tsh_79, tyk_10, tcq_10, tyk_3, tcq_3, tsh_105, tsh_106, tsh_107, tsh_108, e107]
    rw [p37, w32_e (by omega), hrow, p36, w64_e (by omega)]
    repeat refine And.intro (by omega) ?_
    refine And.intro (Or.inr trivial) ?_
    refine tc_n (D := 0) (fun d' hd' => y_assign (b := b) (w := (2 * (row : Int) + 17) * 68719476736) (p := 0) cl_108 (by decide) (Or.inl hb) a4.1.1) (by omega) ?_
    rintro M2 ⟨q1, q2⟩
    rw [show (2 * (row : Int) + 17) * 68719476736 * 10000000000 + 0 = lgu row by rw [eu]; omega] at q1
    try simp only [kb_X3_logarithm_93, w_ald_0, w_gf_5_11, tw_f, w_gf_3_0, w_bi, w_lshr, w_l2i, w_isub, w_ist4, tkl_n, tkl_i, tkl_l, tkl_r, w_gf_5_12, w_ld2, w_ild4, w_i2l, w_lmul, w_ladd, w_lshl, w_lc0, w_iv2, tfr_0, tfr_1, tfr_2, tfr_3, tfr_4, w_iv1, w_ist5, w_gf_5_9, w_ild5, w_if_eq, w_goto, true_and, and_true, Nat.reduceAdd, Nat.reduceSub, eq_self, tsh_86, tyk_5, tcq_5, tsh_87, tsh_90, tsh_93, tsh_96, tsh_99, tsh_102, tyk_6, tcq_6, tsh_79, tyk_10, tcq_10, tyk_3, tcq_3, tsh_105, tsh_106, tsh_107, tsh_108]
    have b1 : BB M2 107 o := BB_u a1 (fun i => q2.2.2 _ _ (by decide))
    refine tc_i (D := 0) (fun d' hd' => y_isBelow cl_107 cl_108 b1 q1 ro ru) (by omega) ?_
    rintro z M3 ⟨hz, rfl⟩
    try simp only [kb_X3_logarithm_93, w_ald_0, w_gf_5_11, tw_f, w_gf_3_0, w_bi, w_lshr, w_l2i, w_isub, w_ist4, tkl_n, tkl_i, tkl_l, tkl_r, w_gf_5_12, w_ld2, w_ild4, w_i2l, w_lmul, w_ladd, w_lshl, w_lc0, w_iv2, tfr_0, tfr_1, tfr_2, tfr_3, tfr_4, w_iv1, w_ist5, w_gf_5_9, w_ild5, w_if_eq, w_goto, true_and, and_true, Nat.reduceAdd, Nat.reduceSub, eq_self, tsh_86, tyk_5, tcq_5, tsh_87, tsh_90, tsh_93, tsh_96, tsh_99, tsh_102, tyk_6, tcq_6, tsh_79, tyk_10, tcq_10, tyk_3, tcq_3, tsh_105, tsh_106, tsh_107, tsh_108]
    have d1 := (q2.2.2 86 1 (by decide)).trans a2
    have d2 := (q2.2.2 86 2 (by decide)).trans a3
    have d3 := CF_tr a4 (CF_d q2 (by decide))
    repeat refine And.intro (by omega) ?_
    refine ⟨fun g => ?_, fun g => ?_⟩
    · refine tb_X3_logarithm_160 (c := false) ?_
      simp only [kb_X3_logarithm_160, w_ald_0, w_gf_5_11, tw_f, w_nil, true_and, and_true, Nat.reduceAdd, Nat.reduceSub, eq_self, tsh_86, tyk_5, tcq_5, tsh_87, tsh_90, tsh_93, tsh_96, tsh_99, tsh_102, tyk_6, tcq_6, tsh_79, tyk_10, tcq_10, tyk_3, tcq_3, tsh_105, tsh_106, tsh_107, tsh_108]
      refine tb_X3_logarithm_164 (c := false) ?_
      simp only [kb_X3_logarithm_164, w_ild5, w_if_eq, w_ald_0, w_gf_5_11, tw_f, w_goto, true_and, and_true, Nat.reduceAdd, Nat.reduceSub, eq_self, tsh_86, tyk_5, tcq_5, tsh_87, tsh_90, tsh_93, tsh_96, tsh_99, tsh_102, tyk_6, tcq_6, tsh_79, tyk_10, tcq_10, tyk_3, tcq_3, tsh_105, tsh_106, tsh_107, tsh_108]
      repeat refine And.intro (by omega) ?_
      refine ⟨fun _ => ?_, fun g2 => absurd g g2⟩
      refine tb_X3_logarithm_176 (c := false) ?_
      simp only [kb_X3_logarithm_176, w_ald_0, w_gf_5_12, tw_f, w_nil, true_and, and_true, Nat.reduceAdd, Nat.reduceSub, eq_self, tsh_86, tyk_5, tcq_5, tsh_87, tsh_90, tsh_93, tsh_96, tsh_99, tsh_102, tyk_6, tcq_6, tsh_79, tyk_10, tcq_10, tyk_3, tcq_3, tsh_105, tsh_106, tsh_107, tsh_108]
      exact n180 M3 k row o z 107 108 _ hv0 ho ⟨hk, hrow7⟩ hcell b1 q1 (Or.inr ⟨g, by omega, rfl, rfl⟩) d1 d2 d3
    · refine tb_X3_logarithm_164 (c := false) ?_
      simp only [kb_X3_logarithm_164, w_ild5, w_if_eq, w_ald_0, w_gf_5_11, tw_f, w_goto, true_and, and_true, Nat.reduceAdd, Nat.reduceSub, eq_self, tsh_86, tyk_5, tcq_5, tsh_87, tsh_90, tsh_93, tsh_96, tsh_99, tsh_102, tyk_6, tcq_6, tsh_79, tyk_10, tcq_10, tyk_3, tcq_3, tsh_105, tsh_106, tsh_107, tsh_108]
      repeat refine And.intro (by omega) ?_
      first | refine ⟨fun q => absurd q (by omega), fun _ => ?_⟩ | refine fun _ => ?_
      exact n180 M3 k row o z 108 107 _ hv0 ho ⟨hk, hrow7⟩ hcell b1 q1 (Or.inl ⟨by omega, by omega, rfl, rfl⟩) d1 d2 d3
  -- doublings
  have n52 : ∀ (fu : Nat) (M1 : tM) (k : Nat) (w2 w4 w5 : Option tV), 80 - k = fu → k ≤ 80 → v ≠ 10000000000 → v * 2 ^ k < 2 * 10995116277760000000000 → BB M1 107 (v * 2 ^ k) → M1 86 1 = 0 → M1 86 2 = 1 → CF b M M1 → tT e d 1284 52 [some (.inr (.inr (.inl (86)))), some (.inr (.inr (.inl (x)))), w2, some (.inl ((k : Int))), w4, w5] [] M1 n (tQn n (fun M' => (∃ X : Int, LGY v X ∧ M' 86 1 = (if X < 0 then 1 else 0) ∧ M' 86 2 = (if v = 10000000000 then 0 else 1) ∧ LX M' 96 (if X < 0 then -X else X)) ∧ CF b M M')) := by
    intro fu
    induction fu with
    | zero =>
      intro M1 k w2 w4 w5 hf hk hv0 hr a1 a2 a3 a4
      have hke : k = 80 := by omega
      subst hke
      rw [show (2 : Int) ^ 80 = 1208925819614629174706176 by decide] at hr
      omega
    | succ fu ih =>
      intro M1 k w2 w4 w5 hf hk hv0 hr a1 a2 a3 a4
      have pp : (0 : Int) < 2 ^ k := Int.pow_pos (by decide)
      have hp : 0 < v * 2 ^ k := Int.mul_pos rv.1 pp
      have rr : RV (v * 2 ^ k) := by unfold RV; omega
      have e107 := a1.1
      have es : v * 2 ^ (k + 1) = v * 2 ^ k + v * 2 ^ k := by rw [Int.pow_succ, ← Int.mul_assoc]; omega
      refine tb_X3_logarithm_52 (c := false) ?_
      simp only [kb_X3_logarithm_52, w_ild_3, w_bi, w_ic_ge, w_ald_0, w_gf_5_11, tw_f, w_gf_3_0, w_ld2, w_lcmp, ne_eq, tlc_r, tlc_eq, tlc_lt, tlc_ge, tlc_gt, tlc_le, w_if_ge, w_iv2, tfr_0, tfr_1, tfr_2, tfr_3, tfr_4, w_inc3, tkl_n, tkl_i, tkl_l, tkl_r, w_goto, true_and, and_true, Nat.reduceAdd, Nat.reduceSub, eq_self, tsh_86, tyk_5, tcq_5, tsh_87, tsh_90, tsh_93, tsh_96, tsh_99, tsh_102, tyk_6, tcq_6, tsh_79, tyk_10, tcq_10, tyk_3, tcq_3, tsh_105, tsh_106, tsh_107, tsh_108, e107]
      repeat refine And.intro (by omega) ?_
      first | refine ⟨fun q => absurd q (by omega), fun _ => ?_⟩ | refine fun _ => ?_
      repeat refine And.intro (by omega) ?_
      refine ⟨fun g => ?_, fun g => ?_⟩
      · exact n93 M1 k _ _ _ _ hv0 rfl hk (by omega) a1 a2 a3 a4
      · refine tc_n (D := 0) (fun d' hd' => y_toSum (b := b) cl_107 cl_107 cl_107 a1 a1 rr rr (Or.inl hb) a4.1.1) (by omega) ?_
        rintro M2 ⟨q1, q2⟩
        try simp only [kb_X3_logarithm_52, w_ild_3, w_bi, w_ic_ge, w_ald_0, w_gf_5_11, tw_f, w_gf_3_0, w_ld2, w_lcmp, ne_eq, tlc_r, tlc_eq, tlc_lt, tlc_ge, tlc_gt, tlc_le, w_if_ge, w_iv2, tfr_0, tfr_1, tfr_2, tfr_3, tfr_4, w_inc3, tkl_n, tkl_i, tkl_l, tkl_r, w_goto, true_and, and_true, Nat.reduceAdd, Nat.reduceSub, eq_self, tsh_86, tyk_5, tcq_5, tsh_87, tsh_90, tsh_93, tsh_96, tsh_99, tsh_102, tyk_6, tcq_6, tsh_79, tyk_10, tcq_10, tyk_3, tcq_3, tsh_105, tsh_106, tsh_107, tsh_108]
        repeat refine And.intro (by omega) ?_
        rw [show ((k : Nat) : Int) + 1 = ((k + 1 : Nat) : Int) by omega]
        rw [← es] at q1
        exact ih M2 (k + 1) _ _ _ (by omega) (by omega) hv0 (by omega) q1 ((q2.2.2 86 1 (by decide)).trans a2) ((q2.2.2 86 2 (by decide)).trans a3) (CF_tr a4 (CF_d q2 (by decide)))
  have n34 : ∀ (z w : Int) (w3 w4 w5 : Option tV), ((z = 1 ∧ v = 10000000000 ∧ w = 0) ∨ (z = 0 ∧ v ≠ 10000000000 ∧ w = 1)) → tT e d 1284 34 [some (.inr (.inr (.inl (86)))), some (.inr (.inr (.inl (x)))), some (.inl (z)), w3, w4, w5] [.inl w, .inr (.inr (.inl 86))] M n (tQn n (fun M' => (∃ X : Int, LGY v X ∧ M' 86 1 = (if X < 0 then 1 else 0) ∧ M' 86 2 = (if v = 10000000000 then 0 else 1) ∧ LX M' 96 (if X < 0 then -X else X)) ∧ CF b M M')) := by
    intro z w w3 w4 w5 hz
    refine tb_X3_logarithm_34 (c := false) ?_
    simp only [kb_X3_logarithm_34, w_iv1, tfr_0, tfr_1, tfr_2, tfr_3, tfr_4, w_ild_2, w_if_eq, w_re, true_and, and_true, Nat.reduceAdd, Nat.reduceSub, eq_self, tsh_86, tyk_5, tcq_5, tsh_87, tsh_90, tsh_93, tsh_96, tsh_99, tsh_102, tyk_6, tcq_6, tsh_79, tyk_10, tcq_10, tyk_3, tcq_3, tsh_105, tsh_106, tsh_107, tsh_108]
    refine tc_n (D := 1) (fun d' hd' => f_begin (b := b) (by omega) hb hC hd') (by omega) ?_
    rintro M1 ⟨⟨q1, q2, q3⟩, q4⟩
    try simp only [kb_X3_logarithm_34, w_iv1, tfr_0, tfr_1, tfr_2, tfr_3, tfr_4, w_ild_2, w_if_eq, w_re, true_and, and_true, Nat.reduceAdd, Nat.reduceSub, eq_self, tsh_86, tyk_5, tcq_5, tsh_87, tsh_90, tsh_93, tsh_96, tsh_99, tsh_102, tyk_6, tcq_6, tsh_79, tyk_10, tcq_10, tyk_3, tcq_3, tsh_105, tsh_106, tsh_107, tsh_108]
    repeat refine And.intro (by omega) ?_
    refine ⟨fun g => ?_, fun g => ?_⟩
    · have hv0 : v ≠ 10000000000 := by omega
      have hw : w = 1 := by omega
      rw [hw] at q2
      have v1 : BB M1 x v := BB_u hv (fun i => q4.2 _ _ (by omega) (by omega) (by omega))
      refine tb_X3_logarithm_42 (c := false) ?_
      simp only [kb_X3_logarithm_42, w_ald_0, w_gf_5_11, tw_f, w_ald_1, w_iv1, tfr_0, tfr_1, tfr_2, tfr_3, tfr_4, w_ic, w_ist_3, tkl_n, tkl_i, tkl_l, tkl_r, w_nil, true_and, and_true, Nat.reduceAdd, Nat.reduceSub, eq_self, tsh_86, tyk_5, tcq_5, tsh_87, tsh_90, tsh_93, tsh_96, tsh_99, tsh_102, tyk_6, tcq_6, tsh_79, tyk_10, tcq_10, tyk_3, tcq_3, tsh_105, tsh_106, tsh_107, tsh_108, hx]
      refine tc_n (D := 0) (fun d' hd' => y_copy (b := b) cl_107 h1 v1 (Or.inl hb) q4.1.1) (by omega) ?_
      rintro M2 ⟨q5, q6⟩
      try simp only [kb_X3_logarithm_42, w_ald_0, w_gf_5_11, tw_f, w_ald_1, w_iv1, tfr_0, tfr_1, tfr_2, tfr_3, tfr_4, w_ic, w_ist_3, tkl_n, tkl_i, tkl_l, tkl_r, w_nil, true_and, and_true, Nat.reduceAdd, Nat.reduceSub, eq_self, tsh_86, tyk_5, tcq_5, tsh_87, tsh_90, tsh_93, tsh_96, tsh_99, tsh_102, tyk_6, tcq_6, tsh_79, tyk_10, tcq_10, tyk_3, tcq_3, tsh_105, tsh_106, tsh_107, tsh_108]
      exact n52 80 M2 0 _ _ _ rfl (by decide) hv0 (by rw [Int.pow_zero]; omega) (by rw [Int.pow_zero, Int.mul_one]; exact q5) ((q6.2.2 86 1 (by decide)).trans q1) ((q6.2.2 86 2 (by decide)).trans q2) (CF_tr (CF_BG q4) (CF_d q6 (by decide)))
    · have hv0 : v = 10000000000 := by omega
      have hw : w = 0 := by omega
      rw [hw] at q2
      exact ⟨rfl, rfl, ⟨0, Or.inl ⟨hv0, rfl⟩, q1, by rw [q2, if_pos hv0], q3⟩, CF_BG q4⟩
  have n23 : ∀ (z : Int) (w2 w3 w4 w5 : Option tV), ((z = 1 ∧ v = 10000000000) ∨ (z = 0 ∧ v ≠ 10000000000)) → tT e d 1284 23 [some (.inr (.inr (.inl (86)))), some (.inr (.inr (.inl (x)))), w2, w3, w4, w5] [.inl z] M n (tQn n (fun M' => (∃ X : Int, LGY v X ∧ M' 86 1 = (if X < 0 then 1 else 0) ∧ M' 86 2 = (if v = 10000000000 then 0 else 1) ∧ LX M' 96 (if X < 0 then -X else X)) ∧ CF b M M')) := by
    intro z w2 w3 w4 w5 hz
    refine tb_X3_logarithm_23 (c := false) ?_
    simp only [kb_X3_logarithm_23, w_ist_2, tkl_n, tkl_i, tkl_l, tkl_r, w_ald_0, w_ild_2, w_if_ne, w_ic, w_goto, true_and, and_true, Nat.reduceAdd, Nat.reduceSub, eq_self]
    repeat refine And.intro (by omega) ?_
    refine ⟨fun g => ?_, fun g => ?_⟩
    · refine tb_X3_logarithm_33 (c := false) ?_
      simp only [kb_X3_logarithm_33, w_ic, w_nil, true_and, and_true, Nat.reduceAdd, Nat.reduceSub, eq_self]
      exact n34 z 0 _ _ _ (by omega)
    · exact n34 z 1 _ _ _ (by omega)
  have n22 : v ≠ 10000000000 → tT e d 1284 22 [some (.inr (.inr (.inl (86)))), some (.inr (.inr (.inl (x)))), none, none, none, none] [] M n (tQn n (fun M' => (∃ X : Int, LGY v X ∧ M' 86 1 = (if X < 0 then 1 else 0) ∧ M' 86 2 = (if v = 10000000000 then 0 else 1) ∧ LX M' 96 (if X < 0 then -X else X)) ∧ CF b M M')) := by
    intro h
    refine tb_X3_logarithm_22 (c := false) ?_
    simp only [kb_X3_logarithm_22, w_ic, w_nil, true_and, and_true, Nat.reduceAdd, Nat.reduceSub, eq_self]
    exact n23 0 _ _ _ _ (Or.inr ⟨rfl, h⟩)
  have ra := BB_r hv rV
  obtain ⟨v1, v2⟩ := hv
  refine tb_X3_logarithm_0 (c := false) ?_
  simp only [kb_X3_logarithm_0, w_ald_1, w_gf_3_0, tw_f, w_lc1, w_lcmp, ne_eq, tlc_r, tlc_eq, tlc_lt, tlc_ge, tlc_gt, tlc_le, w_if_ne, w_gf_3_1, w_lc0, w_ic, w_goto, true_and, and_true, Nat.reduceAdd, Nat.reduceSub, eq_self, tsh_86, tyk_5, tcq_5, tsh_87, tsh_90, tsh_93, tsh_96, tsh_99, tsh_102, tyk_6, tcq_6, tsh_79, tyk_10, tcq_10, tyk_3, tcq_3, tsh_105, tsh_106, tsh_107, tsh_108, hx]
  repeat refine And.intro (by omega) ?_
  refine ⟨fun g => n22 (by omega), fun g => ?_⟩
  repeat refine And.intro (by omega) ?_
  refine ⟨fun g2 => n22 (by omega), fun g2 => ?_⟩
  exact n23 1 _ _ _ _ (Or.inl ⟨rfl, by omega⟩)
end HAND
