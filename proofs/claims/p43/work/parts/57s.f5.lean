/-! THE CLASS BY VALUES: the arc tangent. -/
/-- the cell of a tangent P / Q -/
def CAE (e : Nat) (P Q : Int) : Prop := e ≤ 8 ∧ (e = 8 ∨ 16 * P < (2 * (e : Int) + 1) * Q) ∧ (e = 0 ∨ (2 * (e : Int) - 1) * Q ≤ 16 * P)
noncomputable def caF (e : Nat) (P Q : Int) : Int := tbN bARCS e 6 + (if 8 * P < (e : Int) * Q then -(csr true (qz ((e : Int) * Q - 8 * P) (8 * Q + (e : Int) * P))) else csr true (qz (8 * P - (e : Int) * Q) (8 * Q + (e : Int) * P)))
/-- what stands for the arc tangent of a number above 0 -/
def CAX (a X : Int) : Prop := (a ≤ 10000000000 ∧ ∃ e : Nat, CAE e a 10000000000 ∧ X = caF e a 10000000000) ∨ (10000000000 < a ∧ ∃ e : Nat, CAE e 10000000000 a ∧ X = 2 * tbN bARCS 8 6 - caF e 10000000000 a)
/-- top and bottom change -/
def TBF (b : Nat) (M M' : tM) : Prop := (CI M' ∧ pE b M M') ∧ ∀ (k : Nat) (i : Int), (k < 105 ∨ 108 < k) → M' k i = M k i
theorem TBF_refl {b : Nat} {M : tM} (hC : CI M) : TBF b M M := ⟨⟨hC, pE_refl⟩, fun _ _ _ => rfl⟩
theorem TBF_tr {b : Nat} {M M1 M2 : tM} (h1 : TBF b M M1) (h2 : TBF b M1 M2) : TBF b M M2 := ⟨⟨h2.1.1, pE_tr h1.1.2 h2.1.2⟩, fun k i g => (h2.2 k i g).trans (h1.2 k i g)⟩
theorem TBF_d {b r : Nat} {M M1 : tM} (h : BD b M M1 r) (hr : 105 ≤ r ∧ r ≤ 108) : TBF b M M1 := ⟨⟨h.1, h.2.1⟩, fun k i g => h.2.2 k i (by omega)⟩
theorem CF_TB {b : Nat} {M M1 : tM} (h : TBF b M M1) : CF b M M1 := ⟨h.1, fun k i g _ => h.2 k i (by omega)⟩
section HAND
variable {e : tE} {b d n : Nat} {M : tM}
theorem f_nearest {P Q : Int} (hP : BB M 107 P) (hQ : BB M 108 Q) (rQ : 0 < Q ∧ Q ≤ 10000000000000000000000) (rP : 0 ≤ P ∧ P ≤ Q) (hb : b < 2) (hC : CI M) (hd : 1 ≤ d) : tC e d 1285 [.inr (.inr (.inl 86))] M n (tQi n (fun z M' => ∃ k : Nat, z = (k : Int) ∧ CAE k P Q ∧ (CI M' ∧ pE b M M') ∧ ∀ (j : Nat) (i : Int), j ≠ 105 → j ≠ 106 → M' j i = M j i)) := by
  refine tst_X3_nearestEighth ?_
  have n64 : ∀ (M1 : tM) (k : Nat), CAE k P Q → (CI M1 ∧ pE b M M1) → (∀ (j : Nat) (i : Int), j ≠ 105 → j ≠ 106 → M1 j i = M j i) → tT e d 1285 64 [some (.inr (.inr (.inl (86)))), some (.inl ((k : Int)))] [] M1 n (tQi n (fun z M' => ∃ k : Nat, z = (k : Int) ∧ CAE k P Q ∧ (CI M' ∧ pE b M M') ∧ ∀ (j : Nat) (i : Int), j ≠ 105 → j ≠ 106 → M' j i = M j i)) := by
    intro M1 k a1 a2 a3
    refine tb_X3_nearestEighth_64 (c := false) ?_
    simp only [kb_X3_nearestEighth_64, w_ild_1, w_ire, trg, true_and, and_true, Nat.reduceAdd, Nat.reduceSub, eq_self]
    exact ⟨_, rfl, rfl, k, rfl, a1, a2, a3⟩
  have n16 : ∀ (fu : Nat) (M1 : tM) (k : Nat), 8 - k = fu → k ≤ 8 → (k = 0 ∨ (2 * (k : Int) - 1) * Q ≤ 16 * P) → BB M1 105 (P * 16) → (CI M1 ∧ pE b M M1) → (∀ (j : Nat) (i : Int), j ≠ 105 → j ≠ 106 → M1 j i = M j i) → tT e d 1285 16 [some (.inr (.inr (.inl (86)))), some (.inl ((k : Int)))] [] M1 n (tQi n (fun z M' => ∃ k : Nat, z = (k : Int) ∧ CAE k P Q ∧ (CI M' ∧ pE b M M') ∧ ∀ (j : Nat) (i : Int), j ≠ 105 → j ≠ 106 → M' j i = M j i)) := by
    intro fu
    induction fu with
    | zero =>
      intro M1 k hf hk h0 a1 a2 a3
      refine tb_X3_nearestEighth_16 (c := false) ?_
      simp only [kb_X3_nearestEighth_16, w_ild_1, w_bi, w_ic_ge, w_ald_0, w_gf_5_10, tw_f, w_gf_5_12, w_ld2, w_i2l, w_lmul, w_lc1, w_ladd, w_iv2, tfr_0, tfr_1, tfr_2, tfr_3, tfr_4, w_gf_5_9, w_iv1, w_if_eq, w_goto, true_and, and_true, Nat.reduceAdd, Nat.reduceSub, eq_self, tsh_86, tyk_5, tcq_5, tsh_87, tsh_90, tsh_93, tsh_96, tsh_99, tsh_102, tyk_6, tcq_6, tsh_79, tyk_10, tcq_10, tyk_3, tcq_3, tsh_105, tsh_106, tsh_107, tsh_108]
      repeat refine And.intro (by omega) ?_
      refine ⟨fun _ => n64 M1 k ⟨hk, Or.inl (by omega), h0⟩ a2 a3, fun q => absurd (by omega) q⟩
    | succ fu ih =>
      intro M1 k hf hk h0 a1 a2 a3
      have hQ1 : BB M1 108 Q := BB_u hQ (fun i => a3 _ _ (by decide) (by decide))
      have m1 : 0 ≤ Q * (2 * (k : Int) + 1) := Int.mul_nonneg (by omega) (by omega)
      have m2 : Q * (2 * (k : Int) + 1) ≤ 10000000000000000000000 * 17 := Int.mul_le_mul rQ.2 (by omega) (by omega) (by decide)
      refine tb_X3_nearestEighth_16 (c := false) ?_
      simp only [kb_X3_nearestEighth_16, w_ild_1, w_bi, w_ic_ge, w_ald_0, w_gf_5_10, tw_f, w_gf_5_12, w_ld2, w_i2l, w_lmul, w_lc1, w_ladd, w_iv2, tfr_0, tfr_1, tfr_2, tfr_3, tfr_4, w_gf_5_9, w_iv1, w_if_eq, w_goto, true_and, and_true, Nat.reduceAdd, Nat.reduceSub, eq_self, tsh_86, tyk_5, tcq_5, tsh_87, tsh_90, tsh_93, tsh_96, tsh_99, tsh_102, tyk_6, tcq_6, tsh_79, tyk_10, tcq_10, tyk_3, tcq_3, tsh_105, tsh_106, tsh_107, tsh_108]
      repeat refine And.intro (by omega) ?_
      first | refine ⟨fun q => absurd q (by omega), fun _ => ?_⟩ | refine fun _ => ?_
      repeat refine And.intro (by omega) ?_
      refine tc_n (D := 0) (fun d' hd' => y_toMultiple (b := b) (f := 2 * (k : Int) + 1) cl_106 cl_108 hQ1 (by omega) (by omega) (Or.inl hb) a2.1) (by omega) ?_
      rintro M2 ⟨q1, q2⟩
      try simp only [kb_X3_nearestEighth_16, w_ild_1, w_bi, w_ic_ge, w_ald_0, w_gf_5_10, tw_f, w_gf_5_12, w_ld2, w_i2l, w_lmul, w_lc1, w_ladd, w_iv2, tfr_0, tfr_1, tfr_2, tfr_3, tfr_4, w_gf_5_9, w_iv1, w_if_eq, w_goto, true_and, and_true, Nat.reduceAdd, Nat.reduceSub, eq_self, tsh_86, tyk_5, tcq_5, tsh_87, tsh_90, tsh_93, tsh_96, tsh_99, tsh_102, tyk_6, tcq_6, tsh_79, tyk_10, tcq_10, tyk_3, tcq_3, tsh_105, tsh_106, tsh_107, tsh_108]
      have b1 : BB M2 105 (P * 16) := BB_u a1 (fun i => q2.2.2 _ _ (by decide))
      refine tc_i (D := 0) (fun d' hd' => y_isBelow cl_105 cl_106 b1 q1 (by unfold RV; omega) (by unfold RV; omega)) (by omega) ?_
      rintro z M3 ⟨q3, rfl⟩
      try simp only [kb_X3_nearestEighth_16, w_ild_1, w_bi, w_ic_ge, w_ald_0, w_gf_5_10, tw_f, w_gf_5_12, w_ld2, w_i2l, w_lmul, w_lc1, w_ladd, w_iv2, tfr_0, tfr_1, tfr_2, tfr_3, tfr_4, w_gf_5_9, w_iv1, w_if_eq, w_goto, true_and, and_true, Nat.reduceAdd, Nat.reduceSub, eq_self, tsh_86, tyk_5, tcq_5, tsh_87, tsh_90, tsh_93, tsh_96, tsh_99, tsh_102, tyk_6, tcq_6, tsh_79, tyk_10, tcq_10, tyk_3, tcq_3, tsh_105, tsh_106, tsh_107, tsh_108]
      have c2 : CI M3 ∧ pE b M M3 := ⟨q2.1, pE_tr a2.2 q2.2.1⟩
      have c3 : ∀ (j : Nat) (i : Int), j ≠ 105 → j ≠ 106 → M3 j i = M j i := fun j i g1 g2 => (q2.2.2 j i g2).trans (a3 j i g1 g2)
      have em : Q * (2 * (k : Int) + 1) = (2 * (k : Int) + 1) * Q := Int.mul_comm ..
      rw [em] at q3
      repeat refine And.intro (by omega) ?_
      refine ⟨fun g => ?_, fun g => ?_⟩
      · refine tb_X3_nearestEighth_58 (c := false) ?_
        simp only [kb_X3_nearestEighth_58, w_inc1, tkl_n, tkl_i, tkl_l, tkl_r, w_goto, true_and, and_true, Nat.reduceAdd, Nat.reduceSub, eq_self]
        repeat refine And.intro (by omega) ?_
        rw [show ((k : Nat) : Int) + 1 = ((k + 1 : Nat) : Int) by omega]
        refine ih M3 (k + 1) (by omega) (by omega) (Or.inr ?_) b1 c2 c3
        rw [show 2 * ((k + 1 : Nat) : Int) - 1 = 2 * (k : Int) + 1 by omega]
        omega
      · exact n64 M3 k ⟨hk, Or.inr (by omega), h0⟩ c2 c3
  refine tb_X3_nearestEighth_0 (c := false) ?_
  simp only [kb_X3_nearestEighth_0, w_ald_0, w_gf_5_9, tw_f, w_gf_5_11, w_ld2, w_iv2, tfr_0, tfr_1, tfr_2, tfr_3, tfr_4, w_ic, w_ist_1, tkl_n, tkl_i, tkl_l, tkl_r, w_nil, true_and, and_true, Nat.reduceAdd, Nat.reduceSub, eq_self, tsh_86, tyk_5, tcq_5, tsh_87, tsh_90, tsh_93, tsh_96, tsh_99, tsh_102, tyk_6, tcq_6, tsh_79, tyk_10, tcq_10, tyk_3, tcq_3, tsh_105, tsh_106, tsh_107, tsh_108]
  refine tc_n (D := 0) (fun d' hd' => y_toMultiple (b := b) (f := 16) cl_105 cl_107 hP (by omega) (by decide) (Or.inl hb) hC) (by omega) ?_
  rintro M1 ⟨q1, q2⟩
  try simp only [kb_X3_nearestEighth_0, w_ald_0, w_gf_5_9, tw_f, w_gf_5_11, w_ld2, w_iv2, tfr_0, tfr_1, tfr_2, tfr_3, tfr_4, w_ic, w_ist_1, tkl_n, tkl_i, tkl_l, tkl_r, w_nil, true_and, and_true, Nat.reduceAdd, Nat.reduceSub, eq_self, tsh_86, tyk_5, tcq_5, tsh_87, tsh_90, tsh_93, tsh_96, tsh_99, tsh_102, tyk_6, tcq_6, tsh_79, tyk_10, tcq_10, tyk_3, tcq_3, tsh_105, tsh_106, tsh_107, tsh_108]
  repeat refine And.intro (by omega) ?_
  exact n16 8 M1 0 rfl (by decide) (Or.inl rfl) q1 ⟨q2.1, q2.2.1⟩ (fun j i g _ => q2.2.2 j i g)
theorem f_shiftTo {P Q : Int} {k : Nat} (hk : k ≤ 8) (hP : BB M 107 P) (hQ : BB M 108 Q) (rQ : 0 < Q ∧ Q ≤ 10000000000000000000000) (rP : 0 ≤ P ∧ P ≤ Q) (hb : b < 2) (hC : CI M) (hd : 1 ≤ d) : tC e d 1287 [.inr (.inr (.inl 86)), .inl (k : Int)] M n (tQi n (fun z M' => ((z = 1 ∧ 8 * P < (k : Int) * Q) ∨ (z = 0 ∧ ¬ 8 * P < (k : Int) * Q)) ∧ (BB M' 105 (if 8 * P < (k : Int) * Q then (k : Int) * Q - 8 * P else 8 * P - (k : Int) * Q) ∧ BB M' 106 (8 * Q + (k : Int) * P)) ∧ TBF b M M')) := by
  have m1 : 0 ≤ Q * (k : Int) := Int.mul_nonneg (by omega) (by omega)
  have m2 : Q * (k : Int) ≤ 10000000000000000000000 * 8 := Int.mul_le_mul rQ.2 (by omega) (by omega) (by decide)
  have m3 : 0 ≤ P * (k : Int) := Int.mul_nonneg (by omega) (by omega)
  have m4 : P * (k : Int) ≤ 10000000000000000000000 * 8 := Int.mul_le_mul (by omega) (by omega) (by omega) (by decide)
  rw [Int.mul_comm (k : Int) Q, Int.mul_comm (k : Int) P, Int.mul_comm 8 P, Int.mul_comm 8 Q]
  refine tst_X3_shiftToEighth ?_
  refine tb_X3_shiftToEighth_0 (c := false) ?_
  simp only [kb_X3_shiftToEighth_0, w_ald_0, w_gf_5_9, tw_f, w_gf_5_11, w_ld2, w_iv2, tfr_0, tfr_1, tfr_2, tfr_3, tfr_4, w_gf_5_10, w_gf_5_12, w_ild_1, w_i2l, w_iv1, w_ist_2, tkl_n, tkl_i, tkl_l, tkl_r, w_ild_2, w_if_eq, w_goto, true_and, and_true, Nat.reduceAdd, Nat.reduceSub, eq_self, tsh_86, tyk_5, tcq_5, tsh_87, tsh_90, tsh_93, tsh_96, tsh_99, tsh_102, tyk_6, tcq_6, tsh_79, tyk_10, tcq_10, tyk_3, tcq_3, tsh_105, tsh_106, tsh_107, tsh_108]
  refine tc_n (D := 0) (fun d' hd' => y_toMultiple (b := b) (f := 8) cl_105 cl_107 hP (by omega) (by decide) (Or.inl hb) hC) (by omega) ?_
  rintro M1 ⟨q1, q2⟩
  try simp only [kb_X3_shiftToEighth_0, w_ald_0, w_gf_5_9, tw_f, w_gf_5_11, w_ld2, w_iv2, tfr_0, tfr_1, tfr_2, tfr_3, tfr_4, w_gf_5_10, w_gf_5_12, w_ild_1, w_i2l, w_iv1, w_ist_2, tkl_n, tkl_i, tkl_l, tkl_r, w_ild_2, w_if_eq, w_goto, true_and, and_true, Nat.reduceAdd, Nat.reduceSub, eq_self, tsh_86, tyk_5, tcq_5, tsh_87, tsh_90, tsh_93, tsh_96, tsh_99, tsh_102, tyk_6, tcq_6, tsh_79, tyk_10, tcq_10, tyk_3, tcq_3, tsh_105, tsh_106, tsh_107, tsh_108]
  have a1 : BB M1 108 Q := BB_u hQ (fun i => q2.2.2 _ _ (by decide))
  repeat refine And.intro (by omega) ?_
  refine tc_n (D := 0) (fun d' hd' => y_toMultiple (b := b) (f := (k : Int)) cl_106 cl_108 a1 (by omega) (by omega) (Or.inl hb) q2.1) (by omega) ?_
  rintro M2 ⟨q3, q4⟩
  try simp only [kb_X3_shiftToEighth_0, w_ald_0, w_gf_5_9, tw_f, w_gf_5_11, w_ld2, w_iv2, tfr_0, tfr_1, tfr_2, tfr_3, tfr_4, w_gf_5_10, w_gf_5_12, w_ild_1, w_i2l, w_iv1, w_ist_2, tkl_n, tkl_i, tkl_l, tkl_r, w_ild_2, w_if_eq, w_goto, true_and, and_true, Nat.reduceAdd, Nat.reduceSub, eq_self, tsh_86, tyk_5, tcq_5, tsh_87, tsh_90, tsh_93, tsh_96, tsh_99, tsh_102, tyk_6, tcq_6, tsh_79, tyk_10, tcq_10, tyk_3, tcq_3, tsh_105, tsh_106, tsh_107, tsh_108]
  have a2 : BB M2 105 (P * 8) := BB_u q1 (fun i => q4.2.2 _ _ (by decide))
  have r1 : RV (P * 8) := by unfold RV; omega
  have r2 : RV (Q * (k : Int)) := by unfold RV; omega
  refine tc_i (D := 0) (fun d' hd' => y_isBelow cl_105 cl_106 a2 q3 r1 r2) (by omega) ?_
  rintro z M3 ⟨q5, rfl⟩
  try simp only [kb_X3_shiftToEighth_0, w_ald_0, w_gf_5_9, tw_f, w_gf_5_11, w_ld2, w_iv2, tfr_0, tfr_1, tfr_2, tfr_3, tfr_4, w_gf_5_10, w_gf_5_12, w_ild_1, w_i2l, w_iv1, w_ist_2, tkl_n, tkl_i, tkl_l, tkl_r, w_ild_2, w_if_eq, w_goto, true_and, and_true, Nat.reduceAdd, Nat.reduceSub, eq_self, tsh_86, tyk_5, tcq_5, tsh_87, tsh_90, tsh_93, tsh_96, tsh_99, tsh_102, tyk_6, tcq_6, tsh_79, tyk_10, tcq_10, tyk_3, tcq_3, tsh_105, tsh_106, tsh_107, tsh_108]
  have f3 : TBF b M M3 := TBF_tr (TBF_d q2 (by decide)) (TBF_d q4 (by decide))
  have b1 : BB M3 107 P := BB_u (BB_u hP (fun i => q2.2.2 _ _ (by decide))) (fun i => q4.2.2 _ _ (by decide))
  have b2 : BB M3 108 Q := BB_u a1 (fun i => q4.2.2 _ _ (by decide))
  have n76 : ∀ M4 : tM, BB M4 105 (if P * 8 < Q * (k : Int) then Q * (k : Int) - P * 8 else P * 8 - Q * (k : Int)) → BD b M3 M4 105 → tT e d 1287 76 [some (.inr (.inr (.inl (86)))), some (.inl ((k : Int))), some (.inl (z))] [] M4 n (tQi n (fun z M' => ((z = 1 ∧ P * 8 < Q * (k : Int)) ∨ (z = 0 ∧ ¬ P * 8 < Q * (k : Int))) ∧ (BB M' 105 (if P * 8 < Q * (k : Int) then Q * (k : Int) - P * 8 else P * 8 - Q * (k : Int)) ∧ BB M' 106 (Q * 8 + P * (k : Int))) ∧ TBF b M M')) := by
    intro M4 c1 c2
    have d1 : BB M4 108 Q := BB_u b2 (fun i => c2.2.2 _ _ (by decide))
    have d2 : BB M4 107 P := BB_u b1 (fun i => c2.2.2 _ _ (by decide))
    refine tb_X3_shiftToEighth_76 (c := false) ?_
    simp only [kb_X3_shiftToEighth_76, w_ald_0, w_gf_5_12, tw_f, w_ld2, w_iv2, tfr_0, tfr_1, tfr_2, tfr_3, tfr_4, w_gf_5_11, w_ild_1, w_i2l, w_gf_5_10, w_ild_2, w_ire, trg, true_and, and_true, Nat.reduceAdd, Nat.reduceSub, eq_self, tsh_86, tyk_5, tcq_5, tsh_87, tsh_90, tsh_93, tsh_96, tsh_99, tsh_102, tyk_6, tcq_6, tsh_79, tyk_10, tcq_10, tyk_3, tcq_3, tsh_105, tsh_106, tsh_107, tsh_108]
    refine tc_n (D := 0) (fun d' hd' => y_toMultiple (b := b) (f := 8) cl_108 cl_108 d1 (by omega) (by decide) (Or.inl hb) c2.1) (by omega) ?_
    rintro M5 ⟨q6, q7⟩
    try simp only [kb_X3_shiftToEighth_76, w_ald_0, w_gf_5_12, tw_f, w_ld2, w_iv2, tfr_0, tfr_1, tfr_2, tfr_3, tfr_4, w_gf_5_11, w_ild_1, w_i2l, w_gf_5_10, w_ild_2, w_ire, trg, true_and, and_true, Nat.reduceAdd, Nat.reduceSub, eq_self, tsh_86, tyk_5, tcq_5, tsh_87, tsh_90, tsh_93, tsh_96, tsh_99, tsh_102, tyk_6, tcq_6, tsh_79, tyk_10, tcq_10, tyk_3, tcq_3, tsh_105, tsh_106, tsh_107, tsh_108]
    repeat refine And.intro (by omega) ?_
    refine tc_n (D := 0) (fun d' hd' => y_toMultiple (b := b) (f := (k : Int)) cl_107 cl_107 (BB_u d2 (fun i => q7.2.2 _ _ (by decide))) (by omega) (by omega) (Or.inl hb) q7.1) (by omega) ?_
    rintro M6 ⟨q8, q9⟩
    try simp only [kb_X3_shiftToEighth_76, w_ald_0, w_gf_5_12, tw_f, w_ld2, w_iv2, tfr_0, tfr_1, tfr_2, tfr_3, tfr_4, w_gf_5_11, w_ild_1, w_i2l, w_gf_5_10, w_ild_2, w_ire, trg, true_and, and_true, Nat.reduceAdd, Nat.reduceSub, eq_self, tsh_86, tyk_5, tcq_5, tsh_87, tsh_90, tsh_93, tsh_96, tsh_99, tsh_102, tyk_6, tcq_6, tsh_79, tyk_10, tcq_10, tyk_3, tcq_3, tsh_105, tsh_106, tsh_107, tsh_108]
    refine tc_n (D := 0) (fun d' hd' => y_toSum (b := b) cl_106 cl_107 cl_108 q8 (BB_u q6 (fun i => q9.2.2 _ _ (by decide))) (by unfold RV; omega) (by unfold RV; omega) (Or.inl hb) q9.1) (by omega) ?_
    rintro M7 ⟨q10, q11⟩
    try simp only [kb_X3_shiftToEighth_76, w_ald_0, w_gf_5_12, tw_f, w_ld2, w_iv2, tfr_0, tfr_1, tfr_2, tfr_3, tfr_4, w_gf_5_11, w_ild_1, w_i2l, w_gf_5_10, w_ild_2, w_ire, trg, true_and, and_true, Nat.reduceAdd, Nat.reduceSub, eq_self, tsh_86, tyk_5, tcq_5, tsh_87, tsh_90, tsh_93, tsh_96, tsh_99, tsh_102, tyk_6, tcq_6, tsh_79, tyk_10, tcq_10, tyk_3, tcq_3, tsh_105, tsh_106, tsh_107, tsh_108]
    rw [Int.add_comm] at q10
    refine ⟨by omega, _, rfl, rfl, q5, ⟨BB_u (BB_u (BB_u c1 (fun i => q7.2.2 _ _ (by decide))) (fun i => q9.2.2 _ _ (by decide))) (fun i => q11.2.2 _ _ (by decide)), q10⟩, TBF_tr f3 (TBF_tr (TBF_d c2 (by decide)) (TBF_tr (TBF_d q7 (by decide)) (TBF_tr (TBF_d q9 (by decide)) (TBF_d q11 (by decide)))))⟩
  repeat refine And.intro (by omega) ?_
  refine ⟨fun g => ?_, fun g => ?_⟩
  · refine tb_X3_shiftToEighth_61 (c := false) ?_
    simp only [kb_X3_shiftToEighth_61, w_ald_0, w_gf_5_9, tw_f, w_gf_5_10, w_iv2, tfr_0, tfr_1, tfr_2, tfr_3, tfr_4, w_nil, true_and, and_true, Nat.reduceAdd, Nat.reduceSub, eq_self, tsh_86, tyk_5, tcq_5, tsh_87, tsh_90, tsh_93, tsh_96, tsh_99, tsh_102, tyk_6, tcq_6, tsh_79, tyk_10, tcq_10, tyk_3, tcq_3, tsh_105, tsh_106, tsh_107, tsh_108]
    refine tc_n (D := 0) (fun d' hd' => y_toDifference (b := b) cl_105 cl_105 cl_106 a2 q3 r1 r2 (Or.inl hb) q4.1) (by omega) ?_
    rintro M4 ⟨q6, q7⟩
    try simp only [kb_X3_shiftToEighth_61, w_ald_0, w_gf_5_9, tw_f, w_gf_5_10, w_iv2, tfr_0, tfr_1, tfr_2, tfr_3, tfr_4, w_nil, true_and, and_true, Nat.reduceAdd, Nat.reduceSub, eq_self, tsh_86, tyk_5, tcq_5, tsh_87, tsh_90, tsh_93, tsh_96, tsh_99, tsh_102, tyk_6, tcq_6, tsh_79, tyk_10, tcq_10, tyk_3, tcq_3, tsh_105, tsh_106, tsh_107, tsh_108]
    exact n76 M4 (by rw [if_neg (by omega)]; exact q6) q7
  · refine tc_n (D := 0) (fun d' hd' => y_toDifference (b := b) cl_105 cl_106 cl_105 q3 a2 r2 r1 (Or.inl hb) q4.1) (by omega) ?_
    rintro M4 ⟨q6, q7⟩
    try simp only [kb_X3_shiftToEighth_0, w_ald_0, w_gf_5_9, tw_f, w_gf_5_11, w_ld2, w_iv2, tfr_0, tfr_1, tfr_2, tfr_3, tfr_4, w_gf_5_10, w_gf_5_12, w_ild_1, w_i2l, w_iv1, w_ist_2, tkl_n, tkl_i, tkl_l, tkl_r, w_ild_2, w_if_eq, w_goto, true_and, and_true, Nat.reduceAdd, Nat.reduceSub, eq_self, tsh_86, tyk_5, tcq_5, tsh_87, tsh_90, tsh_93, tsh_96, tsh_99, tsh_102, tyk_6, tcq_6, tsh_79, tyk_10, tcq_10, tyk_3, tcq_3, tsh_105, tsh_106, tsh_107, tsh_108]
    exact n76 M4 (by rw [if_pos (by omega)]; exact q6) q7
theorem f_arc {x : Nat} {v : Int} (h1 : cl x 3) (hx2 : x < 79 ∨ 111 < x) (hv : BB M x v) (rv : NF v) (hb : b < 2) (hC : CI M) (hd : 3 ≤ d) : tC e d 1281 [.inr (.inr (.inl 86)), .inr (.inr (.inl x))] M n (tQn n (fun M' => ((v = 0 ∧ LX M' 96 0) ∨ (v ≠ 0 ∧ ∃ X : Int, CAX (if v < 0 then -v else v) X ∧ LX M' 96 (if X < 0 then -X else X))) ∧ M' 86 1 = (if v < 0 then 1 else 0) ∧ M' 86 2 = (if v = 0 then 0 else 1) ∧ CF b M M')) := by
  have hx := h1.1
  have rV : RV v := NF_r rv
  have rv2 := rv
  unfold NF at rv2
  refine tst_X3_arc ?_
  -- from the eighth on
  have n91 : ∀ (M1 : tM) (P Q s : Int) (w3 w4 : Option tV), v ≠ 0 → BB M1 107 P → BB M1 108 Q → (0 < Q ∧ Q ≤ 10000000000000000000000) → (0 ≤ P ∧ P ≤ Q) → ((s = 1 ∧ 10000000000 < (if v < 0 then -v else v) ∧ P = 10000000000 ∧ Q = (if v < 0 then -v else v)) ∨ (s = 0 ∧ (if v < 0 then -v else v) ≤ 10000000000 ∧ P = (if v < 0 then -v else v) ∧ Q = 10000000000)) → M1 86 2 = 1 → CF b M M1 → tT e d 1281 91 [some (.inr (.inr (.inl (86)))), some (.inr (.inr (.inl (x)))), some (.inl (s)), w3, w4] [] M1 n (tQn n (fun M' => ((v = 0 ∧ LX M' 96 0) ∨ (v ≠ 0 ∧ ∃ X : Int, CAX (if v < 0 then -v else v) X ∧ LX M' 96 (if X < 0 then -X else X))) ∧ M' 86 1 = (if v < 0 then 1 else 0) ∧ M' 86 2 = (if v = 0 then 0 else 1) ∧ CF b M M')) := by
    intro M1 P Q s w3 w4 hv0 a1 a2 rQ rP hs a3 a4
    refine tb_X3_arc_91 (c := false) ?_
    simp only [kb_X3_arc_91, w_ald_0, w_iv0, tfr_0, tfr_1, tfr_2, tfr_3, tfr_4, w_ist_3, tkl_n, tkl_i, tkl_l, tkl_r, w_ild_3, w_iv1, w_ist4, w_ic, w_gf_5_7, tw_f, w_gf_5_8, w_ild_2, w_if_eq, w_gs, w_bi, w_iv3, w_nil, true_and, and_true, Nat.reduceAdd, Nat.reduceSub, eq_self, tsh_86, tyk_5, tcq_5, tsh_87, tsh_90, tsh_93, tsh_96, tsh_99, tsh_102, tyk_6, tcq_6, tsh_79, tyk_10, tcq_10, tyk_3, tcq_3, tsh_105, tsh_106, tsh_107, tsh_108]
    refine tc_i (D := 1) (fun d' hd' => f_nearest (b := b) a1 a2 rQ rP hb a4.1.1 hd') (by omega) ?_
    rintro z M2 ⟨k, rfl, q1, q2, q3⟩
    try simp only [kb_X3_arc_91, w_ald_0, w_iv0, tfr_0, tfr_1, tfr_2, tfr_3, tfr_4, w_ist_3, tkl_n, tkl_i, tkl_l, tkl_r, w_ild_3, w_iv1, w_ist4, w_ic, w_gf_5_7, tw_f, w_gf_5_8, w_ild_2, w_if_eq, w_gs, w_bi, w_iv3, w_nil, true_and, and_true, Nat.reduceAdd, Nat.reduceSub, eq_self, tsh_86, tyk_5, tcq_5, tsh_87, tsh_90, tsh_93, tsh_96, tsh_99, tsh_102, tyk_6, tcq_6, tsh_79, tyk_10, tcq_10, tyk_3, tcq_3, tsh_105, tsh_106, tsh_107, tsh_108]
    have hk := q1.1
    have f2 : CF b M1 M2 := ⟨q2, fun j i g _ => q3 j i (by omega) (by omega)⟩
    refine tc_i (D := 1) (fun d' hd' => f_shiftTo (b := b) hk (BB_u a1 (fun i => q3 _ _ (by decide) (by decide))) (BB_u a2 (fun i => q3 _ _ (by decide) (by decide))) rQ rP hb q2.1 hd') (by omega) ?_
    rintro z M3 ⟨q4, ⟨q5, q6⟩, q7⟩
    try simp only [kb_X3_arc_91, w_ald_0, w_iv0, tfr_0, tfr_1, tfr_2, tfr_3, tfr_4, w_ist_3, tkl_n, tkl_i, tkl_l, tkl_r, w_ild_3, w_iv1, w_ist4, w_ic, w_gf_5_7, tw_f, w_gf_5_8, w_ild_2, w_if_eq, w_gs, w_bi, w_iv3, w_nil, true_and, and_true, Nat.reduceAdd, Nat.reduceSub, eq_self, tsh_86, tyk_5, tcq_5, tsh_87, tsh_90, tsh_93, tsh_96, tsh_99, tsh_102, tyk_6, tcq_6, tsh_79, tyk_10, tcq_10, tyk_3, tcq_3, tsh_105, tsh_106, tsh_107, tsh_108]
    have mk := Int.mul_nonneg (show (0 : Int) ≤ (k : Int) by omega) rP.1
    have mk2 : (k : Int) * P ≤ 8 * Q := Int.mul_le_mul (by omega) rP.2 rP.1 (by decide)
    have hcell : -(8 * Q) ≤ 16 * (8 * P - (k : Int) * Q) ∧ 16 * (8 * P - (k : Int) * Q) ≤ 8 * Q := by
      obtain ⟨_, g1, g2⟩ := q1
      rw [Int.add_mul, Int.mul_assoc] at g1
      rw [Int.sub_mul, Int.mul_assoc] at g2
      have e8 : k = 8 → (k : Int) * Q = 8 * Q := fun h => by rw [h]; rfl
      have e0 : k = 0 → (k : Int) * Q = 0 := fun h => by rw [h]; exact Int.zero_mul _
      generalize (k : Int) * Q = kQ at *
      refine ⟨?_, ?_⟩
      · rcases g2 with g2 | g2
        · have := e0 g2
          omega
        · omega
      · rcases g1 with g1 | g1
        · have := e8 g1
          omega
        · omega
    have rA : 0 ≤ (if 8 * P < (k : Int) * Q then (k : Int) * Q - 8 * P else 8 * P - (k : Int) * Q) ∧ 16 * (if 8 * P < (k : Int) * Q then (k : Int) * Q - 8 * P else 8 * P - (k : Int) * Q) ≤ 8 * Q + (k : Int) * P := by
      generalize (k : Int) * Q = kQ at *
      generalize (k : Int) * P = kP at *
      split <;> omega
    have eF : caF k P Q = tbN bARCS k 6 + (if 8 * P < (k : Int) * Q then -(csr true (qz (if 8 * P < (k : Int) * Q then (k : Int) * Q - 8 * P else 8 * P - (k : Int) * Q) (8 * Q + (k : Int) * P))) else csr true (qz (if 8 * P < (k : Int) * Q then (k : Int) * Q - 8 * P else 8 * P - (k : Int) * Q) (8 * Q + (k : Int) * P))) := by
      unfold caF
      by_cases g : 8 * P < (k : Int) * Q
      · rw [if_pos g, if_pos g, if_pos g]
      · rw [if_neg g, if_neg g, if_neg g]
    have rB : 0 < 8 * Q + (k : Int) * P ∧ 8 * Q + (k : Int) * P < 1000000000000000000000000 := by omega
    generalize hA : (if 8 * P < (k : Int) * Q then (k : Int) * Q - 8 * P else 8 * P - (k : Int) * Q) = A at *
    generalize hB : 8 * Q + (k : Int) * P = B at *
    refine tc_n (D := 2) (fun d' hd' => f_sumOdd (b := b) (alt := true) (Or.inl ⟨rfl, rfl⟩) q5 q6 rA rB hb q7.1.1 hd') (by omega) ?_
    rintro M4 ⟨q8, q9⟩
    try simp only [kb_X3_arc_91, w_ald_0, w_iv0, tfr_0, tfr_1, tfr_2, tfr_3, tfr_4, w_ist_3, tkl_n, tkl_i, tkl_l, tkl_r, w_ild_3, w_iv1, w_ist4, w_ic, w_gf_5_7, tw_f, w_gf_5_8, w_ild_2, w_if_eq, w_gs, w_bi, w_iv3, w_nil, true_and, and_true, Nat.reduceAdd, Nat.reduceSub, eq_self, tsh_86, tyk_5, tcq_5, tsh_87, tsh_90, tsh_93, tsh_96, tsh_99, tsh_102, tyk_6, tcq_6, tsh_79, tyk_10, tcq_10, tyk_3, tcq_3, tsh_105, tsh_106, tsh_107, tsh_108]
    have rq := csr_r (alt := true) (qz_r rA rB.1)
    have rz := qz_r rA rB.1
    generalize csr true (qz A B) = sm at *
    refine tc_n (D := 0) (fun d' hd' => f_clear (b := b) fx_99 hb q9.1.1) (by omega) ?_
    rintro M5 ⟨q10, q11⟩
    try simp only [kb_X3_arc_91, w_ald_0, w_iv0, tfr_0, tfr_1, tfr_2, tfr_3, tfr_4, w_ist_3, tkl_n, tkl_i, tkl_l, tkl_r, w_ild_3, w_iv1, w_ist4, w_ic, w_gf_5_7, tw_f, w_gf_5_8, w_ild_2, w_if_eq, w_gs, w_bi, w_iv3, w_nil, true_and, and_true, Nat.reduceAdd, Nat.reduceSub, eq_self, tsh_86, tyk_5, tcq_5, tsh_87, tsh_90, tsh_93, tsh_96, tsh_99, tsh_102, tyk_6, tcq_6, tsh_79, tyk_10, tcq_10, tyk_3, tcq_3, tsh_105, tsh_106, tsh_107, tsh_108]
    refine tc_n (D := 0) (fun d' hd' => f_clear (b := b) fx_102 hb q11.1.1) (by omega) ?_
    rintro M6 ⟨q12, q13⟩
    try simp only [kb_X3_arc_91, w_ald_0, w_iv0, tfr_0, tfr_1, tfr_2, tfr_3, tfr_4, w_ist_3, tkl_n, tkl_i, tkl_l, tkl_r, w_ild_3, w_iv1, w_ist4, w_ic, w_gf_5_7, tw_f, w_gf_5_8, w_ild_2, w_if_eq, w_gs, w_bi, w_iv3, w_nil, true_and, and_true, Nat.reduceAdd, Nat.reduceSub, eq_self, tsh_86, tyk_5, tcq_5, tsh_87, tsh_90, tsh_93, tsh_96, tsh_99, tsh_102, tyk_6, tcq_6, tsh_79, tyk_10, tcq_10, tyk_3, tcq_3, tsh_105, tsh_106, tsh_107, tsh_108]
    have c99 : LX M6 99 0 := LX_u q10 (fun i => q13.2 _ _ (by decide) (by decide))
    have c96 : LX M6 96 sm := LX_u (LX_u q8 (fun i => q11.2 _ _ (by decide) (by decide))) (fun i => q13.2 _ _ (by decide) (by decide))
    have g6 : CF b M M6 := CF_tr a4 (CF_tr f2 (CF_tr (CF_TB q7) (CF_tr (DF_C q9) (CF_tr (CF_g fx_99 q11) (CF_g fx_102 q13)))))
    have h6 : M6 86 2 = 1 := by
      rw [q13.2 86 2 (by decide) (by decide), q11.2 86 2 (by decide) (by decide), q9.2 86 2 (by decide) (by decide), q7.2 86 2 (by decide), q3 86 2 (by decide) (by decide)]
      exact a3
    have tb := tbN_r (j := 3) (row := k) (by omega) (i := 6) (Nat.le_refl _)
    have tb8 := tbN_r (j := 3) (row := 8) (by omega) (i := 6) (Nat.le_refl _)
    rw [show tabL 3 = bARCS from rfl, LB6] at tb tb8
    generalize hT : tbN bARCS k 6 = t at *
    generalize hT8 : tbN bARCS 8 6 = t8 at *
    generalize hav : (if v < 0 then -v else v) = av at *
    have fin : ∀ (M11 M12 M13 : tM) (G W : Int), CAX av (G - W) → LX M12 96 (if G < W then W - G else G - W) → M12 86 2 = M11 86 2 → M11 86 2 = 1 → CF b M M11 → BG b M11 M12 → M13 = tU M12 86 1 (if v < 0 then 1 else 0) → ((v = 0 ∧ LX M13 96 0) ∨ (v ≠ 0 ∧ ∃ X : Int, CAX av X ∧ LX M13 96 (if X < 0 then -X else X))) ∧ M13 86 1 = (if v < 0 then 1 else 0) ∧ M13 86 2 = (if v = 0 then 0 else 1) ∧ CF b M M13 := by
      intro M11 M12 M13 G W y1 y2 y3 y4 y5 y6 y7
      have c1 := CE_86 (f := 1) (v := if v < 0 then 1 else 0) (Or.inl rfl) (by split <;> decide) hb y6.1.1
      rw [show ((1 : Nat) : Int) = 1 from rfl, ← y7] at c1
      refine ⟨Or.inr ⟨hv0, G - W, y1, ?_⟩, by rw [y7, tU_eq], ?_, CF_tr y5 (CF_tr (CF_BG y6) (CF_c c1))⟩
      · refine LX_u (M := M12) ?_ (fun i => c1.2 _ _ (by decide))
        by_cases g : G < W
        · rw [if_pos (show G - W < 0 by omega), show -(G - W) = W - G by omega]
          rw [if_pos g] at y2
          exact y2
        · rw [if_neg (show ¬ G - W < 0 by omega)]
          rw [if_neg g] at y2
          exact y2
      · rw [y7, tU_ni (by decide), y3, y4, if_neg hv0]
    have n190 : ∀ (M10 : tM) (G W : Int) (x4 : Nat), LX M10 99 G → LX M10 102 W → LX M10 96 sm → (0 ≤ G ∧ G ≤ 10 * 1000000000000000000000000000000000000000000000000000000) → (0 ≤ W ∧ W ≤ 10 * 1000000000000000000000000000000000000000000000000000000) → ((x4 = 99 ∧ CAX av (G + sm - W)) ∨ (x4 = 102 ∧ CAX av (G - (W + sm)))) → M10 86 2 = 1 → CF b M M10 → tT e d 1281 190 [some (.inr (.inr (.inl (86)))), some (.inr (.inr (.inl (x)))), some (.inl (s)), some (.inl ((k : Int))), some (.inl (z))] [.inr (.inr (.inl x4))] M10 n (tQn n (fun M' => ((v = 0 ∧ LX M' 96 0) ∨ (v ≠ 0 ∧ ∃ X : Int, CAX av X ∧ LX M' 96 (if X < 0 then -X else X))) ∧ M' 86 1 = (if v < 0 then 1 else 0) ∧ M' 86 2 = (if v = 0 then 0 else 1) ∧ CF b M M')) := by
      intro M10 G W x4 b3 b4 b5 b6 b7 b8 b9 b10
      rcases b8 with ⟨rfl, hX⟩ | ⟨rfl, hX⟩
      · refine tb_X3_arc_190 (c := false) ?_
        simp only [kb_X3_arc_190, w_ald_0, w_gf_5_6, tw_f, w_iv1, tfr_0, tfr_1, tfr_2, tfr_3, tfr_4, w_iv0, w_ald_1, w_pf_5_1, w_re, true_and, and_true, Nat.reduceAdd, Nat.reduceSub, eq_self, tsh_86, tyk_5, tcq_5, tsh_87, tsh_90, tsh_93, tsh_96, tsh_99, tsh_102, tyk_6, tcq_6, tsh_79, tyk_10, tcq_10, tyk_3, tcq_3, tsh_105, tsh_106, tsh_107, tsh_108, hx]
        refine tc_n (D := 0) (fun d' hd' => f_plus (b := b) fx_99 fx_96 b3 b5 (by omega) hb b10.1.1) (by omega) ?_
        rintro M11 ⟨c3, c4⟩
        try simp only [kb_X3_arc_190, w_ald_0, w_gf_5_6, tw_f, w_iv1, tfr_0, tfr_1, tfr_2, tfr_3, tfr_4, w_iv0, w_ald_1, w_pf_5_1, w_re, true_and, and_true, Nat.reduceAdd, Nat.reduceSub, eq_self, tsh_86, tyk_5, tcq_5, tsh_87, tsh_90, tsh_93, tsh_96, tsh_99, tsh_102, tyk_6, tcq_6, tsh_79, tyk_10, tcq_10, tyk_3, tcq_3, tsh_105, tsh_106, tsh_107, tsh_108, hx]
        refine tc_n (D := 1) (fun d' hd' => f_settle (b := b) c3 (LX_u b4 (fun i => c4.2 _ _ (by decide) (by decide))) hb c4.1.1 hd') (by omega) ?_
        rintro M12 ⟨⟨c5, c6, c7⟩, c8⟩
        try simp only [kb_X3_arc_190, w_ald_0, w_gf_5_6, tw_f, w_iv1, tfr_0, tfr_1, tfr_2, tfr_3, tfr_4, w_iv0, w_ald_1, w_pf_5_1, w_re, true_and, and_true, Nat.reduceAdd, Nat.reduceSub, eq_self, tsh_86, tyk_5, tcq_5, tsh_87, tsh_90, tsh_93, tsh_96, tsh_99, tsh_102, tyk_6, tcq_6, tsh_79, tyk_10, tcq_10, tyk_3, tcq_3, tsh_105, tsh_106, tsh_107, tsh_108, hx]
        have y5 := CF_tr b10 (CF_g fx_99 c4)
        have v12 : BB M12 x v := BB_u hv (fun i => (CF_tr y5 (CF_BG c8)).2 _ _ (by omega) (by omega))
        refine tc_i (D := 0) (fun d' hd' => y_isNegative h1 v12 rV) (by omega) ?_
        rintro w M13 ⟨hw, rfl⟩
        try simp only [kb_X3_arc_190, w_ald_0, w_gf_5_6, tw_f, w_iv1, tfr_0, tfr_1, tfr_2, tfr_3, tfr_4, w_iv0, w_ald_1, w_pf_5_1, w_re, true_and, and_true, Nat.reduceAdd, Nat.reduceSub, eq_self, tsh_86, tyk_5, tcq_5, tsh_87, tsh_90, tsh_93, tsh_96, tsh_99, tsh_102, tyk_6, tcq_6, tsh_79, tyk_10, tcq_10, tyk_3, tcq_3, tsh_105, tsh_106, tsh_107, tsh_108, hx]
        repeat refine And.intro (by omega) ?_
        have ew : w = (if v < 0 then 1 else 0) := by split <;> omega
        exact ⟨rfl, rfl, fin M11 M13 _ _ _ hX c7 c6 ((c4.2 86 2 (by decide) (by decide)).trans b9) y5 c8 (by rw [ew])⟩
      · refine tb_X3_arc_190 (c := false) ?_
        simp only [kb_X3_arc_190, w_ald_0, w_gf_5_6, tw_f, w_iv1, tfr_0, tfr_1, tfr_2, tfr_3, tfr_4, w_iv0, w_ald_1, w_pf_5_1, w_re, true_and, and_true, Nat.reduceAdd, Nat.reduceSub, eq_self, tsh_86, tyk_5, tcq_5, tsh_87, tsh_90, tsh_93, tsh_96, tsh_99, tsh_102, tyk_6, tcq_6, tsh_79, tyk_10, tcq_10, tyk_3, tcq_3, tsh_105, tsh_106, tsh_107, tsh_108, hx]
        refine tc_n (D := 0) (fun d' hd' => f_plus (b := b) fx_102 fx_96 b4 b5 (by omega) hb b10.1.1) (by omega) ?_
        rintro M11 ⟨c3, c4⟩
        try simp only [kb_X3_arc_190, w_ald_0, w_gf_5_6, tw_f, w_iv1, tfr_0, tfr_1, tfr_2, tfr_3, tfr_4, w_iv0, w_ald_1, w_pf_5_1, w_re, true_and, and_true, Nat.reduceAdd, Nat.reduceSub, eq_self, tsh_86, tyk_5, tcq_5, tsh_87, tsh_90, tsh_93, tsh_96, tsh_99, tsh_102, tyk_6, tcq_6, tsh_79, tyk_10, tcq_10, tyk_3, tcq_3, tsh_105, tsh_106, tsh_107, tsh_108, hx]
        refine tc_n (D := 1) (fun d' hd' => f_settle (b := b) (LX_u b3 (fun i => c4.2 _ _ (by decide) (by decide))) c3 hb c4.1.1 hd') (by omega) ?_
        rintro M12 ⟨⟨c5, c6, c7⟩, c8⟩
        try simp only [kb_X3_arc_190, w_ald_0, w_gf_5_6, tw_f, w_iv1, tfr_0, tfr_1, tfr_2, tfr_3, tfr_4, w_iv0, w_ald_1, w_pf_5_1, w_re, true_and, and_true, Nat.reduceAdd, Nat.reduceSub, eq_self, tsh_86, tyk_5, tcq_5, tsh_87, tsh_90, tsh_93, tsh_96, tsh_99, tsh_102, tyk_6, tcq_6, tsh_79, tyk_10, tcq_10, tyk_3, tcq_3, tsh_105, tsh_106, tsh_107, tsh_108, hx]
        have y5 := CF_tr b10 (CF_g fx_102 c4)
        have v12 : BB M12 x v := BB_u hv (fun i => (CF_tr y5 (CF_BG c8)).2 _ _ (by omega) (by omega))
        refine tc_i (D := 0) (fun d' hd' => y_isNegative h1 v12 rV) (by omega) ?_
        rintro w M13 ⟨hw, rfl⟩
        try simp only [kb_X3_arc_190, w_ald_0, w_gf_5_6, tw_f, w_iv1, tfr_0, tfr_1, tfr_2, tfr_3, tfr_4, w_iv0, w_ald_1, w_pf_5_1, w_re, true_and, and_true, Nat.reduceAdd, Nat.reduceSub, eq_self, tsh_86, tyk_5, tcq_5, tsh_87, tsh_90, tsh_93, tsh_96, tsh_99, tsh_102, tyk_6, tcq_6, tsh_79, tyk_10, tcq_10, tyk_3, tcq_3, tsh_105, tsh_106, tsh_107, tsh_108, hx]
        repeat refine And.intro (by omega) ?_
        have ew : w = (if v < 0 then 1 else 0) := by split <;> omega
        exact ⟨rfl, rfl, fin M11 M13 _ _ _ hX c7 c6 ((c4.2 86 2 (by decide) (by decide)).trans b9) y5 c8 (by rw [ew])⟩
    -- steep or not
    rcases hs with ⟨rfl, s1, s2, s3⟩ | ⟨rfl, s1, s2, s3⟩
    · have hX0 : CAX av (2 * t8 - caF k P Q) := Or.inr ⟨s1, k, by rw [← s2, ← s3]; exact q1, by rw [hT8, s2, s3]⟩
      repeat refine And.intro (by omega) ?_
      first | refine ⟨fun q => absurd q (by omega), fun _ => ?_⟩ | refine fun _ => ?_
      refine tc_n (D := 1) (fun d' hd' => f_load (b := b) (j := 3) (row := 8) (f := 2) fx_99 (Or.inr rfl) (by decide) (by decide) hb q13.1.1 hd') (by omega) ?_
      rintro M7 ⟨r1, r2⟩
      try simp only [kb_X3_arc_91, w_ald_0, w_iv0, tfr_0, tfr_1, tfr_2, tfr_3, tfr_4, w_ist_3, tkl_n, tkl_i, tkl_l, tkl_r, w_ild_3, w_iv1, w_ist4, w_ic, w_gf_5_7, tw_f, w_gf_5_8, w_ild_2, w_if_eq, w_gs, w_bi, w_iv3, w_nil, true_and, and_true, Nat.reduceAdd, Nat.reduceSub, eq_self, tsh_86, tyk_5, tcq_5, tsh_87, tsh_90, tsh_93, tsh_96, tsh_99, tsh_102, tyk_6, tcq_6, tsh_79, tyk_10, tcq_10, tyk_3, tcq_3, tsh_105, tsh_106, tsh_107, tsh_108]
      rw [show tabL 3 = bARCS from rfl, hT8, show ((2 : Nat) : Int) = 2 from rfl] at r1
      refine tb_X3_arc_139 (c := false) ?_
      simp only [kb_X3_arc_139, w_ald_0, w_gf_5_5, tw_f, w_gs, w_ild_3, w_ic, w_iv3, tfr_0, tfr_1, tfr_2, tfr_3, tfr_4, w_ild_2, w_if_eq, w_gf_5_8, w_goto, true_and, and_true, Nat.reduceAdd, Nat.reduceSub, eq_self, tsh_86, tyk_5, tcq_5, tsh_87, tsh_90, tsh_93, tsh_96, tsh_99, tsh_102, tyk_6, tcq_6, tsh_79, tyk_10, tcq_10, tyk_3, tcq_3, tsh_105, tsh_106, tsh_107, tsh_108]
      refine tc_n (D := 1) (fun d' hd' => f_load (b := b) (j := 3) (row := k) (f := 1) fx_93 (Or.inr rfl) hk (by decide) hb r2.1.1 hd') (by omega) ?_
      rintro M8 ⟨r3, r4⟩
      try simp only [kb_X3_arc_139, w_ald_0, w_gf_5_5, tw_f, w_gs, w_ild_3, w_ic, w_iv3, tfr_0, tfr_1, tfr_2, tfr_3, tfr_4, w_ild_2, w_if_eq, w_gf_5_8, w_goto, true_and, and_true, Nat.reduceAdd, Nat.reduceSub, eq_self, tsh_86, tyk_5, tcq_5, tsh_87, tsh_90, tsh_93, tsh_96, tsh_99, tsh_102, tyk_6, tcq_6, tsh_79, tyk_10, tcq_10, tyk_3, tcq_3, tsh_105, tsh_106, tsh_107, tsh_108]
      rw [show tabL 3 = bARCS from rfl, hT, show ((1 : Nat) : Int) = 1 from rfl, Int.one_mul] at r3
      repeat refine And.intro (by omega) ?_
      first | refine ⟨fun q => absurd q (by omega), fun _ => ?_⟩ | refine fun _ => ?_
      refine tb_X3_arc_166 (c := false) ?_
      simp only [kb_X3_arc_166, w_ald_0, w_gf_5_5, tw_f, w_iv1, tfr_0, tfr_1, tfr_2, tfr_3, tfr_4, w_ild_2, w_ild4, w_ic_eq, w_gf_5_8, w_goto, true_and, and_true, Nat.reduceAdd, Nat.reduceSub, eq_self, tsh_86, tyk_5, tcq_5, tsh_87, tsh_90, tsh_93, tsh_96, tsh_99, tsh_102, tyk_6, tcq_6, tsh_79, tyk_10, tcq_10, tyk_3, tcq_3, tsh_105, tsh_106, tsh_107, tsh_108]
      have d102 : LX M8 102 0 := LX_u (LX_u q12 (fun i => r2.2 _ _ (by decide) (by decide))) (fun i => r4.2 _ _ (by decide) (by decide))
      have d99 : LX M8 99 (2 * t8) := LX_u r1 (fun i => r4.2 _ _ (by decide) (by decide))
      have d96 : LX M8 96 sm := LX_u (LX_u c96 (fun i => r2.2 _ _ (by decide) (by decide))) (fun i => r4.2 _ _ (by decide) (by decide))
      refine tc_n (D := 0) (fun d' hd' => f_plus (b := b) fx_102 fx_93 d102 r3 (by omega) hb r4.1.1) (by omega) ?_
      rintro M9 ⟨r5, r6⟩
      try simp only [kb_X3_arc_166, w_ald_0, w_gf_5_5, tw_f, w_iv1, tfr_0, tfr_1, tfr_2, tfr_3, tfr_4, w_ild_2, w_ild4, w_ic_eq, w_gf_5_8, w_goto, true_and, and_true, Nat.reduceAdd, Nat.reduceSub, eq_self, tsh_86, tyk_5, tcq_5, tsh_87, tsh_90, tsh_93, tsh_96, tsh_99, tsh_102, tyk_6, tcq_6, tsh_79, tyk_10, tcq_10, tyk_3, tcq_3, tsh_105, tsh_106, tsh_107, tsh_108]
      have h9 : M9 86 2 = 1 := by
        rw [r6.2 86 2 (by decide) (by decide), r4.2 86 2 (by decide) (by decide), r2.2 86 2 (by decide) (by decide)]
        exact h6
      have g9 : CF b M M9 := CF_tr g6 (CF_tr (CF_g fx_99 r2) (CF_tr (CF_g fx_93 r4) (CF_g fx_102 r6)))
      have e99 : LX M9 99 (2 * t8) := LX_u d99 (fun i => r6.2 _ _ (by decide) (by decide))
      have e96 : LX M9 96 sm := LX_u d96 (fun i => r6.2 _ _ (by decide) (by decide))
      rw [eF] at hX0
      repeat refine And.intro (by omega) ?_
      refine ⟨fun g => ?_, fun g => ?_⟩
      · refine tb_X3_arc_186 (c := false) ?_
        simp only [kb_X3_arc_186, w_ald_0, w_gf_5_7, tw_f, w_nil, true_and, and_true, Nat.reduceAdd, Nat.reduceSub, eq_self, tsh_86, tyk_5, tcq_5, tsh_87, tsh_90, tsh_93, tsh_96, tsh_99, tsh_102, tyk_6, tcq_6, tsh_79, tyk_10, tcq_10, tyk_3, tcq_3, tsh_105, tsh_106, tsh_107, tsh_108]
        refine n190 M9 _ _ 99 e99 r5 e96 (by omega) (by omega) (Or.inl ⟨rfl, ?_⟩) h9 g9
        have hl : 8 * P < (k : Int) * Q := by omega
        rw [if_pos hl] at hX0
        rw [show 2 * t8 + sm - (0 + t) = 2 * t8 - (t + -sm) by omega]
        exact hX0
      · refine n190 M9 _ _ 102 e99 r5 e96 (by omega) (by omega) (Or.inr ⟨rfl, ?_⟩) h9 g9
        have hl : ¬ 8 * P < (k : Int) * Q := by omega
        rw [if_neg hl] at hX0
        rw [show 2 * t8 - (0 + t + sm) = 2 * t8 - (t + sm) by omega]
        exact hX0
    · have hX0 : CAX av (caF k P Q) := Or.inl ⟨s1, k, by rw [← s2, ← s3]; exact q1, by rw [s2, s3]⟩
      repeat refine And.intro (by omega) ?_
      refine ⟨fun _ => ?_, fun q => (q (by first | trivial | rfl)).elim⟩
      refine tb_X3_arc_139 (c := false) ?_
      simp only [kb_X3_arc_139, w_ald_0, w_gf_5_5, tw_f, w_gs, w_ild_3, w_ic, w_iv3, tfr_0, tfr_1, tfr_2, tfr_3, tfr_4, w_ild_2, w_if_eq, w_gf_5_8, w_goto, true_and, and_true, Nat.reduceAdd, Nat.reduceSub, eq_self, tsh_86, tyk_5, tcq_5, tsh_87, tsh_90, tsh_93, tsh_96, tsh_99, tsh_102, tyk_6, tcq_6, tsh_79, tyk_10, tcq_10, tyk_3, tcq_3, tsh_105, tsh_106, tsh_107, tsh_108]
      refine tc_n (D := 1) (fun d' hd' => f_load (b := b) (j := 3) (row := k) (f := 1) fx_93 (Or.inr rfl) hk (by decide) hb q13.1.1 hd') (by omega) ?_
      rintro M8 ⟨r3, r4⟩
      try simp only [kb_X3_arc_139, w_ald_0, w_gf_5_5, tw_f, w_gs, w_ild_3, w_ic, w_iv3, tfr_0, tfr_1, tfr_2, tfr_3, tfr_4, w_ild_2, w_if_eq, w_gf_5_8, w_goto, true_and, and_true, Nat.reduceAdd, Nat.reduceSub, eq_self, tsh_86, tyk_5, tcq_5, tsh_87, tsh_90, tsh_93, tsh_96, tsh_99, tsh_102, tyk_6, tcq_6, tsh_79, tyk_10, tcq_10, tyk_3, tcq_3, tsh_105, tsh_106, tsh_107, tsh_108]
      rw [show tabL 3 = bARCS from rfl, hT, show ((1 : Nat) : Int) = 1 from rfl, Int.one_mul] at r3
      repeat refine And.intro (by omega) ?_
      refine ⟨fun _ => ?_, fun q => (q (by first | trivial | rfl)).elim⟩
      refine tb_X3_arc_162 (c := false) ?_
      simp only [kb_X3_arc_162, w_ald_0, w_gf_5_7, tw_f, w_nil, true_and, and_true, Nat.reduceAdd, Nat.reduceSub, eq_self, tsh_86, tyk_5, tcq_5, tsh_87, tsh_90, tsh_93, tsh_96, tsh_99, tsh_102, tyk_6, tcq_6, tsh_79, tyk_10, tcq_10, tyk_3, tcq_3, tsh_105, tsh_106, tsh_107, tsh_108]
      refine tb_X3_arc_166 (c := false) ?_
      simp only [kb_X3_arc_166, w_ald_0, w_gf_5_5, tw_f, w_iv1, tfr_0, tfr_1, tfr_2, tfr_3, tfr_4, w_ild_2, w_ild4, w_ic_eq, w_gf_5_8, w_goto, true_and, and_true, Nat.reduceAdd, Nat.reduceSub, eq_self, tsh_86, tyk_5, tcq_5, tsh_87, tsh_90, tsh_93, tsh_96, tsh_99, tsh_102, tyk_6, tcq_6, tsh_79, tyk_10, tcq_10, tyk_3, tcq_3, tsh_105, tsh_106, tsh_107, tsh_108]
      have d102 : LX M8 102 0 := LX_u q12 (fun i => r4.2 _ _ (by decide) (by decide))
      have d99 : LX M8 99 0 := LX_u c99 (fun i => r4.2 _ _ (by decide) (by decide))
      have d96 : LX M8 96 sm := LX_u c96 (fun i => r4.2 _ _ (by decide) (by decide))
      refine tc_n (D := 0) (fun d' hd' => f_plus (b := b) fx_99 fx_93 d99 r3 (by omega) hb r4.1.1) (by omega) ?_
      rintro M9 ⟨r5, r6⟩
      try simp only [kb_X3_arc_166, w_ald_0, w_gf_5_5, tw_f, w_iv1, tfr_0, tfr_1, tfr_2, tfr_3, tfr_4, w_ild_2, w_ild4, w_ic_eq, w_gf_5_8, w_goto, true_and, and_true, Nat.reduceAdd, Nat.reduceSub, eq_self, tsh_86, tyk_5, tcq_5, tsh_87, tsh_90, tsh_93, tsh_96, tsh_99, tsh_102, tyk_6, tcq_6, tsh_79, tyk_10, tcq_10, tyk_3, tcq_3, tsh_105, tsh_106, tsh_107, tsh_108]
      have h9 : M9 86 2 = 1 := by
        rw [r6.2 86 2 (by decide) (by decide), r4.2 86 2 (by decide) (by decide)]
        exact h6
      have g9 : CF b M M9 := CF_tr g6 (CF_tr (CF_g fx_93 r4) (CF_g fx_99 r6))
      have e102 : LX M9 102 0 := LX_u d102 (fun i => r6.2 _ _ (by decide) (by decide))
      have e96 : LX M9 96 sm := LX_u d96 (fun i => r6.2 _ _ (by decide) (by decide))
      rw [eF] at hX0
      repeat refine And.intro (by omega) ?_
      refine ⟨fun g => ?_, fun g => ?_⟩
      · refine tb_X3_arc_186 (c := false) ?_
        simp only [kb_X3_arc_186, w_ald_0, w_gf_5_7, tw_f, w_nil, true_and, and_true, Nat.reduceAdd, Nat.reduceSub, eq_self, tsh_86, tyk_5, tcq_5, tsh_87, tsh_90, tsh_93, tsh_96, tsh_99, tsh_102, tyk_6, tcq_6, tsh_79, tyk_10, tcq_10, tyk_3, tcq_3, tsh_105, tsh_106, tsh_107, tsh_108]
        refine n190 M9 _ _ 99 r5 e102 e96 (by omega) (by decide) (Or.inl ⟨rfl, ?_⟩) h9 g9
        have hl : ¬ 8 * P < (k : Int) * Q := by omega
        rw [if_neg hl] at hX0
        rw [show 0 + t + sm - 0 = t + sm by omega]
        exact hX0
      · refine n190 M9 _ _ 102 r5 e102 e96 (by omega) (by decide) (Or.inr ⟨rfl, ?_⟩) h9 g9
        have hl : 8 * P < (k : Int) * Q := by omega
        rw [if_pos hl] at hX0
        rw [show 0 + t - (0 + sm) = t + -sm by omega]
        exact hX0
  -- steep?
  have n46 : ∀ (M1 : tM) (w2 w3 w4 : Option tV), v ≠ 0 → BB M1 107 (if v < 0 then -v else v) → M1 86 2 = 1 → CF b M M1 → tT e d 1281 46 [some (.inr (.inr (.inl (86)))), some (.inr (.inr (.inl (x)))), w2, w3, w4] [] M1 n (tQn n (fun M' => ((v = 0 ∧ LX M' 96 0) ∨ (v ≠ 0 ∧ ∃ X : Int, CAX (if v < 0 then -v else v) X ∧ LX M' 96 (if X < 0 then -X else X))) ∧ M' 86 1 = (if v < 0 then 1 else 0) ∧ M' 86 2 = (if v = 0 then 0 else 1) ∧ CF b M M')) := by
    intro M1 w2 w3 w4 hv0 a1 a2 a3
    have ra : 0 < (if v < 0 then -v else v) ∧ (if v < 0 then -v else v) ≤ 10000000000000000000000 := by split <;> omega
    generalize hav : (if v < 0 then -v else v) = av at *
    have r1 : RV av := by unfold RV; omega
    have r2 : RV 10000000000 := by unfold RV; decide
    refine tb_X3_arc_46 (c := false) ?_
    simp only [kb_X3_arc_46, w_ald_0, w_gf_5_12, tw_f, w_lc1, w_lc0, w_iv2, tfr_0, tfr_1, tfr_2, tfr_3, tfr_4, w_gf_5_11, w_iv1, w_ist_2, tkl_n, tkl_i, tkl_l, tkl_r, w_ild_2, w_if_eq, w_nil, true_and, and_true, Nat.reduceAdd, Nat.reduceSub, eq_self, tsh_86, tyk_5, tcq_5, tsh_87, tsh_90, tsh_93, tsh_96, tsh_99, tsh_102, tyk_6, tcq_6, tsh_79, tyk_10, tcq_10, tyk_3, tcq_3, tsh_105, tsh_106, tsh_107, tsh_108]
    refine tc_n (D := 0) (fun d' hd' => y_assign (b := b) (w := 1) (p := 0) cl_108 (by decide) (Or.inl hb) a3.1.1) (by omega) ?_
    rintro M2 ⟨q1, q2⟩
    rw [show (1 : Int) * 10000000000 + 0 = 10000000000 by decide] at q1
    try simp only [kb_X3_arc_46, w_ald_0, w_gf_5_12, tw_f, w_lc1, w_lc0, w_iv2, tfr_0, tfr_1, tfr_2, tfr_3, tfr_4, w_gf_5_11, w_iv1, w_ist_2, tkl_n, tkl_i, tkl_l, tkl_r, w_ild_2, w_if_eq, w_nil, true_and, and_true, Nat.reduceAdd, Nat.reduceSub, eq_self, tsh_86, tyk_5, tcq_5, tsh_87, tsh_90, tsh_93, tsh_96, tsh_99, tsh_102, tyk_6, tcq_6, tsh_79, tyk_10, tcq_10, tyk_3, tcq_3, tsh_105, tsh_106, tsh_107, tsh_108]
    have b1 : BB M2 107 av := BB_u a1 (fun i => q2.2.2 _ _ (by decide))
    refine tc_i (D := 0) (fun d' hd' => y_isBelow cl_108 cl_107 q1 b1 r2 r1) (by omega) ?_
    rintro z M3 ⟨q3, rfl⟩
    try simp only [kb_X3_arc_46, w_ald_0, w_gf_5_12, tw_f, w_lc1, w_lc0, w_iv2, tfr_0, tfr_1, tfr_2, tfr_3, tfr_4, w_gf_5_11, w_iv1, w_ist_2, tkl_n, tkl_i, tkl_l, tkl_r, w_ild_2, w_if_eq, w_nil, true_and, and_true, Nat.reduceAdd, Nat.reduceSub, eq_self, tsh_86, tyk_5, tcq_5, tsh_87, tsh_90, tsh_93, tsh_96, tsh_99, tsh_102, tyk_6, tcq_6, tsh_79, tyk_10, tcq_10, tyk_3, tcq_3, tsh_105, tsh_106, tsh_107, tsh_108]
    have d2 := (q2.2.2 86 2 (by decide)).trans a2
    have d3 := CF_tr a3 (CF_d q2 (by decide))
    repeat refine And.intro (by omega) ?_
    refine ⟨fun g => ?_, fun g => ?_⟩
    · exact n91 M3 av 10000000000 z _ _ hv0 b1 q1 (by decide) (by omega) (by rw [g]; exact Or.inr ⟨rfl, by omega, rfl, rfl⟩) d2 d3
    · refine tc_n (D := 0) (fun d' hd' => y_copy (b := b) cl_108 cl_107 b1 (Or.inl hb) q2.1) (by omega) ?_
      rintro M4 ⟨q4, q5⟩
      try simp only [kb_X3_arc_46, w_ald_0, w_gf_5_12, tw_f, w_lc1, w_lc0, w_iv2, tfr_0, tfr_1, tfr_2, tfr_3, tfr_4, w_gf_5_11, w_iv1, w_ist_2, tkl_n, tkl_i, tkl_l, tkl_r, w_ild_2, w_if_eq, w_nil, true_and, and_true, Nat.reduceAdd, Nat.reduceSub, eq_self, tsh_86, tyk_5, tcq_5, tsh_87, tsh_90, tsh_93, tsh_96, tsh_99, tsh_102, tyk_6, tcq_6, tsh_79, tyk_10, tcq_10, tyk_3, tcq_3, tsh_105, tsh_106, tsh_107, tsh_108]
      refine tc_n (D := 0) (fun d' hd' => y_assign (b := b) (w := 1) (p := 0) cl_107 (by decide) (Or.inl hb) q5.1) (by omega) ?_
      rintro M5 ⟨q6, q7⟩
      rw [show (1 : Int) * 10000000000 + 0 = 10000000000 by decide] at q6
      try simp only [kb_X3_arc_46, w_ald_0, w_gf_5_12, tw_f, w_lc1, w_lc0, w_iv2, tfr_0, tfr_1, tfr_2, tfr_3, tfr_4, w_gf_5_11, w_iv1, w_ist_2, tkl_n, tkl_i, tkl_l, tkl_r, w_ild_2, w_if_eq, w_nil, true_and, and_true, Nat.reduceAdd, Nat.reduceSub, eq_self, tsh_86, tyk_5, tcq_5, tsh_87, tsh_90, tsh_93, tsh_96, tsh_99, tsh_102, tyk_6, tcq_6, tsh_79, tyk_10, tcq_10, tyk_3, tcq_3, tsh_105, tsh_106, tsh_107, tsh_108]
      have c1 : BB M5 108 av := BB_u q4 (fun i => q7.2.2 _ _ (by decide))
      have hz1 : z = 1 := by omega
      exact n91 M5 10000000000 av z _ _ hv0 q6 c1 (by omega) (by omega) (by rw [hz1]; exact Or.inl ⟨rfl, by omega, rfl, rfl⟩) (by rw [q7.2.2 86 2 (by decide), q5.2.2 86 2 (by decide)]; exact d2) (CF_tr d3 (CF_tr (CF_d q5 (by decide)) (CF_d q7 (by decide))))
  have n13 : ∀ (z : Int) (w2 w3 w4 : Option tV), z = (if v = 0 then 0 else 1) → tT e d 1281 13 [some (.inr (.inr (.inl (86)))), some (.inr (.inr (.inl (x)))), w2, w3, w4] [.inl z, .inr (.inr (.inl 86))] M n (tQn n (fun M' => ((v = 0 ∧ LX M' 96 0) ∨ (v ≠ 0 ∧ ∃ X : Int, CAX (if v < 0 then -v else v) X ∧ LX M' 96 (if X < 0 then -X else X))) ∧ M' 86 1 = (if v < 0 then 1 else 0) ∧ M' 86 2 = (if v = 0 then 0 else 1) ∧ CF b M M')) := by
    intro z w2 w3 w4 hz
    have hz1 : 0 ≤ z ∧ z ≤ 1 := by rw [hz]; split <;> decide
    refine tb_X3_arc_13 (c := false) ?_
    simp only [kb_X3_arc_13, w_iv1, tfr_0, tfr_1, tfr_2, tfr_3, tfr_4, w_ald_1, w_iv0, w_if_eq, w_re, true_and, and_true, Nat.reduceAdd, Nat.reduceSub, eq_self, tsh_86, tyk_5, tcq_5, tsh_87, tsh_90, tsh_93, tsh_96, tsh_99, tsh_102, tyk_6, tcq_6, tsh_79, tyk_10, tcq_10, tyk_3, tcq_3, tsh_105, tsh_106, tsh_107, tsh_108, hx]
    refine tc_n (D := 1) (fun d' hd' => f_begin (b := b) hz1 hb hC hd') (by omega) ?_
    rintro M1 ⟨⟨q1, q2, q3⟩, q4⟩
    try simp only [kb_X3_arc_13, w_iv1, tfr_0, tfr_1, tfr_2, tfr_3, tfr_4, w_ald_1, w_iv0, w_if_eq, w_re, true_and, and_true, Nat.reduceAdd, Nat.reduceSub, eq_self, tsh_86, tyk_5, tcq_5, tsh_87, tsh_90, tsh_93, tsh_96, tsh_99, tsh_102, tyk_6, tcq_6, tsh_79, tyk_10, tcq_10, tyk_3, tcq_3, tsh_105, tsh_106, tsh_107, tsh_108, hx]
    have v1 : BB M1 x v := BB_u hv (fun i => q4.2 _ _ (by omega) (by omega) (by omega))
    refine tc_i (D := 0) (fun d' hd' => y_isZero h1 v1 rV) (by omega) ?_
    rintro w M2 ⟨q5, rfl⟩
    try simp only [kb_X3_arc_13, w_iv1, tfr_0, tfr_1, tfr_2, tfr_3, tfr_4, w_ald_1, w_iv0, w_if_eq, w_re, true_and, and_true, Nat.reduceAdd, Nat.reduceSub, eq_self, tsh_86, tyk_5, tcq_5, tsh_87, tsh_90, tsh_93, tsh_96, tsh_99, tsh_102, tyk_6, tcq_6, tsh_79, tyk_10, tcq_10, tyk_3, tcq_3, tsh_105, tsh_106, tsh_107, tsh_108, hx]
    repeat refine And.intro (by omega) ?_
    refine ⟨fun g => ?_, fun g => ?_⟩
    · have hv0 : v ≠ 0 := by omega
      rw [hz, if_neg hv0] at q2
      refine tb_X3_arc_24 (c := false) ?_
      simp only [kb_X3_arc_24, w_ald_0, w_gf_5_11, tw_f, w_ald_1, w_iv1, tfr_0, tfr_1, tfr_2, tfr_3, tfr_4, w_iv0, w_if_eq, w_nil, true_and, and_true, Nat.reduceAdd, Nat.reduceSub, eq_self, tsh_86, tyk_5, tcq_5, tsh_87, tsh_90, tsh_93, tsh_96, tsh_99, tsh_102, tyk_6, tcq_6, tsh_79, tyk_10, tcq_10, tyk_3, tcq_3, tsh_105, tsh_106, tsh_107, tsh_108, hx]
      refine tc_n (D := 0) (fun d' hd' => y_copy (b := b) cl_107 h1 v1 (Or.inl hb) q4.1.1) (by omega) ?_
      rintro M3 ⟨q6, q7⟩
      try simp only [kb_X3_arc_24, w_ald_0, w_gf_5_11, tw_f, w_ald_1, w_iv1, tfr_0, tfr_1, tfr_2, tfr_3, tfr_4, w_iv0, w_if_eq, w_nil, true_and, and_true, Nat.reduceAdd, Nat.reduceSub, eq_self, tsh_86, tyk_5, tcq_5, tsh_87, tsh_90, tsh_93, tsh_96, tsh_99, tsh_102, tyk_6, tcq_6, tsh_79, tyk_10, tcq_10, tyk_3, tcq_3, tsh_105, tsh_106, tsh_107, tsh_108, hx]
      have f3 : CF b M M3 := CF_tr (CF_BG q4) (CF_d q7 (by decide))
      have e3 := (q7.2.2 86 2 (by decide)).trans q2
      have v3 : BB M3 x v := BB_u v1 (fun i => q7.2.2 _ _ (by omega))
      refine tc_i (D := 0) (fun d' hd' => y_isNegative h1 v3 rV) (by omega) ?_
      rintro w M4 ⟨q8, rfl⟩
      try simp only [kb_X3_arc_24, w_ald_0, w_gf_5_11, tw_f, w_ald_1, w_iv1, tfr_0, tfr_1, tfr_2, tfr_3, tfr_4, w_iv0, w_if_eq, w_nil, true_and, and_true, Nat.reduceAdd, Nat.reduceSub, eq_self, tsh_86, tyk_5, tcq_5, tsh_87, tsh_90, tsh_93, tsh_96, tsh_99, tsh_102, tyk_6, tcq_6, tsh_79, tyk_10, tcq_10, tyk_3, tcq_3, tsh_105, tsh_106, tsh_107, tsh_108, hx]
      repeat refine And.intro (by omega) ?_
      refine ⟨fun g2 => ?_, fun g2 => ?_⟩
      · exact n46 M4 _ _ _ hv0 (by rw [if_neg (by omega)]; exact q6) e3 f3
      · refine tc_n (D := 0) (fun d' hd' => y_turn (b := b) cl_107 q6 rV (Or.inl hb) q7.1) (by omega) ?_
        rintro M5 ⟨q9, q10⟩
        try simp only [kb_X3_arc_24, w_ald_0, w_gf_5_11, tw_f, w_ald_1, w_iv1, tfr_0, tfr_1, tfr_2, tfr_3, tfr_4, w_iv0, w_if_eq, w_nil, true_and, and_true, Nat.reduceAdd, Nat.reduceSub, eq_self, tsh_86, tyk_5, tcq_5, tsh_87, tsh_90, tsh_93, tsh_96, tsh_99, tsh_102, tyk_6, tcq_6, tsh_79, tyk_10, tcq_10, tyk_3, tcq_3, tsh_105, tsh_106, tsh_107, tsh_108, hx]
        exact n46 M5 _ _ _ hv0 (by rw [if_pos (by omega)]; exact q9) ((q10.2.2 86 2 (by decide)).trans e3) (CF_tr f3 (CF_d q10 (by decide)))
    · have hv0 : v = 0 := by omega
      rw [hz, if_pos hv0] at q2
      exact ⟨rfl, rfl, Or.inl ⟨hv0, q3⟩, by rw [q1, if_neg (by omega)], by rw [q2, if_pos hv0], CF_BG q4⟩
  refine tb_X3_arc_0 (c := false) ?_
  simp only [kb_X3_arc_0, w_ald_0, w_ald_1, w_iv0, tfr_0, tfr_1, tfr_2, tfr_3, tfr_4, w_if_ne, w_ic, w_goto, true_and, and_true, Nat.reduceAdd, Nat.reduceSub, eq_self, tsh_86, tyk_5, tcq_5, tsh_87, tsh_90, tsh_93, tsh_96, tsh_99, tsh_102, tyk_6, tcq_6, tsh_79, tyk_10, tcq_10, tyk_3, tcq_3, tsh_105, tsh_106, tsh_107, tsh_108, hx]
  refine tc_i (D := 0) (fun d' hd' => y_isZero h1 hv rV) (by omega) ?_
  rintro w M2 ⟨q5, rfl⟩
  try simp only [kb_X3_arc_0, w_ald_0, w_ald_1, w_iv0, tfr_0, tfr_1, tfr_2, tfr_3, tfr_4, w_if_ne, w_ic, w_goto, true_and, and_true, Nat.reduceAdd, Nat.reduceSub, eq_self, tsh_86, tyk_5, tcq_5, tsh_87, tsh_90, tsh_93, tsh_96, tsh_99, tsh_102, tyk_6, tcq_6, tsh_79, tyk_10, tcq_10, tyk_3, tcq_3, tsh_105, tsh_106, tsh_107, tsh_108, hx]
  repeat refine And.intro (by omega) ?_
  refine ⟨fun g => ?_, fun g => ?_⟩
  · refine tb_X3_arc_12 (c := false) ?_
    simp only [kb_X3_arc_12, w_ic, w_nil, true_and, and_true, Nat.reduceAdd, Nat.reduceSub, eq_self]
    exact n13 0 _ _ _ (by rw [if_pos (by omega)])
  · exact n13 1 _ _ _ (by rw [if_neg (by omega)])
end HAND
