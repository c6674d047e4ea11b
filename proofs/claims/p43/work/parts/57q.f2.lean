/-! THE CLASS BY VALUES: sums of odd powers. -/
theorem tsh_105 : tsh 105 = 3 := by rw [tsh_def]; decide +kernel
theorem tsh_106 : tsh 106 = 3 := by rw [tsh_def]; decide +kernel
theorem tsh_107 : tsh 107 = 3 := by rw [tsh_def]; decide +kernel
theorem tsh_108 : tsh 108 = 3 := by rw [tsh_def]; decide +kernel
theorem cl_105 : cl 105 3 := ⟨tsh_105, by decide⟩
theorem cl_106 : cl 106 3 := ⟨tsh_106, by decide⟩
theorem cl_107 : cl 107 3 := ⟨tsh_107, by decide⟩
theorem cl_108 : cl 108 3 := ⟨tsh_108, by decide⟩
/-- a quotient below 1, by 54 digits -/
def qz (A B : Int) : Int := A * 1000000000000000000000000000000000000000000000000000000 / B
theorem qz_r {A B : Int} (hA : 0 ≤ A ∧ 16 * A ≤ B) (hB : 0 < B) : 0 ≤ qz A B ∧ qz A B ≤ 62500000000000000000000000000000000000000000000000000 := by
  unfold qz
  refine ⟨Int.ediv_nonneg (by omega) (by omega), ?_⟩
  have h : A * 1000000000000000000000000000000000000000000000000000000 / B ≤ (B * 62500000000000000000000000000000000000000000000000000) / B := Int.ediv_le_ediv hB (by omega)
  rw [Int.mul_ediv_cancel_left _ (by omega)] at h
  exact h
/-- the cells of the powers, and the reckoner's division -/
def DF (b : Nat) (M M' : tM) : Prop := (CI M' ∧ pE b M M') ∧ ∀ (k : Nat) (i : Int), (k < 87 ∨ 98 < k) → ¬ (k = 79 ∧ (i = 9 ∨ i = 10 ∨ i = 11 ∨ i = 12)) → M' k i = M k i
theorem DF_tr {b : Nat} {M M1 M2 : tM} (h1 : DF b M M1) (h2 : DF b M1 M2) : DF b M M2 := ⟨⟨h2.1.1, pE_tr h1.1.2 h2.1.2⟩, fun k i g g2 => (h2.2 k i g g2).trans (h1.2 k i g g2)⟩
theorem DF_g {b r : Nat} {M M1 : tM} (hr : r = 87 ∨ r = 90 ∨ r = 93 ∨ r = 96) (h : GE b M M1 r) : DF b M M1 := ⟨h.1, fun k i g _ => h.2 k i (by omega) (by omega)⟩
theorem DF_l {b : Nat} {M M1 : tM} (h : SLE b M M1) : DF b M M1 := ⟨h.1, fun k i _ g => h.2 k i g⟩
theorem DF_C {b : Nat} {M M1 : tM} (h : DF b M M1) : CF b M M1 := ⟨h.1, fun k i g g2 => h.2 k i (by omega) g2⟩
section HAND
variable {e : tE} {b d n : Nat} {M : tM}
theorem f_sumOdd {A B z : Int} {alt : Bool} (hz : (z = 1 ∧ alt = true) ∨ (z = 0 ∧ alt = false)) (hA : BB M 105 A) (hB : BB M 106 B) (rA : 0 ≤ A ∧ 16 * A ≤ B) (rB : 0 < B ∧ B < 1000000000000000000000000) (hb : b < 2) (hC : CI M) (hd : 2 ≤ d) : tC e d 1288 [.inr (.inr (.inl 86)), .inl z] M n (tQn n (fun M' => LX M' 96 (csr alt (qz A B)) ∧ DF b M M')) := by
  have rq := qz_r rA rB.1
  refine tst_X3_sumOddPowers ?_
  generalize hQ : qz A B = q at *
  -- the powers
  have n89 : ∀ (fu : Nat) (M1 : tM) (k : Nat), 249 - k = fu → k ≤ 249 → LX M1 87 (pwn q k) → LX M1 90 (tpv q q) → LX M1 96 (srn alt q k) → DF b M M1 → tT e d 1288 89 [some (.inr (.inr (.inl (86)))), some (.inl (z)), some (.inl (2 * (k : Int) + 3))] [] M1 n (tQn n (fun M' => LX M' 96 (csr alt q) ∧ DF b M M')) := by
    intro fu
    induction fu with
    | zero =>
      intro M1 k hf hk a1 a2 a3 a4
      have hke : k = 249 := by omega
      subst hke
      refine tb_X3_sumOddPowers_89 (c := false) ?_
      simp only [kb_X3_sumOddPowers_89, w_ild_2, w_si, w_ic_ge, w_ald_0, w_gf_5_3, tw_f, w_gf_5_4, w_iv2, tfr_0, tfr_1, tfr_2, tfr_3, tfr_4, w_iv0, w_if_eq, w_goto, true_and, and_true, Nat.reduceAdd, Nat.reduceSub, eq_self, tsh_86, tyk_5, tcq_5, tsh_87, tsh_90, tsh_93, tsh_96, tsh_99, tsh_102, tyk_6, tcq_6, tsh_79, tyk_10, tcq_10, tyk_3, tcq_3, tsh_105, tsh_106]
      repeat refine And.intro (by omega) ?_
      refine ⟨fun _ => ?_, fun q => absurd (by omega) q⟩
      refine tb_X3_sumOddPowers_185 (c := false) ?_
      simp only [kb_X3_sumOddPowers_185, w_re, true_and, and_true, Nat.reduceAdd, Nat.reduceSub, eq_self]
      rw [← csr_def] at a3
      exact ⟨rfl, rfl, a3, a4⟩
    | succ fu ih =>
      intro M1 k hf hk a1 a2 a3 a4
      have rt := pwn_r rq k
      have rt1 := pwn_r rq (k + 1)
      have rs := zz_r rq
      have rm := srn_r (alt := alt) rq k
      have rm1 := srn_r (alt := alt) rq (k + 1)
      have p1 : pwn q k * tpv q q ≤ 62500000000000000000000000000000000000000000000000000 * 3906250000000000000000000000000000000000000000000000 := Int.mul_le_mul rt.2 rs.2 rs.1 (by decide)
      have d0 : 0 ≤ pwn q (k + 1) / ((2 * k + 3 : Nat) : Int) := Int.ediv_nonneg rt1.1 (by omega)
      have d1 : pwn q (k + 1) / ((2 * k + 3 : Nat) : Int) ≤ pwn q (k + 1) := Int.ediv_le_self _ rt1.1
      have ek : ((2 * k + 3 : Nat) : Int) = 2 * (k : Int) + 3 := by omega
      refine tb_X3_sumOddPowers_89 (c := false) ?_
      simp only [kb_X3_sumOddPowers_89, w_ild_2, w_si, w_ic_ge, w_ald_0, w_gf_5_3, tw_f, w_gf_5_4, w_iv2, tfr_0, tfr_1, tfr_2, tfr_3, tfr_4, w_iv0, w_if_eq, w_goto, true_and, and_true, Nat.reduceAdd, Nat.reduceSub, eq_self, tsh_86, tyk_5, tcq_5, tsh_87, tsh_90, tsh_93, tsh_96, tsh_99, tsh_102, tyk_6, tcq_6, tsh_79, tyk_10, tcq_10, tyk_3, tcq_3, tsh_105, tsh_106]
      repeat refine And.intro (by omega) ?_
      first | refine ⟨fun q => absurd q (by omega), fun _ => ?_⟩ | refine fun _ => ?_
      refine tc_n (D := 0) (fun d' hd' => f_toProduct (b := b) fx_87 fx_87 fx_90 a1 a2 (by omega) hb a4.1.1) (by omega) ?_
      rintro M2 ⟨q1, q2⟩
      try simp only [kb_X3_sumOddPowers_89, w_ild_2, w_si, w_ic_ge, w_ald_0, w_gf_5_3, tw_f, w_gf_5_4, w_iv2, tfr_0, tfr_1, tfr_2, tfr_3, tfr_4, w_iv0, w_if_eq, w_goto, true_and, and_true, Nat.reduceAdd, Nat.reduceSub, eq_self, tsh_86, tyk_5, tcq_5, tsh_87, tsh_90, tsh_93, tsh_96, tsh_99, tsh_102, tyk_6, tcq_6, tsh_79, tyk_10, tcq_10, tyk_3, tcq_3, tsh_105, tsh_106]
      rw [← pwn_s] at q1
      refine tc_i (D := 0) (fun d' hd' => f_isZero fx_87 q1) (by omega) ?_
      rintro w M3 ⟨q3, rfl⟩
      try simp only [kb_X3_sumOddPowers_89, w_ild_2, w_si, w_ic_ge, w_ald_0, w_gf_5_3, tw_f, w_gf_5_4, w_iv2, tfr_0, tfr_1, tfr_2, tfr_3, tfr_4, w_iv0, w_if_eq, w_goto, true_and, and_true, Nat.reduceAdd, Nat.reduceSub, eq_self, tsh_86, tyk_5, tcq_5, tsh_87, tsh_90, tsh_93, tsh_96, tsh_99, tsh_102, tyk_6, tcq_6, tsh_79, tyk_10, tcq_10, tyk_3, tcq_3, tsh_105, tsh_106]
      have b2 : LX M3 90 (tpv q q) := LX_u a2 (fun i => q2.2 _ _ (by decide) (by decide))
      have b3 : LX M3 96 (srn alt q k) := LX_u a3 (fun i => q2.2 _ _ (by decide) (by decide))
      have b4 := DF_tr a4 (DF_g (r := 87) (by decide) q2)
      repeat refine And.intro (by omega) ?_
      refine ⟨fun g => ?_, fun g => ?_⟩
      · refine tb_X3_sumOddPowers_124 (c := false) ?_
        simp only [kb_X3_sumOddPowers_124, w_ald_0, w_gf_5_5, tw_f, w_gf_5_3, w_iv1, tfr_0, tfr_1, tfr_2, tfr_3, tfr_4, w_ild_2, w_ild_1, w_if_eq, w_ic, w_irem, w_ic_ne, w_gf_5_6, w_goto, true_and, and_true, Nat.reduceAdd, Nat.reduceSub, eq_self, tsh_86, tyk_5, tcq_5, tsh_87, tsh_90, tsh_93, tsh_96, tsh_99, tsh_102, tyk_6, tcq_6, tsh_79, tyk_10, tcq_10, tyk_3, tcq_3, tsh_105, tsh_106]
        refine tc_n (D := 0) (fun d' hd' => f_copy (b := b) fx_93 fx_87 (by decide) q1 hb b4.1.1) (by omega) ?_
        rintro M4 ⟨q4, q5⟩
        try simp only [kb_X3_sumOddPowers_124, w_ald_0, w_gf_5_5, tw_f, w_gf_5_3, w_iv1, tfr_0, tfr_1, tfr_2, tfr_3, tfr_4, w_ild_2, w_ild_1, w_if_eq, w_ic, w_irem, w_ic_ne, w_gf_5_6, w_goto, true_and, and_true, Nat.reduceAdd, Nat.reduceSub, eq_self, tsh_86, tyk_5, tcq_5, tsh_87, tsh_90, tsh_93, tsh_96, tsh_99, tsh_102, tyk_6, tcq_6, tsh_79, tyk_10, tcq_10, tyk_3, tcq_3, tsh_105, tsh_106]
        refine tc_n (D := 0) (fun d' hd' => f_over (b := b) (D := 2 * (k : Int) + 3) fx_93 q4 (by omega) hb q5.1.1) (by omega) ?_
        rintro M5 ⟨q6, q7⟩
        try simp only [kb_X3_sumOddPowers_124, w_ald_0, w_gf_5_5, tw_f, w_gf_5_3, w_iv1, tfr_0, tfr_1, tfr_2, tfr_3, tfr_4, w_ild_2, w_ild_1, w_if_eq, w_ic, w_irem, w_ic_ne, w_gf_5_6, w_goto, true_and, and_true, Nat.reduceAdd, Nat.reduceSub, eq_self, tsh_86, tyk_5, tcq_5, tsh_87, tsh_90, tsh_93, tsh_96, tsh_99, tsh_102, tyk_6, tcq_6, tsh_79, tyk_10, tcq_10, tyk_3, tcq_3, tsh_105, tsh_106]
        have g5 := GE_tr q5 q7
        have c1 : LX M5 87 (pwn q (k + 1)) := LX_u q1 (fun i => g5.2 _ _ (by decide) (by decide))
        have c2 : LX M5 90 (tpv q q) := LX_u b2 (fun i => g5.2 _ _ (by decide) (by decide))
        have c3 : LX M5 96 (srn alt q k) := LX_u b3 (fun i => g5.2 _ _ (by decide) (by decide))
        have c4 := DF_tr b4 (DF_g (r := 93) (by decide) g5)
        rw [← ek] at q6
        have n179 : ∀ M6 : tM, LX M6 96 (srn alt q (k + 1)) → GE b M5 M6 96 → tT e d 1288 179 [some (.inr (.inr (.inl (86)))), some (.inl (z)), some (.inl (2 * (k : Int) + 3))] [] M6 n (tQn n (fun M' => LX M' 96 (csr alt q) ∧ DF b M M')) := by
          intro M6 e1 e2
          refine tb_X3_sumOddPowers_179 (c := false) ?_
          simp only [kb_X3_sumOddPowers_179, w_inc2, tkl_n, tkl_i, tkl_l, tkl_r, w_goto, true_and, and_true, Nat.reduceAdd, Nat.reduceSub, eq_self]
          repeat refine And.intro (by omega) ?_
          rw [show 2 * ((k : Nat) : Int) + 3 + 2 = 2 * ((k + 1 : Nat) : Int) + 3 by omega]
          exact ih M6 (k + 1) (by omega) (by omega) (LX_u c1 (fun i => e2.2 _ _ (by decide) (by decide))) (LX_u c2 (fun i => e2.2 _ _ (by decide) (by decide))) e1 (DF_tr c4 (DF_g (r := 96) (by decide) e2))
        have n168 : ¬ (alt = true ∧ k % 2 = 0) → tT e d 1288 168 [some (.inr (.inr (.inl (86)))), some (.inl (z)), some (.inl (2 * (k : Int) + 3))] [] M5 n (tQn n (fun M' => LX M' 96 (csr alt q) ∧ DF b M M')) := by
          intro hn
          refine tb_X3_sumOddPowers_168 (c := false) ?_
          simp only [kb_X3_sumOddPowers_168, w_ald_0, w_gf_5_6, tw_f, w_gf_5_5, w_iv1, tfr_0, tfr_1, tfr_2, tfr_3, tfr_4, w_nil, true_and, and_true, Nat.reduceAdd, Nat.reduceSub, eq_self, tsh_86, tyk_5, tcq_5, tsh_87, tsh_90, tsh_93, tsh_96, tsh_99, tsh_102, tyk_6, tcq_6, tsh_79, tyk_10, tcq_10, tyk_3, tcq_3, tsh_105, tsh_106]
          refine tc_n (D := 0) (fun d' hd' => f_plus (b := b) fx_96 fx_93 c3 q6 (by omega) hb c4.1.1) (by omega) ?_
          rintro M6 ⟨e1, e2⟩
          try simp only [kb_X3_sumOddPowers_168, w_ald_0, w_gf_5_6, tw_f, w_gf_5_5, w_iv1, tfr_0, tfr_1, tfr_2, tfr_3, tfr_4, w_nil, true_and, and_true, Nat.reduceAdd, Nat.reduceSub, eq_self, tsh_86, tyk_5, tcq_5, tsh_87, tsh_90, tsh_93, tsh_96, tsh_99, tsh_102, tyk_6, tcq_6, tsh_79, tyk_10, tcq_10, tyk_3, tcq_3, tsh_105, tsh_106]
          refine n179 M6 ?_ e2
          rw [srn_s, if_neg hn]
          exact e1
        have td := td_e (y := 2 * (k : Int) + 3) (q := 4) (by omega)
        repeat refine And.intro (by omega) ?_
        refine ⟨fun g2 => n168 ?_, fun g2 => ?_⟩
        · rintro ⟨q8, _⟩
          rcases hz with ⟨h1, _⟩ | ⟨_, h1⟩
          · omega
          · rw [h1] at q8
            cases q8
        rw [td.2]
        repeat refine And.intro (by omega) ?_
        refine ⟨fun g3 => n168 (by omega), fun g3 => ?_⟩
        have ha : alt = true := by
          rcases hz with ⟨_, h1⟩ | ⟨h1, _⟩
          · exact h1
          · omega
        have es : srn alt q (k + 1) = srn alt q k - pwn q (k + 1) / ((2 * k + 3 : Nat) : Int) := by rw [srn_s, if_pos ⟨ha, by omega⟩]
        refine tc_n (D := 0) (fun d' hd' => f_minus (b := b) fx_96 fx_93 c3 q6 (by rw [es] at rm1; omega) hb c4.1.1) (by omega) ?_
        rintro M6 ⟨e1, e2⟩
        try simp only [kb_X3_sumOddPowers_124, w_ald_0, w_gf_5_5, tw_f, w_gf_5_3, w_iv1, tfr_0, tfr_1, tfr_2, tfr_3, tfr_4, w_ild_2, w_ild_1, w_if_eq, w_ic, w_irem, w_ic_ne, w_gf_5_6, w_goto, true_and, and_true, Nat.reduceAdd, Nat.reduceSub, eq_self, tsh_86, tyk_5, tcq_5, tsh_87, tsh_90, tsh_93, tsh_96, tsh_99, tsh_102, tyk_6, tcq_6, tsh_79, tyk_10, tcq_10, tyk_3, tcq_3, tsh_105, tsh_106]
        rw [← es] at e1
        exact n179 M6 e1 e2
      · refine tb_X3_sumOddPowers_185 (c := false) ?_
        simp only [kb_X3_sumOddPowers_185, w_re, true_and, and_true, Nat.reduceAdd, Nat.reduceSub, eq_self]
        have h0 : pwn q (k + 1) = 0 := by omega
        have e1 := srn_z (alt := alt) h0 (249 - k)
        rw [show k + (249 - k) = 249 by omega, ← csr_def] at e1
        rw [e1]
        exact ⟨rfl, rfl, b3, b4⟩
  -- the quotient's limbs, from the first
  have n34 : ∀ (I : Nat) (M1 : tM) (V A' : Int), I ≤ 6 → LX M1 87 (V * 1000000000 ^ I) → (∀ j : Nat, j < I → M1 (87 + 1) (j : Int) = 0) → LF M1 A' → LY M1 B → (0 ≤ A' ∧ A' < B * 10) → A * 10 * 1000000000 ^ (6 - I) = V * (B * 10) + A' → DF b M M1 → tT e d 1288 34 [some (.inr (.inr (.inl (86)))), some (.inl (z)), some (.inl ((I : Int) + -1))] [] M1 n (tQn n (fun M' => LX M' 96 (csr alt q) ∧ DF b M M')) := by
    intro I
    induction I with
    | zero =>
      intro M1 V A' hI a1 a2 a3 a4 a5 a6 a7
      have eV : V = q := by
        rw [← hQ]
        unfold qz
        have h1 := (dm_v (N := A * 10 * 1000000000 ^ (6 - 0)) (K := B * 10) (q := V) (r := A') (by omega) a5).1
        rw [← h1, show A * 10 * 1000000000 ^ (6 - 0) = A * 1000000000000000000000000000000000000000000000000000000 * 10 by rw [show (1000000000 : Int) ^ (6 - 0) = 1000000000000000000000000000000000000000000000000000000 from rfl]; omega, Int.mul_ediv_mul_of_pos_left _ _ (by decide)]
      rw [eV, show (1000000000 : Int) ^ 0 = 1 from rfl, Int.mul_one] at a1
      have p1 : q * q ≤ 62500000000000000000000000000000000000000000000000000 * 62500000000000000000000000000000000000000000000000000 := Int.mul_le_mul rq.2 rq.2 rq.1 (by decide)
      refine tb_X3_sumOddPowers_34 (c := false) ?_
      simp only [kb_X3_sumOddPowers_34, w_ild_2, w_if_lt, w_ald_0, w_gf_5_3, tw_f, w_gf_5_0, w_bi, w_iv1, tfr_0, tfr_1, tfr_2, tfr_3, tfr_4, w_iv2, w_inc2, tkl_n, tkl_i, tkl_l, tkl_r, w_goto, true_and, and_true, Nat.reduceAdd, Nat.reduceSub, eq_self, tsh_86, tyk_5, tcq_5, tsh_87, tsh_90, tsh_93, tsh_96, tsh_99, tsh_102, tyk_6, tcq_6, tsh_79, tyk_10, tcq_10, tyk_3, tcq_3, tsh_105, tsh_106]
      repeat refine And.intro (by omega) ?_
      refine ⟨fun _ => ?_, fun q => absurd (by omega) q⟩
      refine tb_X3_sumOddPowers_61 (c := false) ?_
      simp only [kb_X3_sumOddPowers_61, w_ald_0, w_gf_5_4, tw_f, w_gf_5_3, w_iv2, tfr_0, tfr_1, tfr_2, tfr_3, tfr_4, w_gf_5_6, w_iv1, w_ic, w_ist_2, tkl_n, tkl_i, tkl_l, tkl_r, w_nil, true_and, and_true, Nat.reduceAdd, Nat.reduceSub, eq_self, tsh_86, tyk_5, tcq_5, tsh_87, tsh_90, tsh_93, tsh_96, tsh_99, tsh_102, tyk_6, tcq_6, tsh_79, tyk_10, tcq_10, tyk_3, tcq_3, tsh_105, tsh_106]
      refine tc_n (D := 0) (fun d' hd' => f_toProduct (b := b) fx_90 fx_87 fx_87 a1 a1 (by omega) hb a7.1.1) (by omega) ?_
      rintro M2 ⟨q1, q2⟩
      try simp only [kb_X3_sumOddPowers_61, w_ald_0, w_gf_5_4, tw_f, w_gf_5_3, w_iv2, tfr_0, tfr_1, tfr_2, tfr_3, tfr_4, w_gf_5_6, w_iv1, w_ic, w_ist_2, tkl_n, tkl_i, tkl_l, tkl_r, w_nil, true_and, and_true, Nat.reduceAdd, Nat.reduceSub, eq_self, tsh_86, tyk_5, tcq_5, tsh_87, tsh_90, tsh_93, tsh_96, tsh_99, tsh_102, tyk_6, tcq_6, tsh_79, tyk_10, tcq_10, tyk_3, tcq_3, tsh_105, tsh_106]
      have b1 : LX M2 87 q := LX_u a1 (fun i => q2.2 _ _ (by decide) (by decide))
      refine tc_n (D := 0) (fun d' hd' => f_copy (b := b) fx_96 fx_87 (by decide) b1 hb q2.1.1) (by omega) ?_
      rintro M3 ⟨q3, q4⟩
      try simp only [kb_X3_sumOddPowers_61, w_ald_0, w_gf_5_4, tw_f, w_gf_5_3, w_iv2, tfr_0, tfr_1, tfr_2, tfr_3, tfr_4, w_gf_5_6, w_iv1, w_ic, w_ist_2, tkl_n, tkl_i, tkl_l, tkl_r, w_nil, true_and, and_true, Nat.reduceAdd, Nat.reduceSub, eq_self, tsh_86, tyk_5, tcq_5, tsh_87, tsh_90, tsh_93, tsh_96, tsh_99, tsh_102, tyk_6, tcq_6, tsh_79, tyk_10, tcq_10, tyk_3, tcq_3, tsh_105, tsh_106]
      exact n89 249 M3 0 rfl (by decide) (LX_u b1 (fun i => q4.2 _ _ (by decide) (by decide))) (LX_u q1 (fun i => q4.2 _ _ (by decide) (by decide))) q3 (DF_tr a7 (DF_tr (DF_g (r := 90) (by decide) q2) (DF_g (r := 96) (by decide) q4)))
    | succ I ih =>
      intro M1 V A' hI a1 a2 a3 a4 a5 a6 a7
      rw [show ((I + 1 : Nat) : Int) + -1 = (I : Int) by omega]
      refine tb_X3_sumOddPowers_34 (c := false) ?_
      simp only [kb_X3_sumOddPowers_34, w_ild_2, w_if_lt, w_ald_0, w_gf_5_3, tw_f, w_gf_5_0, w_bi, w_iv1, tfr_0, tfr_1, tfr_2, tfr_3, tfr_4, w_iv2, w_inc2, tkl_n, tkl_i, tkl_l, tkl_r, w_goto, true_and, and_true, Nat.reduceAdd, Nat.reduceSub, eq_self, tsh_86, tyk_5, tcq_5, tsh_87, tsh_90, tsh_93, tsh_96, tsh_99, tsh_102, tyk_6, tcq_6, tsh_79, tyk_10, tcq_10, tyk_3, tcq_3, tsh_105, tsh_106]
      repeat refine And.intro (by omega) ?_
      first | refine ⟨fun q => absurd q (by omega), fun _ => ?_⟩ | refine fun _ => ?_
      refine tc_l (D := 0) (fun d' hd' => y_nextDigits (b := b) (m := 9) (by decide) a3 a4 a5 rB hb a7.1.1) (by omega) ?_
      rintro w M2 ⟨A2, q1, q2, q3, q4, q5, q6⟩
      try simp only [kb_X3_sumOddPowers_34, w_ild_2, w_if_lt, w_ald_0, w_gf_5_3, tw_f, w_gf_5_0, w_bi, w_iv1, tfr_0, tfr_1, tfr_2, tfr_3, tfr_4, w_iv2, w_inc2, tkl_n, tkl_i, tkl_l, tkl_r, w_goto, true_and, and_true, Nat.reduceAdd, Nat.reduceSub, eq_self, tsh_86, tyk_5, tcq_5, tsh_87, tsh_90, tsh_93, tsh_96, tsh_99, tsh_102, tyk_6, tcq_6, tsh_79, tyk_10, tcq_10, tyk_3, tcq_3, tsh_105, tsh_106]
      rw [TT_9] at q4 q5
      have b1 : LX M2 87 (V * 1000000000 ^ (I + 1)) := LX_u a1 (fun i => q6.2 _ _ (by omega))
      refine tc_n (D := 0) (fun d' hd' => f_setLimb (b := b) (I := I) (v := w) fx_87 (by omega) q5 b1 hb q6.1.1) (by omega) ?_
      rintro M3 ⟨q7, q8, q9⟩
      try simp only [kb_X3_sumOddPowers_34, w_ild_2, w_if_lt, w_ald_0, w_gf_5_3, tw_f, w_gf_5_0, w_bi, w_iv1, tfr_0, tfr_1, tfr_2, tfr_3, tfr_4, w_iv2, w_inc2, tkl_n, tkl_i, tkl_l, tkl_r, w_goto, true_and, and_true, Nat.reduceAdd, Nat.reduceSub, eq_self, tsh_86, tyk_5, tcq_5, tsh_87, tsh_90, tsh_93, tsh_96, tsh_99, tsh_102, tyk_6, tcq_6, tsh_79, tyk_10, tcq_10, tyk_3, tcq_3, tsh_105, tsh_106]
      repeat refine And.intro (by omega) ?_
      have z0 : M2 (87 + 1) (I : Int) = 0 := (q6.2 _ _ (by omega)).trans (a2 I (by omega))
      rw [z0, Int.sub_zero, TT_lb] at q7
      have e7 : V * 1000000000 ^ (I + 1) + w * 1000000000 ^ I = (V * 1000000000 + w) * 1000000000 ^ I := by
        rw [Int.pow_succ, Int.add_mul, vm, Int.mul_right_comm]
      rw [e7] at q7
      refine ih M3 _ A2 (by omega) q7 (fun j hj => ?_) ?_ ?_ q3 ?_ (DF_tr a7 (DF_tr (DF_l q6) (DF_g (r := 87) (by decide) q9)))
      · rw [q8 _ (by omega), q6.2 _ _ (by omega)]
        exact a2 j (by omega)
      · exact ⟨(q9.2 79 9 (by decide) (by decide)).trans q1.1, (q9.2 79 10 (by decide) (by decide)).trans q1.2⟩
      · exact ⟨(q9.2 79 11 (by decide) (by decide)).trans q2.1, (q9.2 79 12 (by decide) (by decide)).trans q2.2⟩
      · rw [show 6 - I = (6 - (I + 1)) + 1 by omega, Int.pow_succ, ← Int.mul_assoc, a6, Int.add_mul, q4, Int.add_mul, Int.add_assoc]
        congr 1
        · rw [Int.mul_right_comm]
  have e9 := rB
  refine tb_X3_sumOddPowers_0 (c := false) ?_
  simp only [kb_X3_sumOddPowers_0, w_ald_0, w_gf_5_0, tw_f, w_gf_5_9, w_gf_5_10, w_iv2, tfr_0, tfr_1, tfr_2, tfr_3, tfr_4, w_popi, w_popr, w_ic, w_iv1, w_pop2, w_gf_5_3, w_iv0, w_ist_2, tkl_n, tkl_i, tkl_l, tkl_r, w_nil, true_and, and_true, Nat.reduceAdd, Nat.reduceSub, eq_self, tsh_86, tyk_5, tcq_5, tsh_87, tsh_90, tsh_93, tsh_96, tsh_99, tsh_102, tyk_6, tcq_6, tsh_79, tyk_10, tcq_10, tyk_3, tcq_3, tsh_105, tsh_106]
  refine tc_i (D := 0) (fun d' hd' => y_align (b := b) cl_105 cl_106 hA hB (by omega) rB hb hC) (by omega) ?_
  rintro w M1 ⟨k, q1, q2, q3, q4, q5, q6⟩
  try simp only [kb_X3_sumOddPowers_0, w_ald_0, w_gf_5_0, tw_f, w_gf_5_9, w_gf_5_10, w_iv2, tfr_0, tfr_1, tfr_2, tfr_3, tfr_4, w_popi, w_popr, w_ic, w_iv1, w_pop2, w_gf_5_3, w_iv0, w_ist_2, tkl_n, tkl_i, tkl_l, tkl_r, w_nil, true_and, and_true, Nat.reduceAdd, Nat.reduceSub, eq_self, tsh_86, tyk_5, tcq_5, tsh_87, tsh_90, tsh_93, tsh_96, tsh_99, tsh_102, tyk_6, tcq_6, tsh_79, tyk_10, tcq_10, tyk_3, tcq_3, tsh_105, tsh_106]
  have hk : k = 0 := by
    rcases q5 with q5 | q5
    · exact q5
    · have t1 : (1 : Int) ≤ TT k := by have := TT_pos k; omega
      have t2 : B * 1 ≤ B * TT k := Int.mul_le_mul_of_nonneg_left t1 (by omega)
      omega
  subst hk
  rw [TT_v.1, Int.mul_one] at q3
  refine tc_l (D := 0) (fun d' hd' => y_nextDigits (b := b) (m := 1) (by decide) q2 q3 (by omega) rB hb q6.1.1) (by omega) ?_
  rintro w2 M2 ⟨A2, r1, r2, r3, r4, r5, r6⟩
  try simp only [kb_X3_sumOddPowers_0, w_ald_0, w_gf_5_0, tw_f, w_gf_5_9, w_gf_5_10, w_iv2, tfr_0, tfr_1, tfr_2, tfr_3, tfr_4, w_popi, w_popr, w_ic, w_iv1, w_pop2, w_gf_5_3, w_iv0, w_ist_2, tkl_n, tkl_i, tkl_l, tkl_r, w_nil, true_and, and_true, Nat.reduceAdd, Nat.reduceSub, eq_self, tsh_86, tyk_5, tcq_5, tsh_87, tsh_90, tsh_93, tsh_96, tsh_99, tsh_102, tyk_6, tcq_6, tsh_79, tyk_10, tcq_10, tyk_3, tcq_3, tsh_105, tsh_106]
  rw [TT_1] at r4
  have hw2 : w2 = 0 := by
    rcases Int.lt_or_le 0 w2 with g | g
    · have t : 1 * (B * 10) ≤ w2 * (B * 10) := Int.mul_le_mul_of_nonneg_right (by omega) (by omega)
      omega
    · omega
  rw [hw2, Int.zero_mul] at r4
  refine tc_n (D := 0) (fun d' hd' => f_clear (b := b) fx_87 hb r6.1.1) (by omega) ?_
  rintro M3 ⟨s1, s2⟩
  try simp only [kb_X3_sumOddPowers_0, w_ald_0, w_gf_5_0, tw_f, w_gf_5_9, w_gf_5_10, w_iv2, tfr_0, tfr_1, tfr_2, tfr_3, tfr_4, w_popi, w_popr, w_ic, w_iv1, w_pop2, w_gf_5_3, w_iv0, w_ist_2, tkl_n, tkl_i, tkl_l, tkl_r, w_nil, true_and, and_true, Nat.reduceAdd, Nat.reduceSub, eq_self, tsh_86, tyk_5, tcq_5, tsh_87, tsh_90, tsh_93, tsh_96, tsh_99, tsh_102, tyk_6, tcq_6, tsh_79, tyk_10, tcq_10, tyk_3, tcq_3, tsh_105, tsh_106]
  repeat refine And.intro (by omega) ?_
  refine n34 6 M3 0 A2 (Nat.le_refl _) (by rw [Int.zero_mul]; exact s1) (fun j hj => by rw [S9_lb s1 (by omega)]; unfold lb; rw [Int.zero_ediv]; rfl) ⟨(s2.2 79 9 (by decide) (by decide)).trans r1.1, (s2.2 79 10 (by decide) (by decide)).trans r1.2⟩ ⟨(s2.2 79 11 (by decide) (by decide)).trans r2.1, (s2.2 79 12 (by decide) (by decide)).trans r2.2⟩ r3 ?_ (DF_tr (DF_l q6) (DF_tr (DF_l r6) (DF_g (r := 87) (by decide) s2)))
  rw [show 6 - 6 = 0 from rfl, show (1000000000 : Int) ^ 0 = 1 from rfl]
  omega
end HAND
