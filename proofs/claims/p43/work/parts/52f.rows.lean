/-! THE MODEL: rows of limbs: products. -/
theorem dg_low {p z k j : Nat} (h : j < k) : dg (p + pw k * z) j = dg p j := by
  obtain ⟨c, rfl⟩ : ∃ c, k = j + 1 + c := ⟨k - j - 1, by omega⟩
  simp only [dg_def]
  rw [pw_add, pw_s, Nat.mul_assoc, Nat.mul_assoc, Nat.add_mul_div_left _ _ (pw_pos j), Nat.add_mul_mod_self_left]
theorem dg_high (p k j : Nat) : dg p (k + j) = dg (p / pw k) j := by rw [dg_shr, Nat.add_comm]
section MODEL
variable {e : tE} {d n : Nat} {M : tM}
theorem c_times {a b : Int} {x y : Nat} (ha : 0 ≤ a ∧ a < 15) (hb : 0 ≤ b ∧ b < 15) (ha5 : a ≠ 5) (hb5 : b ≠ 5) (hx : Vr M a x) (hy : Vr M b y) (hs : x * y < pw 61) (hd : 2 ≤ d) : tC e d 3723 [.inr (.inr (.inl 664)), .inl a, .inl b] M n (tQn n (fun M' => Vr M' a (x * y) ∧ rE (fun r => r = a ∨ r = 5) M M')) := by
  obtain ⟨m, hD, hz⟩ := hx
  obtain ⟨m2, hD2, hz2⟩ := hy
  have h1 := hD.1
  have h2 := hD2.1
  have h3 := hD.2.1
  have h4 := hD2.2.1
  have h5 := hD.2.2.1
  have h6 := hD2.2.2.1
  have hmm : m + m2 ≤ 62 := by
    rcases Nat.eq_zero_or_pos m with q | q
    · omega
    rcases Nat.eq_zero_or_pos m2 with q2 | q2
    · omega
    have q3 : pw (m - 1) * pw (m2 - 1) ≤ x * y := Nat.mul_le_mul (pw_half hz (by omega)) (pw_half hz2 (by omega))
    rw [← pw_add] at q3
    have := pw_le_iff hs q3
    omega
  have fin : ∀ (M1 : tM) (v3 : Option tV) (v4 v5 v6 v7 v8 : Option tV), rE (fun r => r = 5) M M1 → (∀ i : Nat, i < m + m2 → M1 665 (320 + (i : Int)) = ((dg (x * y) i : Nat) : Int)) → tT e d 3723 143 [some (.inr (.inr (.inl 664))), some (.inl a), some (.inl b), v3, v4, v5, v6, v7, v8] [] M1 n (tQn n (fun M' => Vr M' a (x * y) ∧ rE (fun r => r = a ∨ r = 5) M M')) := by
    intro M1 v3 v4 v5 v6 v7 v8 hE hl
    have g1 : M1 666 a = (m : Int) := (hE.2.1 a ha5).trans h1
    have g2 : M1 666 b = (m2 : Int) := (hE.2.1 b hb5).trans h2
    have hT : Dr (tU M1 666 5 ((m : Int) + (m2 : Int))) 5 (m + m2) (x * y) := by
      refine ⟨by rw [tU_eq]; omega, hmm, ?_, fun i hi => ?_⟩
      · rw [pw_add]
        exact Nat.lt_of_le_of_lt (Nat.mul_le_mul (Nat.le_of_lt h5) (Nat.le_refl y)) (Nat.mul_lt_mul_of_pos_left h6 (pw_pos m))
      · rw [tU_nk (by decide)]
        exact hl i hi
    refine tb_X12_times_143 (c := false) ?_
    simp only [kb_X12_times_143, w_ald_0, w_gf_14_1, tw_f, w_ic, w_ild_1, w_ia, w_iax, w_ild_2, w_iadd, w_ias, ne_eq, eq_self, not_true_eq_false, false_implies, w_iv1, tfr_0, tfr_1, tfr_2, tfr_3, tfr_4, w_iv2, w_re, true_and, and_true, Nat.reduceAdd, Nat.reduceSub, eq_self, tshm_14, tshm_31, tshm_32, tykm_31, tykm_32, tykm_14, tci_14, tci_15, tci_960]
    rw [g1, g2]
    refine ⟨by omega, by omega, by omega, ?_⟩
    refine tc_n (D := 0) (fun d' _ => c_trims (row := 5) (by omega) hT) (by omega) ?_
    rintro M2 ⟨q1, q2⟩
    simp only [kb_X12_times_143, w_ald_0, w_gf_14_1, tw_f, w_ic, w_ild_1, w_ia, w_iax, w_ild_2, w_iadd, w_ias, ne_eq, eq_self, not_true_eq_false, false_implies, w_iv1, tfr_0, tfr_1, tfr_2, tfr_3, tfr_4, w_iv2, w_re, true_and, and_true, Nat.reduceAdd, Nat.reduceSub, eq_self, tshm_14, tshm_31, tshm_32, tykm_31, tykm_32, tykm_14, tci_14, tci_15, tci_960]
    refine tc_n (D := 1) (fun d' hd' => c_copies (a := 5) (by omega) ha (fun q => ha5 q.symm) q1 hd') (by omega) ?_
    rintro M3 ⟨q3, q4⟩
    simp only [kb_X12_times_143, w_ald_0, w_gf_14_1, tw_f, w_ic, w_ild_1, w_ia, w_iax, w_ild_2, w_iadd, w_ias, ne_eq, eq_self, not_true_eq_false, false_implies, w_iv1, tfr_0, tfr_1, tfr_2, tfr_3, tfr_4, w_iv2, w_re, true_and, and_true, Nat.reduceAdd, Nat.reduceSub, eq_self, tshm_14, tshm_31, tshm_32, tykm_31, tykm_32, tykm_14, tci_14, tci_15, tci_960]
    refine ⟨rfl, rfl, q3, ?_⟩
    exact rE_tr (rE_mono hE (fun r hr => Or.inr hr)) (rE_tr (rE_m (Or.inr rfl)) (rE_tr (rE_mono q2 (fun r hr => Or.inr hr)) (rE_mono q4 (fun r hr => Or.inl hr))))
  have outer : ∀ (j k : Nat) (M1 : tM) (v4 v5 v6 v7 v8 : Option tV), j + k = m → rE (fun r => r = 5) M M1 → (∀ i : Nat, i < m + m2 → M1 665 (320 + (i : Int)) = ((dg (x % pw k * y) i : Nat) : Int)) → tT e d 3723 41 [some (.inr (.inr (.inl 664))), some (.inl a), some (.inl b), some (.inl (k : Int)), v4, v5, v6, v7, v8] [] M1 n (tQn n (fun M' => Vr M' a (x * y) ∧ rE (fun r => r = a ∨ r = 5) M M')) := by
    intro j
    induction j with
    | zero =>
      intro k M1 v4 v5 v6 v7 v8 hk hE hl
      have g1 : M1 666 a = (m : Int) := (hE.2.1 a ha5).trans h1
      rw [show k = m by omega, Nat.mod_eq_of_lt h5] at hl
      refine tb_X12_times_41 (c := false) ?_
      simp only [kb_X12_times_41, w_ild_3, w_ald_0, w_gf_14_1, tw_f, w_ild_1, w_ia, w_iax, w_ic_ge, w_lc0, w_lst4, tkl_n, tkl_i, tkl_l, tkl_r, w_ic, w_ist6, w_nil, true_and, and_true, Nat.reduceAdd, Nat.reduceSub, eq_self, tshm_14, tshm_31, tshm_32, tykm_31, tykm_32, tykm_14, tci_14, tci_15, tci_960]
      refine ⟨by omega, by omega, fun _ => ?_, fun h => by omega⟩
      exact fin M1 _ v4 v5 v6 v7 v8 hE hl
    | succ j ih =>
      intro k M1 v4 v5 v6 v7 v8 hk hE hl
      have g1 : M1 666 a = (m : Int) := (hE.2.1 a ha5).trans h1
      have hdx := dg_lt x k
      generalize hA : x % pw k * y / pw k = A
      generalize hB : dg x k = B at hdx
      have hAl : A < pw m2 := by
        rw [← hA]
        refine Nat.div_lt_of_lt_mul ?_
        exact Nat.lt_of_le_of_lt (Nat.mul_le_mul_right y (Nat.le_of_lt (Nat.mod_lt x (pw_pos k)))) (Nat.mul_lt_mul_of_pos_left h6 (pw_pos k))
      have hS : A + B * y < pw (m2 + 1) := by
        rw [pw_s]
        have q1 : B * y ≤ 999999999 * y := Nat.mul_le_mul_right y (by omega)
        omega
      have hP : x % pw (k + 1) * y = x % pw k * y + pw k * (B * y) := by rw [mod_pw, Nat.add_mul, Nat.mul_assoc, hB]
      have hPd : x % pw (k + 1) * y / pw k = A + B * y := by
        rw [hP, Nat.add_mul_div_left _ _ (pw_pos k), hA]
      have hlo : ∀ i, i < k → dg (x % pw (k + 1) * y) i = dg (x % pw k * y) i := fun i hi => by rw [hP, dg_low hi]
      have hhi : ∀ i, dg (x % pw (k + 1) * y) (k + i) = dg (A + B * y) i := fun i => by rw [dg_high, hPd]
      have hhi0 : ∀ i, dg (x % pw k * y) (k + i) = dg A i := fun i => by rw [dg_high, hA]
      have hN : ∀ i, cy A B y i ≤ B := fun i => cy_le A B y i
      have hc1 : cy A B y (m2 + 1) = 0 := by
        rw [cy_end (m := 0) (Nat.lt_of_lt_of_le hAl (pw_mono (by omega))) (Nat.lt_of_lt_of_le h6 (pw_mono (by omega)))]
        exact Nat.div_eq_of_lt hS
      have inner : ∀ (t i : Nat) (M2 : tM) (v7 v8 : Option tV), t + i = m2 + 1 → rE (fun r => r = 5) M M2 → (∀ u : Nat, u < k → M2 665 (320 + (u : Int)) = ((dg (x % pw k * y) u : Nat) : Int)) → (∀ u : Nat, u < i → M2 665 (320 + ((k + u : Nat) : Int)) = ((dg (A + B * y) u : Nat) : Int)) → (∀ u : Nat, i ≤ u → k + u < m + m2 → M2 665 (320 + ((k + u : Nat) : Int)) = ((dg A u : Nat) : Int)) →
          tT e d 3723 57 [some (.inr (.inr (.inl 664))), some (.inl a), some (.inl b), some (.inl (k : Int)), some (.inr (.inl ((cy A B y i : Nat) : Int))), none, some (.inl (i : Int)), v7, v8] [] M2 n (tQn n (fun M' => Vr M' a (x * y) ∧ rE (fun r => r = a ∨ r = 5) M M')) := by
        have out : ∀ (i : Nat) (M2 : tM) (v7 v8 : Option tV), m2 ≤ i → cy A B y i = 0 → rE (fun r => r = 5) M M2 → (∀ u : Nat, u < k → M2 665 (320 + (u : Int)) = ((dg (x % pw k * y) u : Nat) : Int)) → (∀ u : Nat, u < i → M2 665 (320 + ((k + u : Nat) : Int)) = ((dg (A + B * y) u : Nat) : Int)) → (∀ u : Nat, i ≤ u → k + u < m + m2 → M2 665 (320 + ((k + u : Nat) : Int)) = ((dg A u : Nat) : Int)) →
            tT e d 3723 137 [some (.inr (.inr (.inl 664))), some (.inl a), some (.inl b), some (.inl (k : Int)), some (.inr (.inl ((cy A B y i : Nat) : Int))), none, some (.inl (i : Int)), v7, v8] [] M2 n (tQn n (fun M' => Vr M' a (x * y) ∧ rE (fun r => r = a ∨ r = 5) M M')) := by
          intro i M2 v7 v8 hi hc hE2 q1 q2 q3
          have q4 : A + B * y < pw i := by
            rw [cy_end (m := 0) (Nat.lt_of_lt_of_le hAl (pw_mono hi)) (Nat.lt_of_lt_of_le h6 (pw_mono hi))] at hc
            rcases Nat.lt_or_ge (A + B * y) (pw i) with q | q
            · exact q
            · have := Nat.div_pos q (pw_pos i)
              omega
          refine tb_X12_times_137 (c := false) ?_
          simp only [kb_X12_times_137, w_inc3, tkl_n, tkl_i, tkl_l, tkl_r, w_goto, true_and, and_true, Nat.reduceAdd, Nat.reduceSub, eq_self]
          refine ih (k + 1) M2 _ _ _ _ _ (by omega) hE2 (fun u hu => ?_)
          rcases Nat.lt_or_ge u k with q5 | q5
          · rw [q1 u q5, hlo u q5]
          · obtain ⟨w, rfl⟩ : ∃ w, u = k + w := ⟨u - k, by omega⟩
            rw [hhi]
            rcases Nat.lt_or_ge w i with q6 | q6
            · exact q2 w q6
            · rw [q3 w q6 hu, dg_ge q4 q6, dg_ge hAl (by omega)]
        intro t
        induction t with
        | zero =>
          intro i M2 v7 v8 hi hE2 q1 q2 q3
          have g2 : M2 666 b = (m2 : Int) := (hE2.2.1 b hb5).trans h2
          have g3 : cy A B y i = 0 := by rw [show i = m2 + 1 by omega]; exact hc1
          refine tb_X12_times_57 (c := false) ?_
          simp only [kb_X12_times_57, w_ild6, w_ald_0, w_gf_14_1, tw_f, w_ild_2, w_ia, w_iax, w_ic_lt, w_lld4, w_lc0, w_lcmp, ne_eq, tlc_r, tlc_eq, tlc_lt, tlc_ge, tlc_gt, tlc_le, w_if_le, w_nil, true_and, and_true, Nat.reduceAdd, Nat.reduceSub, eq_self, tshm_14, tshm_31, tshm_32, tykm_31, tykm_32, tykm_14, tci_14, tci_15, tci_960]
          refine ⟨by omega, by omega, fun h => by omega, fun _ => ⟨by omega, fun _ => ?_, fun h => by omega⟩⟩
          exact out i M2 v7 v8 (by omega) g3 hE2 q1 q2 q3
        | succ t ih2 =>
          intro i M2 v7 v8 hi hE2 q1 q2 q3
          have g2 : M2 666 b = (m2 : Int) := (hE2.2.1 b hb5).trans h2
          have g4 := hN i
          have g5 := dg_lt y i
          have g6 := dg_lt A i
          have g7 : B * dg y i ≤ 999999999 * 999999999 := Nat.mul_le_mul (by omega) (by omega)
          have ev : ((dg A i : Nat) : Int) + ((B : Nat) : Int) * ((dg y i : Nat) : Int) + ((cy A B y i : Nat) : Int) = ((dg A i + B * dg y i + cy A B y i : Nat) : Int) := by
            rw [Int.natCast_add, Int.natCast_add, Int.natCast_mul]
          have body : k + i < m + m2 → tT e d 3723 75 [some (.inr (.inr (.inl 664))), some (.inl a), some (.inl b), some (.inl (k : Int)), some (.inr (.inl ((cy A B y i : Nat) : Int))), none, some (.inl (i : Int)), v7, v8] [] M2 n (tQn n (fun M' => Vr M' a (x * y) ∧ rE (fun r => r = a ∨ r = 5) M M')) := by
            intro hki
            have e3 := q3 i (Nat.le_refl _) hki
            refine tb_X12_times_75 (c := false) ?_
            simp only [kb_X12_times_75, w_ald_0, w_gf_14_0, tw_f, w_si, w_ild_3, w_iadd, w_ild6, w_la, w_lax, w_ild_1, w_iv2, tfr_0, tfr_1, tfr_2, tfr_3, tfr_4, w_ild_2, w_lmul, w_ladd, w_lld4, w_lst7, tkl_n, tkl_i, tkl_l, tkl_r, w_lld7, w_ld2, w_ldiv, w_lst4, w_ic, w_lrem, w_iv3, w_inc6, w_goto, true_and, and_true, Nat.reduceAdd, Nat.reduceSub, eq_self, tshm_14, tshm_31, tshm_32, tykm_31, tykm_32, tykm_14, tci_14, tci_15, tci_960]
            rw [show 320 + (k : Int) + (i : Int) = 320 + ((k + i : Nat) : Int) by omega, e3]
            refine ⟨by omega, ?_⟩
            refine tc_l (D := 0) (fun d' _ => c_limb (k := k) ha (Dr_E hD hE2 ha5) (by omega)) (by omega) ?_
            rintro _ _ ⟨rfl, rfl⟩
            rw [hB]
            simp only [kb_X12_times_75, w_ald_0, w_gf_14_0, tw_f, w_si, w_ild_3, w_iadd, w_ild6, w_la, w_lax, w_ild_1, w_iv2, tfr_0, tfr_1, tfr_2, tfr_3, tfr_4, w_ild_2, w_lmul, w_ladd, w_lld4, w_lst7, tkl_n, tkl_i, tkl_l, tkl_r, w_lld7, w_ld2, w_ldiv, w_lst4, w_ic, w_lrem, w_iv3, w_inc6, w_goto, true_and, and_true, Nat.reduceAdd, Nat.reduceSub, eq_self, tshm_14, tshm_31, tshm_32, tykm_31, tykm_32, tykm_14, tci_14, tci_15, tci_960]
            refine tc_l (D := 0) (fun d' _ => c_limb (k := i) hb (Dr_E hD2 hE2 hb5) (by omega)) (by omega) ?_
            rintro _ _ ⟨rfl, rfl⟩
            simp only [kb_X12_times_75, w_ald_0, w_gf_14_0, tw_f, w_si, w_ild_3, w_iadd, w_ild6, w_la, w_lax, w_ild_1, w_iv2, tfr_0, tfr_1, tfr_2, tfr_3, tfr_4, w_ild_2, w_lmul, w_ladd, w_lld4, w_lst7, tkl_n, tkl_i, tkl_l, tkl_r, w_lld7, w_ld2, w_ldiv, w_lst4, w_ic, w_lrem, w_iv3, w_inc6, w_goto, true_and, and_true, Nat.reduceAdd, Nat.reduceSub, eq_self, tshm_14, tshm_31, tshm_32, tykm_31, tykm_32, tykm_14, tci_14, tci_15, tci_960]
            rw [ev, tdiv_N, fma_cy, tmod_N, fma_dg]
            refine ⟨by omega, by omega, ?_⟩
            refine tc_n (D := 0) (fun d' _ => c_lets (row := 5) (k := (k : Int) + (i : Int)) (by omega) (by omega)) (by omega) ?_
            rintro _ rfl
            simp only [kb_X12_times_75, w_ald_0, w_gf_14_0, tw_f, w_si, w_ild_3, w_iadd, w_ild6, w_la, w_lax, w_ild_1, w_iv2, tfr_0, tfr_1, tfr_2, tfr_3, tfr_4, w_ild_2, w_lmul, w_ladd, w_lld4, w_lst7, tkl_n, tkl_i, tkl_l, tkl_r, w_lld7, w_ld2, w_ldiv, w_lst4, w_ic, w_lrem, w_iv3, w_inc6, w_goto, true_and, and_true, Nat.reduceAdd, Nat.reduceSub, eq_self, tshm_14, tshm_31, tshm_32, tykm_31, tykm_32, tykm_14, tci_14, tci_15, tci_960]
            refine ih2 (i + 1) _ _ _ (by omega) (rE_tr hE2 (rE_l rfl (by omega))) (fun u hu => ?_) (fun u hu => ?_) (fun u hu1 hu2 => ?_)
            · rw [tU_ni (by omega)]
              exact q1 u hu
            · rw [tU_if]
              by_cases hik : u = i
              · rw [if_pos (by omega), hik]
              · rw [if_neg (by omega)]
                exact q2 u (by omega)
            · rw [tU_ni (by omega)]
              exact q3 u (by omega) hu2
          refine tb_X12_times_57 (c := false) ?_
          simp only [kb_X12_times_57, w_ild6, w_ald_0, w_gf_14_1, tw_f, w_ild_2, w_ia, w_iax, w_ic_lt, w_lld4, w_lc0, w_lcmp, ne_eq, tlc_r, tlc_eq, tlc_lt, tlc_ge, tlc_gt, tlc_le, w_if_le, w_nil, true_and, and_true, Nat.reduceAdd, Nat.reduceSub, eq_self, tshm_14, tshm_31, tshm_32, tykm_31, tykm_32, tykm_14, tci_14, tci_15, tci_960]
          refine ⟨by omega, by omega, fun h => body (by omega), fun h => ⟨by omega, fun h7 => ?_, fun h7 => body (by omega)⟩⟩
          exact out i M2 v7 v8 (by omega) (by omega) hE2 q1 q2 q3
      have i0 := inner (m2 + 1) 0 M1 v7 v8 (by omega) hE (fun u hu => hl u (by omega)) (fun u hu => absurd hu (Nat.not_lt_zero _)) (fun u _ hu => by rw [hl (k + u) hu, hhi0])
      rw [cy_0] at i0
      refine tb_X12_times_41 (c := false) ?_
      simp only [kb_X12_times_41, w_ild_3, w_ald_0, w_gf_14_1, tw_f, w_ild_1, w_ia, w_iax, w_ic_ge, w_lc0, w_lst4, tkl_n, tkl_i, tkl_l, tkl_r, w_ic, w_ist6, w_nil, true_and, and_true, Nat.reduceAdd, Nat.reduceSub, eq_self, tshm_14, tshm_31, tshm_32, tykm_31, tykm_32, tykm_14, tci_14, tci_15, tci_960]
      refine ⟨by omega, by omega, fun h => by omega, fun _ => ?_⟩
      exact i0
  have zero : ∀ (j k : Nat) (M1 : tM), j + k = m + m2 → rE (fun r => r = 5) M M1 → (∀ i : Nat, i < k → M1 665 (320 + (i : Int)) = 0) → tT e d 3723 9 [some (.inr (.inr (.inl 664))), some (.inl a), some (.inl b), some (.inl (k : Int)), none, none, none, none, none] [] M1 n (tQn n (fun M' => Vr M' a (x * y) ∧ rE (fun r => r = a ∨ r = 5) M M')) := by
    intro j
    induction j with
    | zero =>
      intro k M1 hk hE hl
      have g1 : M1 666 a = (m : Int) := (hE.2.1 a ha5).trans h1
      have g2 : M1 666 b = (m2 : Int) := (hE.2.1 b hb5).trans h2
      refine tb_X12_times_9 (c := false) ?_
      simp only [kb_X12_times_9, w_ild_3, w_ald_0, w_gf_14_1, tw_f, w_ild_1, w_ia, w_iax, w_ild_2, w_iadd, w_ic_ge, w_ic, w_lc0, w_iv3, tfr_0, tfr_1, tfr_2, tfr_3, tfr_4, w_inc3, tkl_n, tkl_i, tkl_l, tkl_r, w_goto, true_and, and_true, Nat.reduceAdd, Nat.reduceSub, eq_self, tshm_14, tshm_31, tshm_32, tykm_31, tykm_32, tykm_14, tci_14, tci_15, tci_960]
      refine ⟨by omega, by omega, by omega, fun _ => ?_, fun h => by omega⟩
      refine tb_X12_times_39 (c := false) ?_
      simp only [kb_X12_times_39, w_ic, w_ist_3, tkl_n, tkl_i, tkl_l, tkl_r, w_nil, true_and, and_true, Nat.reduceAdd, Nat.reduceSub, eq_self]
      refine outer m 0 M1 _ _ _ _ _ (by omega) hE (fun i hi => ?_)
      rw [hl i (by omega), pw_0, Nat.mod_one, Nat.zero_mul, dg_big (pw_pos i)]
      rfl
    | succ j ih =>
      intro k M1 hk hE hl
      have g1 : M1 666 a = (m : Int) := (hE.2.1 a ha5).trans h1
      have g2 : M1 666 b = (m2 : Int) := (hE.2.1 b hb5).trans h2
      refine tb_X12_times_9 (c := false) ?_
      simp only [kb_X12_times_9, w_ild_3, w_ald_0, w_gf_14_1, tw_f, w_ild_1, w_ia, w_iax, w_ild_2, w_iadd, w_ic_ge, w_ic, w_lc0, w_iv3, tfr_0, tfr_1, tfr_2, tfr_3, tfr_4, w_inc3, tkl_n, tkl_i, tkl_l, tkl_r, w_goto, true_and, and_true, Nat.reduceAdd, Nat.reduceSub, eq_self, tshm_14, tshm_31, tshm_32, tykm_31, tykm_32, tykm_14, tci_14, tci_15, tci_960]
      refine ⟨by omega, by omega, by omega, fun h => by omega, fun _ => ?_⟩
      refine tc_n (D := 0) (fun d' _ => c_lets (row := 5) (k := k) (by omega) (by omega)) (by omega) ?_
      rintro _ rfl
      simp only [kb_X12_times_9, w_ild_3, w_ald_0, w_gf_14_1, tw_f, w_ild_1, w_ia, w_iax, w_ild_2, w_iadd, w_ic_ge, w_ic, w_lc0, w_iv3, tfr_0, tfr_1, tfr_2, tfr_3, tfr_4, w_inc3, tkl_n, tkl_i, tkl_l, tkl_r, w_goto, true_and, and_true, Nat.reduceAdd, Nat.reduceSub, eq_self, tshm_14, tshm_31, tshm_32, tykm_31, tykm_32, tykm_14, tci_14, tci_15, tci_960]
      refine ih (k + 1) _ (by omega) (rE_tr hE (rE_l rfl (by omega))) (fun i hi => ?_)
      rw [tU_if]
      by_cases hik : i = k
      · rw [if_pos (by omega)]
      · rw [if_neg (by omega)]
        exact hl i (by omega)
  refine tst_X12_times ?_
  refine tb_X12_times_0 (c := false) ?_
  simp only [kb_X12_times_0, w_ald_0, w_gf_14_1, tw_f, w_ic, w_ias, ne_eq, eq_self, not_true_eq_false, false_implies, w_ist_3, tkl_n, tkl_i, tkl_l, tkl_r, w_nil, true_and, and_true, Nat.reduceAdd, Nat.reduceSub, eq_self, tshm_14, tshm_31, tshm_32, tykm_31, tykm_32, tykm_14, tci_14, tci_15, tci_960]
  exact ⟨by omega, zero (m + m2) 0 _ (by omega) (rE_m rfl) (fun i hi => absurd hi (Nat.not_lt_zero _))⟩
end MODEL
