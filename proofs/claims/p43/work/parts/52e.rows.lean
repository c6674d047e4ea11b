/-! THE MODEL: rows of limbs: shifts, tens, products. -/
section MODEL
variable {e : tE} {d n : Nat} {M : tM}
theorem c_ten {k : Nat} (hk : k ≤ 18) : tC e d 3721 [.inl (k : Int)] M n (tQl n (fun z M' => z = ((tn k : Nat) : Int) ∧ M = M')) := by
  have h18 : ∀ i, i ≤ 18 → tn i ≤ 1000000000000000000 := fun i hi => by have := tn_mono (b := 18) hi; rwa [tn_18] at this
  have loop : ∀ (j i : Nat), j + i = k → tT e d 3721 4 [some (.inl (k : Int)), some (.inr (.inl ((tn i : Nat) : Int))), none, some (.inl (i : Int))] [] M n (tQl n (fun z M' => z = ((tn k : Nat) : Int) ∧ M = M')) := by
    intro j
    induction j with
    | zero =>
      intro i hi
      refine tb_X12_ten_4 (c := false) ?_
      simp only [kb_X12_ten_4, w_ild_3, w_ild_0, w_ic_ge, w_lld_1, w_ld2, w_lmul, tw_f, w_lst_1, tkl_n, tkl_i, tkl_l, tkl_r, w_inc3, w_goto, true_and, and_true, Nat.reduceAdd, Nat.reduceSub, eq_self]
      refine ⟨by omega, fun _ => ?_, fun h => by omega⟩
      refine tb_X12_ten_21 (c := false) ?_
      simp only [kb_X12_ten_21, w_lld_1, w_lre, true_and, and_true, Nat.reduceAdd, Nat.reduceSub, eq_self]
      exact ⟨_, rfl, rfl, by rw [show i = k by omega], rfl⟩
    | succ j ih =>
      intro i hi
      have h1 := ih (i + 1) (by omega)
      rw [tn_s, Int.natCast_mul] at h1
      refine tb_X12_ten_4 (c := false) ?_
      simp only [kb_X12_ten_4, w_ild_3, w_ild_0, w_ic_ge, w_lld_1, w_ld2, w_lmul, tw_f, w_lst_1, tkl_n, tkl_i, tkl_l, tkl_r, w_inc3, w_goto, true_and, and_true, Nat.reduceAdd, Nat.reduceSub, eq_self]
      exact ⟨by omega, fun h => by omega, fun _ => h1⟩
  refine tst_X12_ten ?_
  have l0 := loop k 0 (by omega)
  rw [tn_0] at l0
  refine tb_X12_ten_0 (c := false) ?_
  simp only [kb_X12_ten_0, w_lc1, w_lst_1, tkl_n, tkl_i, tkl_l, tkl_r, w_ic, w_ist_3, w_nil, true_and, and_true, Nat.reduceAdd, Nat.reduceSub, eq_self]
  exact l0
theorem c_shl {a : Int} {x b : Nat} (ha : 0 ≤ a ∧ a < 15) (hx : Vr M a x) (hb : b ≤ 60) (hs : x * pw b < pw 62) (hd : 1 ≤ d) : tC e d 3703 [.inr (.inr (.inl 664)), .inl a, .inl (b : Int)] M n (tQn n (fun M' => Vr M' a (x * pw b) ∧ rE (fun r => r = a) M M')) := by
  obtain ⟨m, hD, hz⟩ := hx
  have h1 := hD.1
  have h3 := hD.2.1
  have h5 := hD.2.2.1
  refine tst_X12_shifts ?_
  refine tb_X12_shifts_0 (c := false) ?_
  simp only [kb_X12_shifts_0, w_ald_0, w_gf_14_1, tw_f, w_ild_1, w_ia, w_iax, w_if_ne, w_re, true_and, and_true, Nat.reduceAdd, Nat.reduceSub, eq_self, tshm_14, tshm_31, tshm_32, tykm_31, tykm_32, tykm_14, tci_14, tci_15, tci_960]
  refine ⟨by omega, by omega, fun h => ?_, fun h => ?_⟩
  rotate_left
  · have hm0 : m = 0 := by omega
    have hx0 : x = 0 := by
      rw [hm0, pw_0] at h5
      omega
    refine ⟨rfl, rfl, ⟨0, ⟨by omega, by omega, by rw [hx0, Nat.zero_mul]; exact pw_pos 0, fun i hi => absurd hi (Nat.not_lt_zero _)⟩, Or.inl rfl⟩, rE_refl⟩
  have hm0 : m ≠ 0 := by omega
  have hz1 := pw_half hz hm0
  have hmb : m + b ≤ 62 := by
    have q1 : pw (m - 1) * pw b ≤ x * pw b := Nat.mul_le_mul_right _ hz1
    rw [← pw_add] at q1
    have := pw_le_iff hs q1
    omega
  have l2 : ∀ (j k : Nat) (M1 : tM), j + k = b → rE (fun r => r = a) M M1 → M1 666 a = (m : Int) → (∀ i : Nat, i < m → M1 665 (64 * a + ((i + b : Nat) : Int)) = ((dg x i : Nat) : Int)) → (∀ i : Nat, i < k → M1 665 (64 * a + (i : Int)) = 0) → tT e d 3703 49 [some (.inr (.inr (.inl 664))), some (.inl a), some (.inl (b : Int)), some (.inl (k : Int))] [] M1 n (tQn n (fun M' => Vr M' a (x * pw b) ∧ rE (fun r => r = a) M M')) := by
    intro j
    induction j with
    | zero =>
      intro k M1 hk hE hm hl hu
      refine tb_X12_shifts_49 (c := false) ?_
      simp only [kb_X12_shifts_49, w_ild_3, w_ild_2, w_ic_ge, w_ald_0, w_ild_1, w_lc0, w_iv3, tfr_0, tfr_1, tfr_2, tfr_3, tfr_4, w_inc3, tkl_n, tkl_i, tkl_l, tkl_r, w_goto, true_and, and_true, Nat.reduceAdd, Nat.reduceSub, eq_self, tshm_14, tshm_31, tshm_32, tykm_31, tykm_32, tykm_14, tci_14, tci_15, tci_960]
      refine ⟨by omega, fun _ => ?_, fun h => by omega⟩
      refine tb_X12_shifts_67 (c := false) ?_
      simp only [kb_X12_shifts_67, w_ald_0, w_gf_14_1, tw_f, w_ild_1, w_dup2l, w_dup2a, w_ia, w_iax, w_ild_2, w_iadd, w_ias, ne_eq, eq_self, not_true_eq_false, false_implies, w_re, true_and, and_true, Nat.reduceAdd, Nat.reduceSub, eq_self, tshm_14, tshm_31, tshm_32, tykm_31, tykm_32, tykm_14, tci_14, tci_15, tci_960]
      rw [hm]
      refine ⟨by omega, by omega, rfl, rfl, ⟨m + b, ⟨by rw [tU_eq]; omega, hmb, ?_, fun i hi => ?_⟩, Or.inr ?_⟩, rE_tr hE (rE_m rfl)⟩
      · rw [pw_add]
        exact Nat.mul_lt_mul_of_pos_right h5 (pw_pos b)
      · rw [tU_nk (by decide), dg_shl]
        by_cases hib : i < b
        · rw [if_pos hib, hu i (by omega)]
          rfl
        · rw [if_neg hib]
          have := hl (i - b) (by omega)
          rw [show i - b + b = i by omega] at this
          exact this
      · rw [show m + b - 1 = (m - 1) + b by omega, pw_add]
        exact Nat.mul_le_mul_right _ hz1
    | succ j ih =>
      intro k M1 hk hE hm hl hu
      refine tb_X12_shifts_49 (c := false) ?_
      simp only [kb_X12_shifts_49, w_ild_3, w_ild_2, w_ic_ge, w_ald_0, w_ild_1, w_lc0, w_iv3, tfr_0, tfr_1, tfr_2, tfr_3, tfr_4, w_inc3, tkl_n, tkl_i, tkl_l, tkl_r, w_goto, true_and, and_true, Nat.reduceAdd, Nat.reduceSub, eq_self, tshm_14, tshm_31, tshm_32, tykm_31, tykm_32, tykm_14, tci_14, tci_15, tci_960]
      refine ⟨by omega, fun h => by omega, fun _ => ?_⟩
      refine tc_n (D := 0) (fun d' _ => c_lets (k := k) ha (by omega)) (by omega) ?_
      rintro _ rfl
      simp only [kb_X12_shifts_49, w_ild_3, w_ild_2, w_ic_ge, w_ald_0, w_ild_1, w_lc0, w_iv3, tfr_0, tfr_1, tfr_2, tfr_3, tfr_4, w_inc3, tkl_n, tkl_i, tkl_l, tkl_r, w_goto, true_and, and_true, Nat.reduceAdd, Nat.reduceSub, eq_self, tshm_14, tshm_31, tshm_32, tykm_31, tykm_32, tykm_14, tci_14, tci_15, tci_960]
      refine ih (k + 1) _ (by omega) (rE_tr hE (rE_l rfl (by omega))) (by rw [tU_nk (by decide)]; exact hm) (fun i hi => ?_) (fun i hi => ?_)
      · rw [tU_ni (by omega)]
        exact hl i hi
      · rw [tU_if]
        by_cases hik : i = k
        · rw [if_pos (by omega)]
        · rw [if_neg (by omega)]
          exact hu i (by omega)
  have l1 : ∀ (k : Nat) (M1 : tM), k ≤ m → rE (fun r => r = a) M M1 → M1 666 a = (m : Int) → (∀ i : Nat, k ≤ i → i < m → M1 665 (64 * a + ((i + b : Nat) : Int)) = ((dg x i : Nat) : Int)) → (∀ i : Nat, i < k → M1 665 (64 * a + (i : Int)) = ((dg x i : Nat) : Int)) → tT e d 3703 23 [some (.inr (.inr (.inl 664))), some (.inl a), some (.inl (b : Int)), some (.inl ((k : Int) - 1))] [] M1 n (tQn n (fun M' => Vr M' a (x * pw b) ∧ rE (fun r => r = a) M M')) := by
    intro k
    induction k with
    | zero =>
      intro M1 hk hE hm hl hu
      refine tb_X12_shifts_23 (c := false) ?_
      simp only [kb_X12_shifts_23, w_ild_3, w_if_lt, w_ald_0, w_ild_1, w_ild_2, w_iadd, w_iv2, tfr_0, tfr_1, tfr_2, tfr_3, tfr_4, w_iv3, w_inc3, tkl_n, tkl_i, tkl_l, tkl_r, w_goto, true_and, and_true, Nat.reduceAdd, Nat.reduceSub, eq_self, tshm_14, tshm_31, tshm_32, tykm_31, tykm_32, tykm_14, tci_14, tci_15, tci_960]
      refine ⟨by omega, fun _ => ?_, fun h => by omega⟩
      refine tb_X12_shifts_47 (c := false) ?_
      simp only [kb_X12_shifts_47, w_ic, w_ist_3, tkl_n, tkl_i, tkl_l, tkl_r, w_nil, true_and, and_true, Nat.reduceAdd, Nat.reduceSub, eq_self]
      exact l2 b 0 M1 (by omega) hE hm (fun i hi => hl i (Nat.zero_le _) hi) (fun i hi => absurd hi (Nat.not_lt_zero _))
    | succ k ih =>
      intro M1 hk hE hm hl hu
      have e1 : (if (k : Int) < M1 666 a then M1 665 (64 * a + (k : Int)) else 0) = ((dg x k : Nat) : Int) := by
        rw [if_pos (by omega), hu k (by omega)]
      rw [show (((k + 1 : Nat) : Int) - 1) = (k : Int) by omega]
      refine tb_X12_shifts_23 (c := false) ?_
      simp only [kb_X12_shifts_23, w_ild_3, w_if_lt, w_ald_0, w_ild_1, w_ild_2, w_iadd, w_iv2, tfr_0, tfr_1, tfr_2, tfr_3, tfr_4, w_iv3, w_inc3, tkl_n, tkl_i, tkl_l, tkl_r, w_goto, true_and, and_true, Nat.reduceAdd, Nat.reduceSub, eq_self, tshm_14, tshm_31, tshm_32, tykm_31, tykm_32, tykm_14, tci_14, tci_15, tci_960]
      refine ⟨by omega, fun h => by omega, fun _ => ?_⟩
      refine tc_l (D := 0) (fun d' _ => c_limb0 (k := k) ha (by omega) (by omega)) (by omega) ?_
      rintro _ _ ⟨rfl, rfl⟩
      rw [e1]
      simp only [kb_X12_shifts_23, w_ild_3, w_if_lt, w_ald_0, w_ild_1, w_ild_2, w_iadd, w_iv2, tfr_0, tfr_1, tfr_2, tfr_3, tfr_4, w_iv3, w_inc3, tkl_n, tkl_i, tkl_l, tkl_r, w_goto, true_and, and_true, Nat.reduceAdd, Nat.reduceSub, eq_self, tshm_14, tshm_31, tshm_32, tykm_31, tykm_32, tykm_14, tci_14, tci_15, tci_960]
      refine tc_n (D := 0) (fun d' _ => c_lets (k := (k : Int) + (b : Int)) ha (by omega)) (by omega) ?_
      rintro _ rfl
      simp only [kb_X12_shifts_23, w_ild_3, w_if_lt, w_ald_0, w_ild_1, w_ild_2, w_iadd, w_iv2, tfr_0, tfr_1, tfr_2, tfr_3, tfr_4, w_iv3, w_inc3, tkl_n, tkl_i, tkl_l, tkl_r, w_goto, true_and, and_true, Nat.reduceAdd, Nat.reduceSub, eq_self, tshm_14, tshm_31, tshm_32, tykm_31, tykm_32, tykm_14, tci_14, tci_15, tci_960]
      rw [show (k : Int) + -1 = (k : Int) - 1 by omega]
      refine ih _ (by omega) (rE_tr hE (rE_l rfl (by omega))) (by rw [tU_nk (by decide)]; exact hm) (fun i hi1 hi2 => ?_) (fun i hi => ?_)
      · rw [tU_if]
        by_cases hik : i = k
        · rw [if_pos (by omega), hik]
        · rw [if_neg (by omega)]
          exact hl i (by omega) hi2
      · rw [tU_ni (by omega)]
        exact hu i (by omega)
  refine tb_X12_shifts_10 (c := false) ?_
  simp only [kb_X12_shifts_10, w_ild_2, w_if_lt, w_ald_0, w_gf_14_1, tw_f, w_ild_1, w_ia, w_iax, w_ic, w_isub, w_ist_3, tkl_n, tkl_i, tkl_l, tkl_r, w_nil, true_and, and_true, Nat.reduceAdd, Nat.reduceSub, eq_self, tshm_14, tshm_31, tshm_32, tykm_31, tykm_32, tykm_14, tci_14, tci_15, tci_960]
  rw [h1]
  refine ⟨by omega, fun h => by omega, fun _ => ⟨by omega, ?_⟩⟩
  exact l1 m M (Nat.le_refl _) rE_refl h1 (fun i hi1 hi2 => by omega) (fun i hi => hD.2.2.2 i hi)
theorem c_shr {a : Int} {x b : Nat} (ha : 0 ≤ a ∧ a < 15) (hx : Vr M a x) (hb : 0 < b ∧ b ≤ 60) (hd : 1 ≤ d) : tC e d 3703 [.inr (.inr (.inl 664)), .inl a, .inl (-(b : Int))] M n (tQn n (fun M' => Vr M' a (x / pw b) ∧ rE (fun r => r = a) M M')) := by
  obtain ⟨m, hD, hz⟩ := hx
  have h1 := hD.1
  have h3 := hD.2.1
  have h5 := hD.2.2.1
  refine tst_X12_shifts ?_
  refine tb_X12_shifts_0 (c := false) ?_
  simp only [kb_X12_shifts_0, w_ald_0, w_gf_14_1, tw_f, w_ild_1, w_ia, w_iax, w_if_ne, w_re, true_and, and_true, Nat.reduceAdd, Nat.reduceSub, eq_self, tshm_14, tshm_31, tshm_32, tykm_31, tykm_32, tykm_14, tci_14, tci_15, tci_960]
  refine ⟨by omega, by omega, fun h => ?_, fun h => ?_⟩
  rotate_left
  · have hm0 : m = 0 := by omega
    have hx0 : x = 0 := by
      rw [hm0, pw_0] at h5
      omega
    refine ⟨rfl, rfl, ⟨0, ⟨by omega, by omega, by rw [hx0, Nat.zero_div]; exact pw_pos 0, fun i hi => absurd hi (Nat.not_lt_zero _)⟩, Or.inl rfl⟩, rE_refl⟩
  have hm0 : m ≠ 0 := by omega
  have hz1 := pw_half hz hm0
  have fin : ∀ (M1 : tM), rE (fun r => r = a) M M1 → (∀ i : Nat, i < m - b → M1 665 (64 * a + (i : Int)) = ((dg x (i + b) : Nat) : Int)) → Vr (tU M1 666 a ((m - b : Nat) : Int)) a (x / pw b) := by
    intro M1 hE hl
    refine ⟨m - b, ⟨tU_eq .., by omega, ?_, fun i hi => ?_⟩, ?_⟩
    · rcases Nat.lt_or_ge b m with q | q
      · refine Nat.div_lt_of_lt_mul ?_
        rw [← pw_add, show b + (m - b) = m by omega]
        exact h5
      · rw [Nat.div_eq_of_lt (Nat.lt_of_lt_of_le h5 (pw_mono q))]
        exact pw_pos _
    · rw [tU_nk (by decide), dg_shr]
      exact hl i hi
    · rcases Nat.lt_or_ge b m with q | q
      · right
        rw [Nat.le_div_iff_mul_le (pw_pos b), ← pw_add, show m - b - 1 + b = m - 1 by omega]
        exact hz1
      · left
        omega
  have loop : ∀ (j k : Nat) (M1 : tM), j + k = m - b → rE (fun r => r = a) M M1 → M1 666 a = (m : Int) → (∀ i : Nat, i < k → M1 665 (64 * a + (i : Int)) = ((dg x (i + b) : Nat) : Int)) → (∀ i : Nat, k ≤ i → i < m → M1 665 (64 * a + (i : Int)) = ((dg x i : Nat) : Int)) → tT e d 3703 80 [some (.inr (.inr (.inl 664))), some (.inl a), some (.inl (-(b : Int))), some (.inl (k : Int))] [] M1 n (tQn n (fun M' => Vr M' a (x / pw b) ∧ rE (fun r => r = a) M M')) := by
    intro j
    induction j with
    | zero =>
      intro k M1 hk hE hm hl hu
      have f1 := fin M1 hE (fun i hi => hl i (by omega))
      refine tb_X12_shifts_80 (c := false) ?_
      simp only [kb_X12_shifts_80, w_ild_3, w_ald_0, w_gf_14_1, tw_f, w_ild_1, w_ia, w_iax, w_ild_2, w_iadd, w_ic_ge, w_isub, w_iv2, tfr_0, tfr_1, tfr_2, tfr_3, tfr_4, w_iv3, w_inc3, tkl_n, tkl_i, tkl_l, tkl_r, w_goto, true_and, and_true, Nat.reduceAdd, Nat.reduceSub, eq_self, tshm_14, tshm_31, tshm_32, tykm_31, tykm_32, tykm_14, tci_14, tci_15, tci_960]
      refine ⟨by omega, by omega, fun _ => ?_, fun h => by omega⟩
      refine tb_X12_shifts_112 (c := false) ?_
      simp only [kb_X12_shifts_112, w_ald_0, w_gf_14_1, tw_f, w_ild_1, w_ia, w_iax, w_ild_2, w_iadd, w_if_ge, w_ic, w_goto, true_and, and_true, Nat.reduceAdd, Nat.reduceSub, eq_self, tshm_14, tshm_31, tshm_32, tykm_31, tykm_32, tykm_14, tci_14, tci_15, tci_960]
      rw [hm]
      refine ⟨by omega, by omega, fun h => ?_, fun h => ?_⟩
      · refine tb_X12_shifts_132 (c := false) ?_
        simp only [kb_X12_shifts_132, w_ald_0, w_gf_14_1, tw_f, w_ild_1, w_ia, w_iax, w_ild_2, w_iadd, w_nil, true_and, and_true, Nat.reduceAdd, Nat.reduceSub, eq_self, tshm_14, tshm_31, tshm_32, tykm_31, tykm_32, tykm_14, tci_14, tci_15, tci_960]
        rw [hm]
        refine ⟨by omega, ?_⟩
        refine tb_X12_shifts_140 (c := false) ?_
        simp only [kb_X12_shifts_140, w_ias, ne_eq, eq_self, not_true_eq_false, false_implies, w_re, true_and, and_true, Nat.reduceAdd, Nat.reduceSub, eq_self, tshm_14, tshm_31, tshm_32, tykm_31, tykm_32, tykm_14, tci_14, tci_15, tci_960]
        refine ⟨by omega, rfl, rfl, ?_, rE_tr hE (rE_m rfl)⟩
        rw [show (m : Int) + -(b : Int) = ((m - b : Nat) : Int) by omega]
        exact f1
      · refine tb_X12_shifts_140 (c := false) ?_
        simp only [kb_X12_shifts_140, w_ias, ne_eq, eq_self, not_true_eq_false, false_implies, w_re, true_and, and_true, Nat.reduceAdd, Nat.reduceSub, eq_self, tshm_14, tshm_31, tshm_32, tykm_31, tykm_32, tykm_14, tci_14, tci_15, tci_960]
        refine ⟨by omega, rfl, rfl, ?_, rE_tr hE (rE_m rfl)⟩
        rw [show m - b = 0 by omega] at f1
        exact f1
    | succ j ih =>
      intro k M1 hk hE hm hl hu
      have e1 : (if ((k + b : Nat) : Int) < M1 666 a then M1 665 (64 * a + ((k + b : Nat) : Int)) else 0) = ((dg x (k + b) : Nat) : Int) := by
        rw [if_pos (by omega), hu (k + b) (by omega) (by omega)]
      refine tb_X12_shifts_80 (c := false) ?_
      simp only [kb_X12_shifts_80, w_ild_3, w_ald_0, w_gf_14_1, tw_f, w_ild_1, w_ia, w_iax, w_ild_2, w_iadd, w_ic_ge, w_isub, w_iv2, tfr_0, tfr_1, tfr_2, tfr_3, tfr_4, w_iv3, w_inc3, tkl_n, tkl_i, tkl_l, tkl_r, w_goto, true_and, and_true, Nat.reduceAdd, Nat.reduceSub, eq_self, tshm_14, tshm_31, tshm_32, tykm_31, tykm_32, tykm_14, tci_14, tci_15, tci_960]
      refine ⟨by omega, by omega, fun h => by omega, fun _ => ?_⟩
      rw [show (k : Int) - -(b : Int) = ((k + b : Nat) : Int) by omega]
      refine tc_l (D := 0) (fun d' _ => c_limb0 (k := ((k + b : Nat) : Int)) ha (by omega) (by omega)) (by omega) ?_
      rintro _ _ ⟨rfl, rfl⟩
      rw [e1]
      simp only [kb_X12_shifts_80, w_ild_3, w_ald_0, w_gf_14_1, tw_f, w_ild_1, w_ia, w_iax, w_ild_2, w_iadd, w_ic_ge, w_isub, w_iv2, tfr_0, tfr_1, tfr_2, tfr_3, tfr_4, w_iv3, w_inc3, tkl_n, tkl_i, tkl_l, tkl_r, w_goto, true_and, and_true, Nat.reduceAdd, Nat.reduceSub, eq_self, tshm_14, tshm_31, tshm_32, tykm_31, tykm_32, tykm_14, tci_14, tci_15, tci_960]
      refine tc_n (D := 0) (fun d' _ => c_lets (k := k) ha (by omega)) (by omega) ?_
      rintro _ rfl
      simp only [kb_X12_shifts_80, w_ild_3, w_ald_0, w_gf_14_1, tw_f, w_ild_1, w_ia, w_iax, w_ild_2, w_iadd, w_ic_ge, w_isub, w_iv2, tfr_0, tfr_1, tfr_2, tfr_3, tfr_4, w_iv3, w_inc3, tkl_n, tkl_i, tkl_l, tkl_r, w_goto, true_and, and_true, Nat.reduceAdd, Nat.reduceSub, eq_self, tshm_14, tshm_31, tshm_32, tykm_31, tykm_32, tykm_14, tci_14, tci_15, tci_960]
      refine ih (k + 1) _ (by omega) (rE_tr hE (rE_l rfl (by omega))) (by rw [tU_nk (by decide)]; exact hm) (fun i hi => ?_) (fun i hi1 hi2 => ?_)
      · rw [tU_if]
        by_cases hik : i = k
        · rw [if_pos (by omega), hik]
        · rw [if_neg (by omega)]
          exact hl i (by omega)
      · rw [tU_ni (by omega)]
        exact hu i (by omega) hi2
  refine tb_X12_shifts_10 (c := false) ?_
  simp only [kb_X12_shifts_10, w_ild_2, w_if_lt, w_ald_0, w_gf_14_1, tw_f, w_ild_1, w_ia, w_iax, w_ic, w_isub, w_ist_3, tkl_n, tkl_i, tkl_l, tkl_r, w_nil, true_and, and_true, Nat.reduceAdd, Nat.reduceSub, eq_self, tshm_14, tshm_31, tshm_32, tykm_31, tykm_32, tykm_14, tci_14, tci_15, tci_960]
  refine ⟨by omega, fun _ => ?_, fun h => by omega⟩
  refine tb_X12_shifts_78 (c := false) ?_
  simp only [kb_X12_shifts_78, w_ic, w_ist_3, tkl_n, tkl_i, tkl_l, tkl_r, w_nil, true_and, and_true, Nat.reduceAdd, Nat.reduceSub, eq_self]
  rcases Nat.lt_or_ge b m with q | q
  · exact loop (m - b) 0 M (by omega) rE_refl h1 (fun i hi => absurd hi (Nat.not_lt_zero _)) (fun i _ hi => hD.2.2.2 i hi)
  · exact loop 0 0 M (by omega) rE_refl h1 (fun i hi => absurd hi (Nat.not_lt_zero _)) (fun i _ hi => hD.2.2.2 i hi)
/-- times a power of ten -/
theorem c_tens {a : Int} {x b : Nat} (ha : 0 ≤ a ∧ a < 15) (hx : Vr M a x) (hb : b ≤ 1000) (hs : x * tn b < pw 62) (hd : 2 ≤ d) : tC e d 3722 [.inr (.inr (.inl 664)), .inl a, .inl (b : Int)] M n (tQi n (fun z M' => z = 0 ∧ Vr M' a (x * tn b) ∧ rE (fun r => r = a) M M')) := by
  have h9 : ∀ i, i ≤ 9 → tn i ≤ 1000000000 := fun i hi => by have := tn_mono (b := 9) hi; rwa [tn_9] at this
  have out : ∀ (l : Int) (M1 : tM), l ≤ 0 → -1000 ≤ l → Vr M1 a (x * tn b) → rE (fun r => r = a) M M1 → tT e d 3722 5 [some (.inr (.inr (.inl 664))), some (.inl a), some (.inl (b : Int)), some (.inl 0), some (.inl l)] [] M1 n (tQi n (fun z M' => z = 0 ∧ Vr M' a (x * tn b) ∧ rE (fun r => r = a) M M')) := by
    intro l M1 hl hl2 hV hE
    refine tb_X12_tens_5 (c := false) ?_
    simp only [kb_X12_tens_5, w_ild4, w_if_le, w_ald_0, w_ild_1, w_bi, w_ic_le, w_goto, true_and, and_true, Nat.reduceAdd, Nat.reduceSub, eq_self]
    refine ⟨by omega, fun _ => ?_, fun h => by omega⟩
    refine tb_X12_tens_38 (c := false) ?_
    simp only [kb_X12_tens_38, w_ild_2, w_ineg, w_ist4, tkl_n, tkl_i, tkl_l, tkl_r, w_nil, true_and, and_true, Nat.reduceAdd, Nat.reduceSub, eq_self]
    refine tb_X12_tens_42 (c := false) ?_
    simp only [kb_X12_tens_42, w_ild4, w_if_le, w_ild_3, w_ald_0, w_ild_1, w_bi, w_ic_le, w_goto, true_and, and_true, Nat.reduceAdd, Nat.reduceSub, eq_self]
    refine ⟨by omega, fun _ => ?_, fun h => by omega⟩
    refine tb_X12_tens_88 (c := false) ?_
    simp only [kb_X12_tens_88, w_ild_3, w_ire, trg, true_and, and_true, Nat.reduceAdd, Nat.reduceSub, eq_self]
    exact ⟨by omega, _, rfl, rfl, rfl, hV, hE⟩
  have loop : ∀ (j l y : Nat) (M1 : tM), l ≤ j → l ≤ 1000 → y * tn l = x * tn b → Vr M1 a y → rE (fun r => r = a) M M1 → tT e d 3722 5 [some (.inr (.inr (.inl 664))), some (.inl a), some (.inl (b : Int)), some (.inl 0), some (.inl (l : Int))] [] M1 n (tQi n (fun z M' => z = 0 ∧ Vr M' a (x * tn b) ∧ rE (fun r => r = a) M M')) := by
    intro j
    induction j with
    | zero =>
      intro l y M1 hl hl2 hy hV hE
      have : l = 0 := by omega
      subst this
      have e0 := tn_0
      rw [e0, Nat.mul_one] at hy
      subst hy
      exact out 0 M1 (by omega) (by omega) hV hE
    | succ j ih =>
      intro l y M1 hl hl2 hy hV hE
      rcases Nat.eq_zero_or_pos l with h0 | h0
      · subst h0
        have e0 := tn_0
        rw [e0, Nat.mul_one] at hy
        subst hy
        exact out 0 M1 (by omega) (by omega) hV hE
      · have nx : ∀ c : Nat, c ≤ 9 → c ≤ l → (c = 9 ∨ c = l) → tT e d 3722 26 [some (.inr (.inr (.inl 664))), some (.inl a), some (.inl (b : Int)), some (.inl 0), some (.inl (l : Int))] [.inl (c : Int), .inl a, .inr (.inr (.inl 664))] M1 n (tQi n (fun z M' => z = 0 ∧ Vr M' a (x * tn b) ∧ rE (fun r => r = a) M M')) := by
          intro c hc9 hcl hc
          have q1 : y * tn c * tn (l - c) = x * tn b := by rw [Nat.mul_assoc, ← tn_add, show c + (l - c) = l by omega, hy]
          have q2 : y * tn c ≤ x * tn b := by rw [← q1]; exact Nat.le_mul_of_pos_right _ (tn_pos _)
          refine tb_X12_tens_26 (c := false) ?_
          simp only [kb_X12_tens_26, w_is1, tfr_0, tfr_1, tfr_2, tfr_3, tfr_4, w_iv2, w_inc4, tkl_n, tkl_i, tkl_l, tkl_r, w_goto, true_and, and_true, Nat.reduceAdd, Nat.reduceSub, eq_self, tshm_14, tshm_31, tshm_32, tykm_31, tykm_32, tykm_14, tci_14, tci_15, tci_960]
          refine tc_l (D := 0) (fun d' _ => c_ten (k := c) (by omega)) (by omega) ?_
          rintro _ _ ⟨rfl, rfl⟩
          simp only [kb_X12_tens_26, w_is1, tfr_0, tfr_1, tfr_2, tfr_3, tfr_4, w_iv2, w_inc4, tkl_n, tkl_i, tkl_l, tkl_r, w_goto, true_and, and_true, Nat.reduceAdd, Nat.reduceSub, eq_self, tshm_14, tshm_31, tshm_32, tykm_31, tykm_32, tykm_14, tci_14, tci_15, tci_960]
          refine tc_n (D := 1) (fun d' hd' => c_scales (b := tn c) ha hV (h9 c hc9) (by omega) hd') (by omega) ?_
          rintro M2 ⟨q3, q4⟩
          simp only [kb_X12_tens_26, w_is1, tfr_0, tfr_1, tfr_2, tfr_3, tfr_4, w_iv2, w_inc4, tkl_n, tkl_i, tkl_l, tkl_r, w_goto, true_and, and_true, Nat.reduceAdd, Nat.reduceSub, eq_self, tshm_14, tshm_31, tshm_32, tykm_31, tykm_32, tykm_14, tci_14, tci_15, tci_960]
          rcases hc with hc | hc
          · subst hc
            rcases Nat.lt_or_ge 9 l with q5 | q5
            · rw [show (l : Int) + -9 = ((l - 9 : Nat) : Int) by omega]
              exact ih (l - 9) _ M2 (by omega) (by omega) q1 q3 (rE_tr hE q4)
            · have : l - 9 = 0 := by omega
              rw [this, tn_0, Nat.mul_one] at q1
              rw [q1] at q3
              exact out _ M2 (by omega) (by omega) q3 (rE_tr hE q4)
          · subst hc
            rw [Nat.sub_self, tn_0, Nat.mul_one] at q1
            rw [q1] at q3
            exact out _ M2 (by omega) (by omega) q3 (rE_tr hE q4)
        refine tb_X12_tens_5 (c := false) ?_
        simp only [kb_X12_tens_5, w_ild4, w_if_le, w_ald_0, w_ild_1, w_bi, w_ic_le, w_goto, true_and, and_true, Nat.reduceAdd, Nat.reduceSub, eq_self]
        refine ⟨by omega, fun h => by omega, fun _ => ⟨by omega, fun h => ?_, fun h => ?_⟩⟩
        · refine tb_X12_tens_24 (c := false) ?_
          simp only [kb_X12_tens_24, w_ild4, w_nil, true_and, and_true, Nat.reduceAdd, Nat.reduceSub, eq_self]
          exact nx l (by omega) (Nat.le_refl _) (Or.inr rfl)
        · exact nx 9 (by omega) (by omega) (Or.inl rfl)
  refine tst_X12_tens ?_
  refine tb_X12_tens_0 (c := false) ?_
  simp only [kb_X12_tens_0, w_ic, w_ist_3, tkl_n, tkl_i, tkl_l, tkl_r, w_ild_2, w_ist4, w_nil, true_and, and_true, Nat.reduceAdd, Nat.reduceSub, eq_self]
  exact loop b b x M (Nat.le_refl _) hb rfl hx rE_refl
/-- by a power of ten; whether something is left -/
theorem c_tensd {a : Int} {x b : Nat} (ha : 0 ≤ a ∧ a < 15) (hx : Vr M a x) (hb : b ≤ 1000) (hd : 2 ≤ d) : tC e d 3722 [.inr (.inr (.inl 664)), .inl a, .inl (-(b : Int))] M n (tQi n (fun z M' => z = (if x % tn b = 0 then 0 else 1) ∧ Vr M' a (x / tn b) ∧ rE (fun r => r = a) M M')) := by
  have h9 : ∀ i, i ≤ 9 → tn i ≤ 1000000000 := fun i hi => by have := tn_mono (b := 9) hi; rwa [tn_9] at this
  have out : ∀ (l z : Int) (M1 : tM), l ≤ 0 → -1000 ≤ l → z = (if x % tn b = 0 then 0 else 1) → Vr M1 a (x / tn b) → rE (fun r => r = a) M M1 → tT e d 3722 42 [some (.inr (.inr (.inl 664))), some (.inl a), some (.inl (-(b : Int))), some (.inl z), some (.inl l)] [] M1 n (tQi n (fun z M' => z = (if x % tn b = 0 then 0 else 1) ∧ Vr M' a (x / tn b) ∧ rE (fun r => r = a) M M')) := by
    intro l z M1 hl hl2 hz hV hE
    refine tb_X12_tens_42 (c := false) ?_
    simp only [kb_X12_tens_42, w_ild4, w_if_le, w_ild_3, w_ald_0, w_ild_1, w_bi, w_ic_le, w_goto, true_and, and_true, Nat.reduceAdd, Nat.reduceSub, eq_self]
    refine ⟨by omega, fun _ => ?_, fun h => by omega⟩
    refine tb_X12_tens_88 (c := false) ?_
    simp only [kb_X12_tens_88, w_ild_3, w_ire, trg, true_and, and_true, Nat.reduceAdd, Nat.reduceSub, eq_self]
    refine ⟨?_, _, rfl, rfl, hz, hV, hE⟩
    rw [hz]
    split <;> omega
  have loop : ∀ (j l p : Nat) (z : Int) (M1 : tM), l ≤ j → p + l = b → z = (if x % tn p = 0 then 0 else 1) → Vr M1 a (x / tn p) → rE (fun r => r = a) M M1 → tT e d 3722 42 [some (.inr (.inr (.inl 664))), some (.inl a), some (.inl (-(b : Int))), some (.inl z), some (.inl (l : Int))] [] M1 n (tQi n (fun z M' => z = (if x % tn b = 0 then 0 else 1) ∧ Vr M' a (x / tn b) ∧ rE (fun r => r = a) M M')) := by
    intro j
    induction j with
    | zero =>
      intro l p z M1 hl hp hz hV hE
      have : p = b := by omega
      subst this
      exact out _ z M1 (by omega) (by omega) hz hV hE
    | succ j ih =>
      intro l p z M1 hl hp hz hV hE
      rcases Nat.eq_zero_or_pos l with h0 | h0
      · have : p = b := by omega
        subst this
        exact out _ z M1 (by omega) (by omega) hz hV hE
      · have hz01 : z = 0 ∨ z = 1 := by rw [hz]; split <;> simp
        have nx : ∀ c : Nat, c ≤ 9 → c ≤ l → (c = 9 ∨ c = l) → tT e d 3722 64 [some (.inr (.inr (.inl 664))), some (.inl a), some (.inl (-(b : Int))), some (.inl z), some (.inl (l : Int))] [.inl (c : Int), .inl a, .inr (.inr (.inl 664)), .inl z] M1 n (tQi n (fun z M' => z = (if x % tn b = 0 then 0 else 1) ∧ Vr M' a (x / tn b) ∧ rE (fun r => r = a) M M')) := by
          intro c hc9 hcl hc
          have q1 : x % tn (p + c) = x % tn p + tn p * (x / tn p % tn c) := by rw [tn_add, Nat.mod_mul]
          have q2 : x / tn (p + c) = x / tn p / tn c := by rw [tn_add, Nat.div_div_eq_div_mul]
          have q6 := tn_pos p
          have q7 : tn p * (x / tn p % tn c) = 0 ↔ x / tn p % tn c = 0 := by
            rw [Nat.mul_eq_zero]
            omega
          refine tb_X12_tens_64 (c := false) ?_
          simp only [kb_X12_tens_64, w_is1, tfr_0, tfr_1, tfr_2, tfr_3, tfr_4, w_iv2, w_lc0, w_lcmp, ne_eq, tlc_r, tlc_eq, tlc_lt, tlc_ge, tlc_gt, tlc_le, w_if_le, w_ic, w_goto, true_and, and_true, Nat.reduceAdd, Nat.reduceSub, eq_self, tshm_14, tshm_31, tshm_32, tykm_31, tykm_32, tykm_14, tci_14, tci_15, tci_960]
          refine tc_l (D := 0) (fun d' _ => c_ten (k := c) (by omega)) (by omega) ?_
          rintro _ _ ⟨rfl, rfl⟩
          simp only [kb_X12_tens_64, w_is1, tfr_0, tfr_1, tfr_2, tfr_3, tfr_4, w_iv2, w_lc0, w_lcmp, ne_eq, tlc_r, tlc_eq, tlc_lt, tlc_ge, tlc_gt, tlc_le, w_if_le, w_ic, w_goto, true_and, and_true, Nat.reduceAdd, Nat.reduceSub, eq_self, tshm_14, tshm_31, tshm_32, tykm_31, tykm_32, tykm_14, tci_14, tci_15, tci_960]
          refine tc_l (D := 1) (fun d' hd' => c_parts (b := tn c) ha hV ⟨tn_pos c, h9 c hc9⟩ hd') (by omega) ?_
          rintro _ M2 ⟨rfl, q3, q4⟩
          simp only [kb_X12_tens_64, w_is1, tfr_0, tfr_1, tfr_2, tfr_3, tfr_4, w_iv2, w_lc0, w_lcmp, ne_eq, tlc_r, tlc_eq, tlc_lt, tlc_ge, tlc_gt, tlc_le, w_if_le, w_ic, w_goto, true_and, and_true, Nat.reduceAdd, Nat.reduceSub, eq_self, tshm_14, tshm_31, tshm_32, tykm_31, tykm_32, tykm_14, tci_14, tci_15, tci_960]
          have q8 := Nat.mod_lt (x / tn p) (tn_pos c)
          have q9 := h9 c hc9
          rw [← q2] at q3
          have n2 : ∀ u : Int, (u = 0 ∧ x / tn p % tn c = 0 ∨ u = 1 ∧ x / tn p % tn c ≠ 0) → tT e d 3722 80 [some (.inr (.inr (.inl 664))), some (.inl a), some (.inl (-(b : Int))), some (.inl z), some (.inl (l : Int))] [.inl u, .inl z] M2 n (tQi n (fun z M' => z = (if x % tn b = 0 then 0 else 1) ∧ Vr M' a (x / tn b) ∧ rE (fun r => r = a) M M')) := by
            intro u hu
            have hz2 : (if z = 0 ∧ u = 0 then (0 : Int) else 1) = (if x % tn (p + c) = 0 then 0 else 1) := by
              rw [q1, hz]
              by_cases g1 : x % tn p = 0
              · rw [if_pos g1]
                rcases hu with ⟨rfl, g2⟩ | ⟨rfl, g2⟩
                · rw [if_pos ⟨rfl, rfl⟩, if_pos (by rw [g1, q7.mpr g2])]
                · rw [if_neg (by omega), if_neg (by have := mt q7.mp g2; omega)]
              · rw [if_neg g1, if_neg (by omega), if_neg (by omega)]
            refine tb_X12_tens_80 (c := false) ?_
            simp only [kb_X12_tens_80, w_ior, w_ist_3, tkl_n, tkl_i, tkl_l, tkl_r, w_inc4, w_goto, true_and, and_true, Nat.reduceAdd, Nat.reduceSub, eq_self]
            refine ⟨by omega, ?_⟩
            rcases hc with hc | hc
            · subst hc
              rcases Nat.lt_or_ge 9 l with q5 | q5
              · rw [show (l : Int) + -9 = ((l - 9 : Nat) : Int) by omega]
                exact ih (l - 9) (p + 9) _ M2 (by omega) (by omega) hz2 q3 (rE_tr hE q4)
              · have : p + 9 = b := by omega
                rw [this] at hz2 q3
                exact out _ _ M2 (by omega) (by omega) hz2 q3 (rE_tr hE q4)
            · subst hc
              rw [hp] at hz2 q3
              exact out _ _ M2 (by omega) (by omega) hz2 q3 (rE_tr hE q4)
          refine ⟨by omega, fun h => ?_, fun h => ?_⟩
          · refine tb_X12_tens_79 (c := false) ?_
            simp only [kb_X12_tens_79, w_ic, w_nil, true_and, and_true, Nat.reduceAdd, Nat.reduceSub, eq_self]
            exact n2 0 (Or.inl ⟨rfl, by omega⟩)
          · exact n2 1 (Or.inr ⟨rfl, by omega⟩)
        refine tb_X12_tens_42 (c := false) ?_
        simp only [kb_X12_tens_42, w_ild4, w_if_le, w_ild_3, w_ald_0, w_ild_1, w_bi, w_ic_le, w_goto, true_and, and_true, Nat.reduceAdd, Nat.reduceSub, eq_self]
        refine ⟨by omega, fun h => by omega, fun _ => ⟨by omega, fun h => ?_, fun h => ?_⟩⟩
        · refine tb_X12_tens_62 (c := false) ?_
          simp only [kb_X12_tens_62, w_ild4, w_nil, true_and, and_true, Nat.reduceAdd, Nat.reduceSub, eq_self]
          exact nx l (by omega) (Nat.le_refl _) (Or.inr rfl)
        · exact nx 9 (by omega) (by omega) (Or.inl rfl)
  refine tst_X12_tens ?_
  refine tb_X12_tens_0 (c := false) ?_
  simp only [kb_X12_tens_0, w_ic, w_ist_3, tkl_n, tkl_i, tkl_l, tkl_r, w_ild_2, w_ist4, w_nil, true_and, and_true, Nat.reduceAdd, Nat.reduceSub, eq_self]
  refine tb_X12_tens_5 (c := false) ?_
  simp only [kb_X12_tens_5, w_ild4, w_if_le, w_ald_0, w_ild_1, w_bi, w_ic_le, w_goto, true_and, and_true, Nat.reduceAdd, Nat.reduceSub, eq_self]
  refine ⟨by omega, fun _ => ?_, fun h => by omega⟩
  refine tb_X12_tens_38 (c := false) ?_
  simp only [kb_X12_tens_38, w_ild_2, w_ineg, w_ist4, tkl_n, tkl_i, tkl_l, tkl_r, w_nil, true_and, and_true, Nat.reduceAdd, Nat.reduceSub, eq_self]
  rw [show - -(b : Int) = (b : Int) by omega]
  exact loop b b 0 0 M (Nat.le_refl _) (by omega) (by rw [tn_0, Nat.mod_one, if_pos rfl]) (by rw [tn_0, Nat.div_one]; exact hx) rE_refl
end MODEL
