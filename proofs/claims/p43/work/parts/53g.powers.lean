/-! THE MODEL: powers. -/
noncomputable def pwr (up : Int) (D k : Nat) (z : Int) : Int := uu D * rdv up (z ^ k) ((tn (10 * k - D) : Nat) : Int)
noncomputable def lfL (D k : Nat) (l h : Int) : Int := if k = 0 then 10000000000 else if k % 2 = 0 ∧ h < 0 then pwr 0 D k h else if k % 2 = 0 ∧ l < 0 then 0 else pwr 0 D k l
noncomputable def lfH (D k : Nat) (l h : Int) : Int := if k = 0 then 10000000000 else if k % 2 = 0 ∧ h < 0 then pwr 1 D k l else if k % 2 = 0 ∧ l < 0 then imx (pwr 1 D k h) (pwr 1 D k l) else pwr 1 D k h
theorem pow_sign {z : Int} {k : Nat} : (k % 2 = 1 → z < 0 → z ^ k ≤ 0) ∧ (k % 2 = 0 → 0 ≤ z ^ k) ∧ (0 ≤ z → 0 ≤ z ^ k) := by
  have nn : 0 ≤ z → ∀ j : Nat, 0 ≤ z ^ j := fun h j => Int.pow_nonneg h
  have ev : ∀ j : Nat, 0 ≤ z ^ (2 * j) := fun j => by
    rw [Int.pow_mul]
    refine Int.pow_nonneg ?_
    rw [Int.pow_succ, Int.pow_succ, Int.pow_zero, Int.one_mul]
    rcases (show z < 0 ∨ 0 ≤ z by omega) with h | h
    · exact Int.mul_nonneg_of_nonpos_of_nonpos (by omega) (by omega)
    · exact Int.mul_nonneg h h
  refine ⟨fun h1 h2 => ?_, fun h1 => ?_, fun h => nn h k⟩
  · obtain ⟨j, rfl⟩ : ∃ j, k = 2 * j + 1 := ⟨k / 2, by omega⟩
    rw [Int.pow_succ]
    have := Int.mul_nonneg (ev j) (show 0 ≤ -z by omega)
    rw [Int.mul_neg] at this
    omega
  · obtain ⟨j, rfl⟩ : ∃ j, k = 2 * j := ⟨k / 2, by omega⟩
    exact ev j
theorem pow_big {x k : Nat} (hx : x ≤ 30000000000000000000000) (hk : k ≤ 9) : x ^ k < pw 60 ∧ ∀ t, t ≤ x ^ k → (t + 1) * tn 10 < pw 60 := by
  have h1 : x ^ k ≤ 30000000000000000000000 ^ k := Nat.pow_le_pow_left hx k
  have h2 : 30000000000000000000000 ^ k ≤ 30000000000000000000000 ^ 9 := Nat.pow_le_pow_right (by decide) hk
  have h3 := Nat.le_trans h1 h2
  have h : pw 26 ≤ pw 60 := pw_mono (by decide)
  rw [pw_def 26] at h
  refine ⟨Nat.lt_of_le_of_lt h3 (Nat.lt_of_lt_of_le (by decide) h), fun t ht => ?_⟩
  rw [tn_10]
  exact Nat.lt_of_le_of_lt (Nat.mul_le_mul_right _ (Nat.succ_le_succ (Nat.le_trans ht h3))) (Nat.lt_of_lt_of_le (by decide) h)
section MODEL
variable {e : tE} {d n : Nat} {M : tM}
set_option maxRecDepth 4000 in
theorem c_powers {u l up : Int} {k D : Nat} (hdg : M 664 2 = (D : Int)) (hD : D ≤ 10) (hl : 0 ≤ l ∧ l < 1000000000) (hz : -30000000000000000000000 ≤ u * 1000000000 + l ∧ u * 1000000000 + l ≤ 30000000000000000000000) (hk : 1 ≤ k ∧ k ≤ 9) (hup : up = 0 ∨ up = 1) (hd : 4 ≤ d) :
    tC e d 3681 [.inr (.inr (.inl 664)), .inr (.inl u), .inr (.inl l), .inl (k : Int), .inl up] M n (tQi n (fun z M' => (z = 1 ∧ zb M' = pwr up D k (u * 1000000000 + l) ∧ (-10000000000000000000000 < zb M' ∧ zb M' < 10000000000000000000000) ∧ cb M' ∨ z = 0) ∧ rU rPr M M')) := by
  generalize hZ : u * 1000000000 + l = z at *
  have hzb : z.natAbs ≤ 30000000000000000000000 := by omega
  have hpb := pow_big hzb hk.2
  have h6061 : pw 60 < pw 61 := pw_lt (by decide)
  have hpa : (z ^ k).natAbs = z.natAbs ^ k := Int.natAbs_pow z k
  have loop : ∀ (j i : Nat) (M1 : tM), j + i = k → 1 ≤ i → rU rPr M M1 → Vr M1 0 (z.natAbs ^ i) → Vr M1 1 z.natAbs → tT e d 3681 16 [some (.inr (.inr (.inl 664))), some (.inr (.inl u)), none, some (.inr (.inl l)), none, some (.inl (k : Int)), some (.inl up), some (.inl (i : Int))] [] M1 n (tQi n (fun z' M' => (z' = 1 ∧ zb M' = pwr up D k z ∧ (-10000000000000000000000 < zb M' ∧ zb M' < 10000000000000000000000) ∧ cb M' ∨ z' = 0) ∧ rU rPr M M')) := by
    intro j
    induction j with
    | zero =>
      intro i M1 hi hi1 r1 v0 v1
      have hik : i = k := by omega
      subst hik
      refine tb_X12_powers_16 (c := false) ?_
      simp only [kb_X12_powers_16, w_ild7, w_ild5, w_ic_ge, w_ald_0, w_ic, w_iv2, tfr_0, tfr_1, tfr_2, tfr_3, tfr_4, w_inc7, tkl_n, tkl_i, tkl_l, tkl_r, w_goto, true_and, and_true, Nat.reduceAdd, Nat.reduceSub, eq_self, tshm_14, tshm_31, tshm_32, tykm_31, tykm_32, tykm_14, tci_14, tci_15, tci_960, tshm_667, tshm_668, tshm_669, tshm_670, tykm_33, tci_700]
      refine ⟨by omega, fun _ => ?_, fun h => by omega⟩
      refine tb_X12_powers_35 (c := false) ?_
      simp only [kb_X12_powers_35, w_ald_0, w_ic, w_gf_14_2, tw_f, w_bi, w_ild5, w_imul, w_isub, w_iv2, tfr_0, tfr_1, tfr_2, tfr_3, tfr_4, w_ist7, tkl_n, tkl_i, tkl_l, tkl_r, w_ild7, w_lld_1, w_lc0, w_lcmp, ne_eq, tlc_r, tlc_eq, tlc_lt, tlc_ge, tlc_gt, tlc_le, w_if_ge, w_irem, w_ic_ne, w_goto, true_and, and_true, Nat.reduceAdd, Nat.reduceSub, eq_self, tshm_14, tshm_31, tshm_32, tykm_31, tykm_32, tykm_14, tci_14, tci_15, tci_960, tshm_667, tshm_668, tshm_669, tshm_670, tykm_33, tci_700]
      rw [(rU_d r1).trans hdg, show (D : Int) - 10 * (i : Int) = -((10 * i - D : Nat) : Int) by omega]
      refine tc_i (D := 2) (fun d' hd' => c_tensd (a := 0) (b := 10 * i - D) (by omega) v0 (by omega) hd') (by omega) ?_
      rintro hm M2 ⟨p3, p4, p5⟩
      try simp only [kb_X12_powers_35, w_ald_0, w_ic, w_gf_14_2, tw_f, w_bi, w_ild5, w_imul, w_isub, w_iv2, tfr_0, tfr_1, tfr_2, tfr_3, tfr_4, w_ist7, tkl_n, tkl_i, tkl_l, tkl_r, w_ild7, w_lld_1, w_lc0, w_lcmp, ne_eq, tlc_r, tlc_eq, tlc_lt, tlc_ge, tlc_gt, tlc_le, w_if_ge, w_irem, w_ic_ne, w_goto, true_and, and_true, Nat.reduceAdd, Nat.reduceSub, eq_self, tshm_14, tshm_31, tshm_32, tykm_31, tykm_32, tykm_14, tci_14, tci_15, tci_960, tshm_667, tshm_668, tshm_669, tshm_670, tykm_33, tci_700]
      have r2 : rU rPr M M2 := rU_tr r1 (rU_rm p5 (fun r hr => Or.inl hr))
      rw [← hpa] at p3 p4 hpb
      have fin : ∀ fb : Int, (fb = 1 ∧ z ^ i ≤ 0 ∨ fb = 0 ∧ 0 ≤ z ^ i) → tT e d 3681 75 [some (.inr (.inr (.inl 664))), some (.inr (.inl u)), none, some (.inr (.inl l)), none, some (.inl (i : Int)), some (.inl up), some (.inl hm)] [.inl fb, .inl hm, .inl 0, .inr (.inr (.inl 664))] M2 n (tQi n (fun z' M' => (z' = 1 ∧ zb M' = pwr up D i z ∧ (-10000000000000000000000 < zb M' ∧ zb M' < 10000000000000000000000) ∧ cb M' ∨ z' = 0) ∧ rU rPr M M')) := by
        intro fb hfb
        have hhm : hm = 0 ∨ hm = 1 := by rw [p3]; split <;> omega
        have hle := Nat.div_le_self (z ^ i).natAbs (tn (10 * i - D))
        have key := rdv_nat (p := z ^ i) (tn_pos (10 * i - D)) p3 hfb hup
        have hs := hpb.2 _ hle
        generalize ht : (z ^ i).natAbs / tn (10 * i - D) = t at *
        refine tb_X12_powers_75 (c := false) ?_
        simp only [kb_X12_powers_75, w_ild6, w_iv4, tfr_0, tfr_1, tfr_2, tfr_3, tfr_4, w_ire, trg, true_and, and_true, Nat.reduceAdd, Nat.reduceSub, eq_self, tshm_14, tshm_31, tshm_32, tykm_31, tykm_32, tykm_14, tci_14, tci_15, tci_960, tshm_667, tshm_668, tshm_669, tshm_670, tykm_33, tci_700]
        refine tc_i (D := 3) (fun d' hd' => c_tells (t := t) (D := D) (by omega) p4 ((rU_d r2).trans hdg) hD hhm (by omega) hup hs hd') (by omega) ?_
        rintro z' M3 ⟨s3, s4⟩
        try simp only [kb_X12_powers_75, w_ild6, w_iv4, tfr_0, tfr_1, tfr_2, tfr_3, tfr_4, w_ire, trg, true_and, and_true, Nat.reduceAdd, Nat.reduceSub, eq_self, tshm_14, tshm_31, tshm_32, tykm_31, tykm_32, tykm_14, tci_14, tci_15, tci_960, tshm_667, tshm_668, tshm_669, tshm_670, tykm_33, tci_700]
        refine ⟨by omega, _, rfl, rfl, ?_, rU_tr r2 (rU_mono s4 (fun r hr => by omega))⟩
        rcases s3 with ⟨s5, s6, s7, s8⟩ | ⟨s5, -⟩
        · left
          have e9 : zb M3 = pwr up D i z := by
            unfold pwr
            rw [s7, ← key]
            unfold uu
            split
            · rw [Int.natCast_mul, Int.mul_neg, Int.mul_comm]
            · rw [Int.natCast_mul, Int.mul_comm]
          refine ⟨s5, e9, ?_, s8⟩
          rw [s7]
          split <;> omega
        · exact Or.inr s5
      obtain ⟨ps1, ps2, ps3⟩ := pow_sign (z := z) (k := i)
      have n74 : 0 ≤ z ^ i → tT e d 3681 74 [some (.inr (.inr (.inl 664))), some (.inr (.inl u)), none, some (.inr (.inl l)), none, some (.inl (i : Int)), some (.inl up), some (.inl hm)] [.inl hm, .inl 0, .inr (.inr (.inl 664))] M2 n (tQi n (fun z' M' => (z' = 1 ∧ zb M' = pwr up D i z ∧ (-10000000000000000000000 < zb M' ∧ zb M' < 10000000000000000000000) ∧ cb M' ∨ z' = 0) ∧ rU rPr M M')) := by
        intro h
        refine tb_X12_powers_74 (c := false) ?_
        simp only [kb_X12_powers_74, w_ic, w_nil, true_and, and_true, Nat.reduceAdd, Nat.reduceSub, eq_self]
        exact fin 0 (Or.inr ⟨rfl, h⟩)
      rw [tmod_2]
      refine ⟨by omega, fun h => n74 (ps3 (by omega)), fun h => ⟨by omega, by omega, fun h2 => n74 (ps2 (by omega)), fun h2 => fin 1 (Or.inl ⟨rfl, ps1 (by omega) (by omega)⟩)⟩⟩
    | succ j ih =>
      intro i M1 hi hi1 r1 v0 v1
      have hb1 := (pow_big hzb (show i + 1 ≤ 9 by omega)).1
      rw [Nat.pow_succ] at hb1
      refine tb_X12_powers_16 (c := false) ?_
      simp only [kb_X12_powers_16, w_ild7, w_ild5, w_ic_ge, w_ald_0, w_ic, w_iv2, tfr_0, tfr_1, tfr_2, tfr_3, tfr_4, w_inc7, tkl_n, tkl_i, tkl_l, tkl_r, w_goto, true_and, and_true, Nat.reduceAdd, Nat.reduceSub, eq_self, tshm_14, tshm_31, tshm_32, tykm_31, tykm_32, tykm_14, tci_14, tci_15, tci_960, tshm_667, tshm_668, tshm_669, tshm_670, tykm_33, tci_700]
      refine ⟨by omega, fun h => by omega, fun _ => ?_⟩
      refine tc_n (D := 2) (fun d' hd' => c_times (a := 0) (b := 1) (by omega) (by omega) (by omega) (by omega) v0 v1 (Nat.lt_trans hb1 h6061) hd') (by omega) ?_
      rintro M2 ⟨p1, p2⟩
      try simp only [kb_X12_powers_16, w_ild7, w_ild5, w_ic_ge, w_ald_0, w_ic, w_iv2, tfr_0, tfr_1, tfr_2, tfr_3, tfr_4, w_inc7, tkl_n, tkl_i, tkl_l, tkl_r, w_goto, true_and, and_true, Nat.reduceAdd, Nat.reduceSub, eq_self, tshm_14, tshm_31, tshm_32, tykm_31, tykm_32, tykm_14, tci_14, tci_15, tci_960, tshm_667, tshm_668, tshm_669, tshm_670, tykm_33, tci_700]
      rw [← Nat.pow_succ] at p1
      exact ih (i + 1) M2 (by omega) (by omega) (rU_tr r1 (rU_rm p2 (fun r hr => by omega))) p1 (Vr_E v1 p2 (by decide))
  refine tst_X12_powers ?_
  refine tb_X12_powers_0 (c := false) ?_
  simp only [kb_X12_powers_0, w_ald_0, w_ic, w_lld_1, w_lld_3, w_iv3, tfr_0, tfr_1, tfr_2, tfr_3, tfr_4, w_iv2, w_ist7, tkl_n, tkl_i, tkl_l, tkl_r, w_nil, true_and, and_true, Nat.reduceAdd, Nat.reduceSub, eq_self, tshm_14, tshm_31, tshm_32, tykm_31, tykm_32, tykm_14, tci_14, tci_15, tci_960, tshm_667, tshm_668, tshm_669, tshm_670, tykm_33, tci_700]
  refine tc_n (D := 2) (fun d' hd' => c_size (row := 1) (by omega) hl (by omega) hd') (by omega) ?_
  rintro M1 ⟨q1, q2⟩
  rw [hZ] at q1
  try simp only [kb_X12_powers_0, w_ald_0, w_ic, w_lld_1, w_lld_3, w_iv3, tfr_0, tfr_1, tfr_2, tfr_3, tfr_4, w_iv2, w_ist7, tkl_n, tkl_i, tkl_l, tkl_r, w_nil, true_and, and_true, Nat.reduceAdd, Nat.reduceSub, eq_self, tshm_14, tshm_31, tshm_32, tykm_31, tykm_32, tykm_14, tci_14, tci_15, tci_960, tshm_667, tshm_668, tshm_669, tshm_670, tykm_33, tci_700]
  refine tc_n (D := 1) (fun d' hd' => c_copies (a := 1) (b := 0) (by omega) (by omega) (by omega) q1 hd') (by omega) ?_
  rintro M2 ⟨q3, q4⟩
  try simp only [kb_X12_powers_0, w_ald_0, w_ic, w_lld_1, w_lld_3, w_iv3, tfr_0, tfr_1, tfr_2, tfr_3, tfr_4, w_iv2, w_ist7, tkl_n, tkl_i, tkl_l, tkl_r, w_nil, true_and, and_true, Nat.reduceAdd, Nat.reduceSub, eq_self, tshm_14, tshm_31, tshm_32, tykm_31, tykm_32, tykm_14, tci_14, tci_15, tci_960, tshm_667, tshm_668, tshm_669, tshm_670, tykm_33, tci_700]
  refine loop (k - 1) 1 M2 (by omega) (by omega) (rU_tr (rU_rm q2 (fun r hr => Or.inr (Or.inl hr))) (rU_rm q4 (fun r hr => Or.inl hr))) ?_ (Vr_E q1 q4 (by decide))
  rw [Nat.pow_succ, Nat.pow_zero, Nat.one_mul]
  exact q3
end MODEL
