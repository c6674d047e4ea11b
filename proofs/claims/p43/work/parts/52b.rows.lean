/-! THE MODEL: rows of limbs, go on. -/
section MODEL
variable {e : tE} {d n : Nat} {M : tM}
theorem c_copies {a b : Int} {x : Nat} (ha : 0 ≤ a ∧ a < 15) (hb : 0 ≤ b ∧ b < 15) (hab : a ≠ b) (h : Vr M a x) (hd : 1 ≤ d) : tC e d 3601 [.inr (.inr (.inl 664)), .inl a, .inl b] M n (tQn n (fun M' => Vr M' b x ∧ rE (fun r => r = b) M M')) := by
  obtain ⟨m, hD, hz⟩ := h
  have hm := hD.1
  have hm2 := hD.2.1
  have loop : ∀ (j k : Nat) (M1 : tM), j + k = m → rE (fun r => r = b) M M1 → (∀ i : Nat, i < k → M1 665 (64 * b + (i : Int)) = ((dg x i : Nat) : Int)) → tT e d 3601 2 [some (.inr (.inr (.inl 664))), some (.inl a), some (.inl b), some (.inl (k : Int))] [] M1 n (tQn n (fun M' => Vr M' b x ∧ rE (fun r => r = b) M M')) := by
    intro j
    induction j with
    | zero =>
      intro k M1 hk hE hl
      have h1 : M1 666 a = (m : Int) := (hE.2.1 a hab).trans hm
      refine tb_X12_copies_2 (c := false) ?_
      simp only [kb_X12_copies_2, w_ild_3, w_ald_0, w_gf_14_1, tw_f, w_ild_1, w_ia, w_iax, w_ic_ge, w_ild_2, w_iv2, tfr_0, tfr_1, tfr_2, tfr_3, tfr_4, w_iv3, w_inc3, tkl_n, tkl_i, tkl_l, tkl_r, w_goto, true_and, and_true, Nat.reduceAdd, Nat.reduceSub, eq_self, tshm_14, tshm_31, tshm_32, tykm_31, tykm_32, tykm_14, tci_14, tci_15, tci_960]
      refine ⟨by omega, by omega, fun _ => ?_, fun h2 => absurd (show M1 666 a ≤ (k : Int) by omega) h2⟩
      refine tb_X12_copies_30 (c := false) ?_
      simp only [kb_X12_copies_30, w_ald_0, w_gf_14_1, tw_f, w_ild_2, w_ild_1, w_ia, w_iax, w_ias, ne_eq, eq_self, not_true_eq_false, false_implies, w_re, true_and, and_true, Nat.reduceAdd, Nat.reduceSub, eq_self, tshm_14, tshm_31, tshm_32, tykm_31, tykm_32, tykm_14, tci_14, tci_15, tci_960]
      refine ⟨by omega, by omega, rfl, rfl, ⟨m, ⟨by rw [tU_eq]; exact h1, hm2, hD.2.2.1, fun i hi => ?_⟩, hz⟩, rE_tr hE (rE_m rfl)⟩
      rw [tU_nk (by decide)]
      exact hl i (by omega)
    | succ j ih =>
      intro k M1 hk hE hl
      have h1 : M1 666 a = (m : Int) := (hE.2.1 a hab).trans hm
      refine tb_X12_copies_2 (c := false) ?_
      simp only [kb_X12_copies_2, w_ild_3, w_ald_0, w_gf_14_1, tw_f, w_ild_1, w_ia, w_iax, w_ic_ge, w_ild_2, w_iv2, tfr_0, tfr_1, tfr_2, tfr_3, tfr_4, w_iv3, w_inc3, tkl_n, tkl_i, tkl_l, tkl_r, w_goto, true_and, and_true, Nat.reduceAdd, Nat.reduceSub, eq_self, tshm_14, tshm_31, tshm_32, tykm_31, tykm_32, tykm_14, tci_14, tci_15, tci_960]
      refine ⟨by omega, by omega, fun h2 => by omega, fun _ => ?_⟩
      refine tc_l (D := 0) (fun d' _ => c_limb (k := k) ha (Dr_E hD hE hab) (by omega)) (by omega) ?_
      rintro _ _ ⟨rfl, rfl⟩
      simp only [kb_X12_copies_2, w_ild_3, w_ald_0, w_gf_14_1, tw_f, w_ild_1, w_ia, w_iax, w_ic_ge, w_ild_2, w_iv2, tfr_0, tfr_1, tfr_2, tfr_3, tfr_4, w_iv3, w_inc3, tkl_n, tkl_i, tkl_l, tkl_r, w_goto, true_and, and_true, Nat.reduceAdd, Nat.reduceSub, eq_self, tshm_14, tshm_31, tshm_32, tykm_31, tykm_32, tykm_14, tci_14, tci_15, tci_960]
      refine tc_n (D := 0) (fun d' _ => c_lets (k := k) hb (by omega)) (by omega) ?_
      rintro _ rfl
      simp only [kb_X12_copies_2, w_ild_3, w_ald_0, w_gf_14_1, tw_f, w_ild_1, w_ia, w_iax, w_ic_ge, w_ild_2, w_iv2, tfr_0, tfr_1, tfr_2, tfr_3, tfr_4, w_iv3, w_inc3, tkl_n, tkl_i, tkl_l, tkl_r, w_goto, true_and, and_true, Nat.reduceAdd, Nat.reduceSub, eq_self, tshm_14, tshm_31, tshm_32, tykm_31, tykm_32, tykm_14, tci_14, tci_15, tci_960]
      refine ih (k + 1) _ (by omega) (rE_tr hE (rE_l rfl (by omega))) (fun i hi => ?_)
      rw [tU_if]
      by_cases hik : i = k
      · rw [if_pos (by omega), hik]
      · rw [if_neg (by omega)]
        exact hl i (by omega)
  refine tst_X12_copies ?_
  refine tb_X12_copies_0 (c := false) ?_
  simp only [kb_X12_copies_0, w_ic, w_ist_3, tkl_n, tkl_i, tkl_l, tkl_r, w_nil, true_and, and_true, Nat.reduceAdd, Nat.reduceSub, eq_self]
  exact loop m 0 M (by omega) rE_refl (fun i hi => absurd hi (Nat.not_lt_zero _))
theorem c_sets {row : Int} {u l : Nat} (hr : 0 ≤ row ∧ row < 15) (hu : u < 9223372036854775808) (hl : l < 1000000000) (hd : 1 ≤ d) : tC e d 3702 [.inr (.inr (.inl 664)), .inl row, .inr (.inl (u : Int)), .inr (.inl (l : Int))] M n (tQn n (fun M' => Vr M' row (u * 1000000000 + l) ∧ rE (fun r => r = row) M M')) := by
  have d0 : dg (u * 1000000000 + l) 0 = l := by
    simp only [dg_def]
    rw [pw_0]
    omega
  have d1 : dg (u * 1000000000 + l) 1 = u % 1000000000 := by
    simp only [dg_def]
    have : pw 1 = 1000000000 := pw_1
    rw [this]
    omega
  have d2 : dg (u * 1000000000 + l) 2 = u / 1000000000 % 1000000000 := by
    simp only [dg_def]
    have : pw 2 = 1000000000000000000 := pw_2
    rw [this]
    omega
  have d3 : dg (u * 1000000000 + l) 3 = u / 1000000000 / 1000000000 := by
    simp only [dg_def]
    have : pw 3 = 1000000000000000000000000000 := pw_3
    rw [this]
    omega
  have hx : u * 1000000000 + l < pw 4 := by
    have : pw 4 = 1000000000000000000000000000000000000 := pw_4
    rw [this]
    omega
  refine tst_X12_sets ?_
  refine tb_X12_sets_0 (c := false) ?_
  simp only [kb_X12_sets_0, w_ald_0, w_ild_1, w_ic, w_lld4, w_iv3, tfr_0, tfr_1, tfr_2, tfr_3, tfr_4, w_lld_2, w_ld2, w_lrem, w_ldiv, tw_f, w_gf_14_1, w_ias, ne_eq, eq_self, not_true_eq_false, false_implies, w_iv1, w_re, true_and, and_true, Nat.reduceAdd, Nat.reduceSub, eq_self, tshm_14, tshm_31, tshm_32, tykm_31, tykm_32, tykm_14, tci_14, tci_15, tci_960]
  refine tc_n (D := 0) (fun d' _ => c_lets (k := 0) hr (by omega)) (by omega) ?_
  rintro _ rfl
  simp only [kb_X12_sets_0, w_ald_0, w_ild_1, w_ic, w_lld4, w_iv3, tfr_0, tfr_1, tfr_2, tfr_3, tfr_4, w_lld_2, w_ld2, w_lrem, w_ldiv, tw_f, w_gf_14_1, w_ias, ne_eq, eq_self, not_true_eq_false, false_implies, w_iv1, w_re, true_and, and_true, Nat.reduceAdd, Nat.reduceSub, eq_self, tshm_14, tshm_31, tshm_32, tykm_31, tykm_32, tykm_14, tci_14, tci_15, tci_960]
  rw [tmod_N]
  refine ⟨by omega, ?_⟩
  refine tc_n (D := 0) (fun d' _ => c_lets (k := 1) hr (by omega)) (by omega) ?_
  rintro _ rfl
  simp only [kb_X12_sets_0, w_ald_0, w_ild_1, w_ic, w_lld4, w_iv3, tfr_0, tfr_1, tfr_2, tfr_3, tfr_4, w_lld_2, w_ld2, w_lrem, w_ldiv, tw_f, w_gf_14_1, w_ias, ne_eq, eq_self, not_true_eq_false, false_implies, w_iv1, w_re, true_and, and_true, Nat.reduceAdd, Nat.reduceSub, eq_self, tshm_14, tshm_31, tshm_32, tykm_31, tykm_32, tykm_14, tci_14, tci_15, tci_960]
  rw [tdiv_N, tmod_N]
  refine ⟨by omega, by omega, ?_⟩
  refine tc_n (D := 0) (fun d' _ => c_lets (k := 2) hr (by omega)) (by omega) ?_
  rintro _ rfl
  simp only [kb_X12_sets_0, w_ald_0, w_ild_1, w_ic, w_lld4, w_iv3, tfr_0, tfr_1, tfr_2, tfr_3, tfr_4, w_lld_2, w_ld2, w_lrem, w_ldiv, tw_f, w_gf_14_1, w_ias, ne_eq, eq_self, not_true_eq_false, false_implies, w_iv1, w_re, true_and, and_true, Nat.reduceAdd, Nat.reduceSub, eq_self, tshm_14, tshm_31, tshm_32, tykm_31, tykm_32, tykm_14, tci_14, tci_15, tci_960]
  rw [tdiv_N, tdiv_N]
  refine ⟨by omega, by omega, ?_⟩
  refine tc_n (D := 0) (fun d' _ => c_lets (k := 3) hr (by omega)) (by omega) ?_
  rintro _ rfl
  simp only [kb_X12_sets_0, w_ald_0, w_ild_1, w_ic, w_lld4, w_iv3, tfr_0, tfr_1, tfr_2, tfr_3, tfr_4, w_lld_2, w_ld2, w_lrem, w_ldiv, tw_f, w_gf_14_1, w_ias, ne_eq, eq_self, not_true_eq_false, false_implies, w_iv1, w_re, true_and, and_true, Nat.reduceAdd, Nat.reduceSub, eq_self, tshm_14, tshm_31, tshm_32, tykm_31, tykm_32, tykm_14, tci_14, tci_15, tci_960]
  refine ⟨by omega, ?_⟩
  refine tc_n (D := 0) (fun d' _ => c_trims hr (m := 4) (x := u * 1000000000 + l) ⟨tU_eq .., by omega, hx, fun i hi => ?_⟩) (by omega) ?_
  · rw [tU_nk (by decide), tU_if, tU_if, tU_if, tU_if]
    have hi4 : i = 0 ∨ i = 1 ∨ i = 2 ∨ i = 3 := by omega
    rcases hi4 with rfl | rfl | rfl | rfl
    · rw [if_neg (by omega), if_neg (by omega), if_neg (by omega), if_pos (by omega), d0]
    · rw [if_neg (by omega), if_neg (by omega), if_pos (by omega), d1]
    · rw [if_neg (by omega), if_pos (by omega), d2]
    · rw [if_pos (by omega), d3]
  rintro M' ⟨h1, h2⟩
  simp only [kb_X12_sets_0, w_ald_0, w_ild_1, w_ic, w_lld4, w_iv3, tfr_0, tfr_1, tfr_2, tfr_3, tfr_4, w_lld_2, w_ld2, w_lrem, w_ldiv, tw_f, w_gf_14_1, w_ias, ne_eq, eq_self, not_true_eq_false, false_implies, w_iv1, w_re, true_and, and_true, Nat.reduceAdd, Nat.reduceSub, eq_self, tshm_14, tshm_31, tshm_32, tykm_31, tykm_32, tykm_14, tci_14, tci_15, tci_960]
  exact ⟨rfl, rfl, h1, rE_tr (rE_l rfl (by omega)) (rE_tr (rE_l rfl (by omega)) (rE_tr (rE_l rfl (by omega)) (rE_tr (rE_l rfl (by omega)) (rE_tr (rE_m rfl) h2))))⟩
end MODEL
