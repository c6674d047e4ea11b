/-! THE MODEL: the series read, the last step of each. -/
/-- 10^44, opaque. -/
theorem U4_ex : ∃ u : Nat, u = 100000000000000000000000000000000000000000000 := ⟨_, rfl⟩
noncomputable def U4 : Nat := Classical.choose U4_ex
theorem U4_def : U4 = 100000000000000000000000000000000000000000000 := Classical.choose_spec U4_ex
theorem U4_tn : U4 = tn 44 := by rw [U4_def, tn_def]
theorem U4_pos : 0 < U4 := by rw [U4_tn]; exact tn_pos 44
theorem U6_U4 : U6 = 10000000000 * U4 := by rw [U6_def, U4_def]
theorem U6_lt : U6 < tn 55 := by rw [U6_tn]; exact tn_lt (by decide)
def fcl : Nat → Nat
  | 0 => 1
  | k + 1 => fcl k * (k + 1)
theorem fcl_60 : 1000000000000000000000000000000000000000000000000000000 < fcl 60 := by decide
theorem fcl_pos : ∀ k, 0 < fcl k
  | 0 => Nat.one_pos
  | k + 1 => Nat.mul_pos (fcl_pos k) (Nat.succ_pos k)
section MODEL
variable {e : tE} {d n : Nat} {M : tM}
def rSe : Int → Prop := fun r => r = 5 ∨ r = 7 ∨ r = 8
/-- t shrinks as the factorials grow: after 60 steps nothing is left. -/
theorem c_series {s : Nat} (hs : s ≤ U6) (hV : Vr M 9 s) (hd : 3 ≤ d) :
    tC e d 3700 [.inr (.inr (.inl 664))] M n (tQn n (fun M' => Vr M' 8 (serv s) ∧ serv s ≤ 61 * U6 ∧ rE rSe M M')) := by
  have u6p := U6_pos
  have hl : ∀ (f t k acc : Nat) (M1 : tM) (v3 : Option tV), serf s f t k acc = serv s → f + k = 61 → 0 < k → t * fcl (k - 1) ≤ U6 → acc ≤ k * U6 → Vr M1 7 t → Vr M1 8 acc → Vr M1 9 s → rE rSe M M1 →
      tT e d 3700 16 [some (.inr (.inr (.inl 664))), some (.inr (.inl (k : Int))), none, v3, none] [] M1 n (tQn n (fun M' => Vr M' 8 (serv s) ∧ serv s ≤ 61 * U6 ∧ rE rSe M M')) := by
    intro f
    induction f with
    | zero =>
      intro t k acc M1 v3 h1 h2 h3 h4 h5 q1 q2 q3 q4
      have hk : k = 61 := by omega
      subst hk
      have ht : t = 0 := by
        rcases Nat.eq_zero_or_pos t with h | h
        · exact h
        · have h6 : fcl 60 ≤ t * fcl 60 := Nat.le_mul_of_pos_left _ h
          have h7 := fcl_60
          rw [← U6_def] at h7
          have : t * fcl 60 ≤ U6 := h4
          omega
      obtain ⟨a1, a2, a3⟩ := Vr_0 q1
      have h1' : acc = serv s := h1
      refine tb_X12_series_16 (c := false) ?_
      simp only [kb_X12_series_16, w_ald_0, w_gf_14_1, tw_f, w_bi, w_ia, w_iax, w_if_le, w_iv2, tfr_0, tfr_1, tfr_2, tfr_3, tfr_4, w_lld_1, w_lst_3, tkl_n, tkl_i, tkl_l, tkl_r, w_lc1, w_ladd, w_lst_1, w_goto, true_and, and_true, Nat.reduceAdd, Nat.reduceSub, eq_self, tshm_14, tshm_31, tshm_32, tykm_31, tykm_32, tykm_14, tci_14, tci_15, tci_960, tshm_667, tshm_668, tshm_669, tshm_670, tykm_33, tci_700]
      refine ⟨by omega, by omega, fun _ => ?_, fun h => by omega⟩
      refine tb_X12_series_65 (c := false) ?_
      simp only [kb_X12_series_65, w_re, true_and, and_true, Nat.reduceAdd, Nat.reduceSub, eq_self]
      refine ⟨rfl, rfl, ?_, by omega, q4⟩
      rw [← h1']
      exact q2
    | succ f ih =>
      intro t k acc M1 v3 h1 h2 h3 h4 h5 q1 q2 q3 q4
      obtain ⟨a1, a2, a3⟩ := Vr_0 q1
      unfold serf at h1
      have hk6 : k * U6 ≤ 61 * U6 := Nat.mul_le_mul_right _ (by omega)
      by_cases ht : t = 0
      · rw [if_pos ht] at h1
        refine tb_X12_series_16 (c := false) ?_
        simp only [kb_X12_series_16, w_ald_0, w_gf_14_1, tw_f, w_bi, w_ia, w_iax, w_if_le, w_iv2, tfr_0, tfr_1, tfr_2, tfr_3, tfr_4, w_lld_1, w_lst_3, tkl_n, tkl_i, tkl_l, tkl_r, w_lc1, w_ladd, w_lst_1, w_goto, true_and, and_true, Nat.reduceAdd, Nat.reduceSub, eq_self, tshm_14, tshm_31, tshm_32, tykm_31, tykm_32, tykm_14, tci_14, tci_15, tci_960, tshm_667, tshm_668, tshm_669, tshm_670, tykm_33, tci_700]
        refine ⟨by omega, by omega, fun _ => ?_, fun h => by omega⟩
        refine tb_X12_series_65 (c := false) ?_
        simp only [kb_X12_series_65, w_re, true_and, and_true, Nat.reduceAdd, Nat.reduceSub, eq_self]
        refine ⟨rfl, rfl, ?_, by omega, q4⟩
        rw [← h1]
        exact q2
      · rw [if_neg ht] at h1
        have htU : t ≤ U6 := Nat.le_trans (Nat.le_mul_of_pos_right t (fcl_pos (k - 1))) h4
        have hts : t * s ≤ U6 * U6 := Nat.mul_le_mul htU hs
        have hU2 : U6 * U6 < pw 61 := by
          rw [U6_tn, ← tn_add]
          exact tn_pw (by decide)
        obtain ⟨w, hw⟩ : ∃ w, w = t * s / U6 / k := ⟨_, rfl⟩
        have hw1 : w * k ≤ t := by
          have h6 : t * s / U6 ≤ t := by
            have : t * s ≤ t * U6 := Nat.mul_le_mul_left t hs
            calc t * s / U6 ≤ t * U6 / U6 := Nat.div_le_div_right this
              _ = t := Nat.mul_div_cancel t u6p
          rw [hw]
          exact Nat.le_trans (Nat.div_mul_le_self _ _) h6
        have hw2 : w ≤ U6 := Nat.le_trans (Nat.le_mul_of_pos_right w h3) (Nat.le_trans hw1 htU)
        have hw3 : w * fcl (k + 1 - 1) ≤ U6 := by
          obtain ⟨j, rfl⟩ : ∃ j, k = j + 1 := ⟨k - 1, by omega⟩
          have e1 : fcl (j + 1 + 1 - 1) = fcl j * (j + 1) := rfl
          rw [e1, ← Nat.mul_assoc, Nat.mul_right_comm]
          exact Nat.le_trans (Nat.mul_le_mul_right _ hw1) h4
        have hw4 : acc + w ≤ (k + 1) * U6 := by
          rw [Nat.add_mul]
          omega
        have hw5 : acc + w < pw 62 := by
          have h6 : (k + 1) * U6 ≤ 61 * U6 := Nat.mul_le_mul_right _ (by omega)
          refine b60 ?_
          rw [U6_def] at h6 hw4
          omega
        rw [← hw] at h1
        refine tb_X12_series_16 (c := false) ?_
        simp only [kb_X12_series_16, w_ald_0, w_gf_14_1, tw_f, w_bi, w_ia, w_iax, w_if_le, w_iv2, tfr_0, tfr_1, tfr_2, tfr_3, tfr_4, w_lld_1, w_lst_3, tkl_n, tkl_i, tkl_l, tkl_r, w_lc1, w_ladd, w_lst_1, w_goto, true_and, and_true, Nat.reduceAdd, Nat.reduceSub, eq_self, tshm_14, tshm_31, tshm_32, tykm_31, tykm_32, tykm_14, tci_14, tci_15, tci_960, tshm_667, tshm_668, tshm_669, tshm_670, tykm_33, tci_700]
        refine ⟨by omega, by omega, fun _ => by omega, fun _ => ?_⟩
        refine tc_n (D := 2) (fun d' hd' => c_times (by omega) (by omega) (by omega) (by omega) q1 q3 (Nat.lt_of_le_of_lt hts hU2) hd') (by omega) ?_
        rintro M2 ⟨p1, p2⟩
        try simp only [kb_X12_series_16, w_ald_0, w_gf_14_1, tw_f, w_bi, w_ia, w_iax, w_if_le, w_iv2, tfr_0, tfr_1, tfr_2, tfr_3, tfr_4, w_lld_1, w_lst_3, tkl_n, tkl_i, tkl_l, tkl_r, w_lc1, w_ladd, w_lst_1, w_goto, true_and, and_true, Nat.reduceAdd, Nat.reduceSub, eq_self, tshm_14, tshm_31, tshm_32, tykm_31, tykm_32, tykm_14, tci_14, tci_15, tci_960, tshm_667, tshm_668, tshm_669, tshm_670, tykm_33, tci_700]
        refine tc_n (D := 1) (fun d' hd' => c_shr (b := 6) (by omega) p1 (by omega) hd') (by omega) ?_
        rintro M3 ⟨p3, p4⟩
        rw [pw_6] at p3
        try simp only [kb_X12_series_16, w_ald_0, w_gf_14_1, tw_f, w_bi, w_ia, w_iax, w_if_le, w_iv2, tfr_0, tfr_1, tfr_2, tfr_3, tfr_4, w_lld_1, w_lst_3, tkl_n, tkl_i, tkl_l, tkl_r, w_lc1, w_ladd, w_lst_1, w_goto, true_and, and_true, Nat.reduceAdd, Nat.reduceSub, eq_self, tshm_14, tshm_31, tshm_32, tykm_31, tykm_32, tykm_14, tci_14, tci_15, tci_960, tshm_667, tshm_668, tshm_669, tshm_670, tykm_33, tci_700]
        refine tc_l (D := 1) (fun d' hd' => c_parts (b := k) (by omega) p3 (by omega) hd') (by omega) ?_
        rintro z M4 ⟨-, p5, p6⟩
        rw [← hw] at p5
        try simp only [kb_X12_series_16, w_ald_0, w_gf_14_1, tw_f, w_bi, w_ia, w_iax, w_if_le, w_iv2, tfr_0, tfr_1, tfr_2, tfr_3, tfr_4, w_lld_1, w_lst_3, tkl_n, tkl_i, tkl_l, tkl_r, w_lc1, w_ladd, w_lst_1, w_goto, true_and, and_true, Nat.reduceAdd, Nat.reduceSub, eq_self, tshm_14, tshm_31, tshm_32, tykm_31, tykm_32, tykm_14, tci_14, tci_15, tci_960, tshm_667, tshm_668, tshm_669, tshm_670, tykm_33, tci_700]
        have p7 : Vr M4 8 acc := Vr_E (Vr_E (Vr_E q2 p2 (by omega)) p4 (by omega)) p6 (by omega)
        have p8 : Vr M4 9 s := Vr_E (Vr_E (Vr_E q3 p2 (by omega)) p4 (by omega)) p6 (by omega)
        refine tc_n (D := 1) (fun d' hd' => c_plus (by omega) (by omega) (by omega) p7 p5 hw5 hd') (by omega) ?_
        rintro M5 ⟨s1, s2⟩
        try simp only [kb_X12_series_16, w_ald_0, w_gf_14_1, tw_f, w_bi, w_ia, w_iax, w_if_le, w_iv2, tfr_0, tfr_1, tfr_2, tfr_3, tfr_4, w_lld_1, w_lst_3, tkl_n, tkl_i, tkl_l, tkl_r, w_lc1, w_ladd, w_lst_1, w_goto, true_and, and_true, Nat.reduceAdd, Nat.reduceSub, eq_self, tshm_14, tshm_31, tshm_32, tykm_31, tykm_32, tykm_14, tci_14, tci_15, tci_960, tshm_667, tshm_668, tshm_669, tshm_670, tykm_33, tci_700]
        refine ih w (k + 1) (acc + w) M5 _ h1 (by omega) (by omega) hw3 hw4 (Vr_E p5 s2 (by omega)) s1 (Vr_E p8 s2 (by omega)) (rE_tr q4 (rE_tr (rE_mono p2 (fun r hr => by unfold rSe; omega)) (rE_tr (rE_mono p4 (fun r hr => by unfold rSe; omega)) (rE_tr (rE_mono p6 (fun r hr => by unfold rSe; omega)) (rE_mono s2 (fun r hr => by unfold rSe; omega))))))
  refine tst_X12_series ?_
  refine tb_X12_series_0 (c := false) ?_
  simp only [kb_X12_series_0, w_ald_0, w_bi, w_iv1, tfr_0, tfr_1, tfr_2, tfr_3, tfr_4, w_iv2, w_lc1, w_lst_1, tkl_n, tkl_i, tkl_l, tkl_r, w_nil, true_and, and_true, Nat.reduceAdd, Nat.reduceSub, eq_self, tshm_14, tshm_31, tshm_32, tykm_31, tykm_32, tykm_14, tci_14, tci_15, tci_960, tshm_667, tshm_668, tshm_669, tshm_670, tykm_33, tci_700]
  refine tc_n (D := 2) (fun d' hd' => c_unit (by omega) hd') (by omega) ?_
  rintro M1 ⟨p1, p2⟩
  try simp only [kb_X12_series_0, w_ald_0, w_bi, w_iv1, tfr_0, tfr_1, tfr_2, tfr_3, tfr_4, w_iv2, w_lc1, w_lst_1, tkl_n, tkl_i, tkl_l, tkl_r, w_nil, true_and, and_true, Nat.reduceAdd, Nat.reduceSub, eq_self, tshm_14, tshm_31, tshm_32, tykm_31, tykm_32, tykm_14, tci_14, tci_15, tci_960, tshm_667, tshm_668, tshm_669, tshm_670, tykm_33, tci_700]
  refine tc_n (D := 1) (fun d' hd' => c_copies (a := 7) (b := 8) (x := U6) (by omega) (by omega) (by omega) p1 hd') (by omega) ?_
  rintro M2 ⟨p3, p4⟩
  try simp only [kb_X12_series_0, w_ald_0, w_bi, w_iv1, tfr_0, tfr_1, tfr_2, tfr_3, tfr_4, w_iv2, w_lc1, w_lst_1, tkl_n, tkl_i, tkl_l, tkl_r, w_nil, true_and, and_true, Nat.reduceAdd, Nat.reduceSub, eq_self, tshm_14, tshm_31, tshm_32, tykm_31, tykm_32, tykm_14, tci_14, tci_15, tci_960, tshm_667, tshm_668, tshm_669, tshm_670, tykm_33, tci_700]
  exact hl 60 U6 1 U6 M2 _ rfl rfl (by omega) (by rw [show fcl (1 - 1) = 1 from rfl]; omega) (by omega) (Vr_E p1 p4 (by omega)) p3 (Vr_E (Vr_E hV p2 (by omega)) p4 (by omega)) (rE_tr (rE_mono p2 (fun r hr => by unfold rSe; omega)) (rE_mono p4 (fun r hr => by unfold rSe; omega)))
end MODEL
