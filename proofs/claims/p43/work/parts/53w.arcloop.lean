/-! THE MODEL: the arcus tangens read. -/
section MODEL
variable {e : tE} {d n : Nat} {M : tM}
theorem l_arcs {u l up fl : Int} {w V : Nat} {R : tR → tM → Nat → Prop} (hw : w * 2 ≤ U6) (hd : 3 ≤ d)
    (fin : ∀ (M' : tM) (v9 : Option tV) (k : Int), Vr M' 8 V → V ≤ 4 * U6 → qE rEx M M' → tT e d 3590 281 [some (.inr (.inr (.inl 664))), some (.inr (.inl u)), none, some (.inr (.inl l)), none, some (.inl up), some (.inl fl), some (.inr (.inl k)), none, v9, none] [] M' n R) :
    ∀ (f t k acc : Nat) (M1 : tM) (v9 : Option tV), atS w f t k acc = V → t < 2 ^ f → f + k = 201 → 0 < k → acc + 2 * t ≤ 4 * U6 → Vr M1 7 t → Vr M1 8 acc → Vr M1 9 w → qE rEx M M1 →
      tT e d 3590 210 [some (.inr (.inr (.inl 664))), some (.inr (.inl u)), none, some (.inr (.inl l)), none, some (.inl up), some (.inl fl), some (.inr (.inl (k : Int))), none, v9, none] [] M1 n R := by
  have u6p := U6_pos
  intro f
  induction f with
  | zero =>
    intro t k acc M1 v9 h1 h2 h3 h4 h5 q1 q2 q3 q4
    have ht : t = 0 := by
      rw [Nat.pow_zero] at h2
      omega
    obtain ⟨a1, a2, a3⟩ := Vr_0 q1
    rw [atS_end ht] at h1
    rw [h1] at q2
    refine tb_X12_arcs_210 (c := false) ?_
    simp only [kb_X12_arcs_210, w_ald_0, w_gf_14_1, tw_f, w_bi, w_ia, w_iax, w_if_le, w_iv2, tfr_0, tfr_1, tfr_2, tfr_3, tfr_4, w_ld2, w_lld7, w_lmul, w_lc1, w_ladd, w_lst9, tkl_n, tkl_i, tkl_l, tkl_r, w_lst7, w_goto, true_and, and_true, Nat.reduceAdd, Nat.reduceSub, eq_self, tshm_14, tshm_31, tshm_32, tykm_31, tykm_32, tykm_14, tci_14, tci_15, tci_960, tshm_667, tshm_668, tshm_669, tshm_670, tykm_33, tci_700]
    refine ⟨by omega, by omega, fun _ => ?_, fun h => by omega⟩
    exact fin M1 _ _ q2 (by omega) q4
  | succ f ih =>
    intro t k acc M1 v9 h1 h2 h3 h4 h5 q1 q2 q3 q4
    obtain ⟨a1, a2, a3⟩ := Vr_0 q1
    by_cases ht : t = 0
    · rw [atS_end ht] at h1
      rw [h1] at q2
      refine tb_X12_arcs_210 (c := false) ?_
      simp only [kb_X12_arcs_210, w_ald_0, w_gf_14_1, tw_f, w_bi, w_ia, w_iax, w_if_le, w_iv2, tfr_0, tfr_1, tfr_2, tfr_3, tfr_4, w_ld2, w_lld7, w_lmul, w_lc1, w_ladd, w_lst9, tkl_n, tkl_i, tkl_l, tkl_r, w_lst7, w_goto, true_and, and_true, Nat.reduceAdd, Nat.reduceSub, eq_self, tshm_14, tshm_31, tshm_32, tykm_31, tykm_32, tykm_14, tci_14, tci_15, tci_960, tshm_667, tshm_668, tshm_669, tshm_670, tykm_33, tci_700]
      refine ⟨by omega, by omega, fun _ => ?_, fun h => by omega⟩
      exact fin M1 _ _ q2 (by omega) q4
    · unfold atS at h1
      rw [if_neg ht] at h1
      obtain ⟨y, hy⟩ : ∃ y, y = t * w / U6 := ⟨_, rfl⟩
      rw [← hy] at h1
      obtain ⟨x, hx⟩ : ∃ x, x = y * (2 * k) / (2 * k + 1) := ⟨_, rfl⟩
      rw [← hx] at h1
      have hxy : x ≤ y := by
        rw [hx]
        exact Nat.div_le_of_le_mul (by rw [Nat.mul_comm]; exact Nat.mul_le_mul_right _ (Nat.le_succ _))
      have hy2 : y * 2 ≤ t := by
        have h6 : t * w * 2 ≤ t * U6 := by
          rw [Nat.mul_assoc]
          exact Nat.mul_le_mul_left t hw
        have h7 : y * U6 ≤ t * w := by rw [hy]; exact Nat.div_mul_le_self _ _
        have h8 : y * 2 * U6 ≤ t * U6 := by
          rw [Nat.mul_right_comm]
          omega
        exact Nat.le_of_mul_le_mul_right h8 u6p
      rw [Nat.pow_succ] at h2
      have h2k : (2 : Int) * (k : Int) = ((2 * k : Nat) : Int) := (Int.natCast_mul 2 k).symm
      have h2k1 : ((2 * k : Nat) : Int) + 1 = ((2 * k + 1 : Nat) : Int) := rfl
      have hsc : y * (2 * k) < pw 62 := by
        have h9 : y * (2 * k) ≤ 9 * U6 * 402 := Nat.mul_le_mul (by omega) (by omega)
        refine Nat.lt_of_le_of_lt h9 (b60 ?_)
        rewrite [U6_def]
        decide
      refine tb_X12_arcs_210 (c := false) ?_
      simp only [kb_X12_arcs_210, w_ald_0, w_gf_14_1, tw_f, w_bi, w_ia, w_iax, w_if_le, w_iv2, tfr_0, tfr_1, tfr_2, tfr_3, tfr_4, w_ld2, w_lld7, w_lmul, w_lc1, w_ladd, w_lst9, tkl_n, tkl_i, tkl_l, tkl_r, w_lst7, w_goto, true_and, and_true, Nat.reduceAdd, Nat.reduceSub, eq_self, tshm_14, tshm_31, tshm_32, tykm_31, tykm_32, tykm_14, tci_14, tci_15, tci_960, tshm_667, tshm_668, tshm_669, tshm_670, tykm_33, tci_700, h2k, h2k1]
      refine ⟨by omega, by omega, fun _ => by omega, fun _ => ?_⟩
      refine tc_n (D := 2) (fun d' hd' => c_times (by omega) (by omega) (by omega) (by omega) q1 q3 (sq_pw (by omega) (by omega)) hd') (by omega) ?_
      rintro M2 ⟨p1, p2⟩
      try simp only [kb_X12_arcs_210, w_ald_0, w_gf_14_1, tw_f, w_bi, w_ia, w_iax, w_if_le, w_iv2, tfr_0, tfr_1, tfr_2, tfr_3, tfr_4, w_ld2, w_lld7, w_lmul, w_lc1, w_ladd, w_lst9, tkl_n, tkl_i, tkl_l, tkl_r, w_lst7, w_goto, true_and, and_true, Nat.reduceAdd, Nat.reduceSub, eq_self, tshm_14, tshm_31, tshm_32, tykm_31, tykm_32, tykm_14, tci_14, tci_15, tci_960, tshm_667, tshm_668, tshm_669, tshm_670, tykm_33, tci_700]
      refine tc_n (D := 1) (fun d' hd' => c_shr (b := 6) (by omega) p1 (by omega) hd') (by omega) ?_
      rintro M3 ⟨p3, p4⟩
      rw [pw_6, ← hy] at p3
      try simp only [kb_X12_arcs_210, w_ald_0, w_gf_14_1, tw_f, w_bi, w_ia, w_iax, w_if_le, w_iv2, tfr_0, tfr_1, tfr_2, tfr_3, tfr_4, w_ld2, w_lld7, w_lmul, w_lc1, w_ladd, w_lst9, tkl_n, tkl_i, tkl_l, tkl_r, w_lst7, w_goto, true_and, and_true, Nat.reduceAdd, Nat.reduceSub, eq_self, tshm_14, tshm_31, tshm_32, tykm_31, tykm_32, tykm_14, tci_14, tci_15, tci_960, tshm_667, tshm_668, tshm_669, tshm_670, tykm_33, tci_700, h2k, h2k1]
      refine tc_n (D := 1) (fun d' hd' => c_scales (b := 2 * k) (by omega) p3 (by omega) hsc hd') (by omega) ?_
      rintro M4 ⟨p5, p6⟩
      try simp only [kb_X12_arcs_210, w_ald_0, w_gf_14_1, tw_f, w_bi, w_ia, w_iax, w_if_le, w_iv2, tfr_0, tfr_1, tfr_2, tfr_3, tfr_4, w_ld2, w_lld7, w_lmul, w_lc1, w_ladd, w_lst9, tkl_n, tkl_i, tkl_l, tkl_r, w_lst7, w_goto, true_and, and_true, Nat.reduceAdd, Nat.reduceSub, eq_self, tshm_14, tshm_31, tshm_32, tykm_31, tykm_32, tykm_14, tci_14, tci_15, tci_960, tshm_667, tshm_668, tshm_669, tshm_670, tykm_33, tci_700, h2k, h2k1]
      refine tc_l (D := 1) (fun d' hd' => c_parts (b := 2 * k + 1) (by omega) p5 (by omega) hd') (by omega) ?_
      rintro z M5 ⟨-, p7, p8⟩
      rw [← hx] at p7
      try simp only [kb_X12_arcs_210, w_ald_0, w_gf_14_1, tw_f, w_bi, w_ia, w_iax, w_if_le, w_iv2, tfr_0, tfr_1, tfr_2, tfr_3, tfr_4, w_ld2, w_lld7, w_lmul, w_lc1, w_ladd, w_lst9, tkl_n, tkl_i, tkl_l, tkl_r, w_lst7, w_goto, true_and, and_true, Nat.reduceAdd, Nat.reduceSub, eq_self, tshm_14, tshm_31, tshm_32, tykm_31, tykm_32, tykm_14, tci_14, tci_15, tci_960, tshm_667, tshm_668, tshm_669, tshm_670, tykm_33, tci_700]
      have q2' : Vr M5 8 acc := Vr_E (Vr_E (Vr_E (Vr_E q2 p2 (by omega)) p4 (by omega)) p6 (by omega)) p8 (by omega)
      refine tc_n (D := 1) (fun d' hd' => c_plus (by omega) (by omega) (by omega) q2' p7 (b60U (by omega)) hd') (by omega) ?_
      rintro M6 ⟨p9, p10⟩
      try simp only [kb_X12_arcs_210, w_ald_0, w_gf_14_1, tw_f, w_bi, w_ia, w_iax, w_if_le, w_iv2, tfr_0, tfr_1, tfr_2, tfr_3, tfr_4, w_ld2, w_lld7, w_lmul, w_lc1, w_ladd, w_lst9, tkl_n, tkl_i, tkl_l, tkl_r, w_lst7, w_goto, true_and, and_true, Nat.reduceAdd, Nat.reduceSub, eq_self, tshm_14, tshm_31, tshm_32, tykm_31, tykm_32, tykm_14, tci_14, tci_15, tci_960, tshm_667, tshm_668, tshm_669, tshm_670, tykm_33, tci_700]
      exact ih x (k + 1) (acc + x) M6 _ h1 (by omega) (by omega) (by omega) (by omega) (Vr_E p7 p10 (by omega)) p9
        (Vr_E (Vr_E (Vr_E (Vr_E (Vr_E q3 p2 (by omega)) p4 (by omega)) p6 (by omega)) p8 (by omega)) p10 (by omega))
        (qE_tr q4 (qE_tr (qx p2 (fun r hr => by unfold rEx; omega)) (qE_tr (qx p4 (fun r hr => by unfold rEx; omega)) (qE_tr (qx p6 (fun r hr => by unfold rEx; omega)) (qE_tr (qx p8 (fun r hr => by unfold rEx; omega)) (qx p10 (fun r hr => by unfold rEx; omega)))))))
end MODEL
