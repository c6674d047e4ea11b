/-! THE MODEL: the logarithm, whole. -/
theorem cmp_c (x y : Nat) : cmpv x y < 0 ∧ -1 ≤ cmpv x y ∧ x < y ∨ 0 ≤ cmpv x y ∧ cmpv x y ≤ 1 ∧ y ≤ x := by
  unfold cmpv
  split
  · left; omega
  · right
    split <;> omega
section MODEL
variable {e : tE} {d n : Nat} {M : tM}
theorem c_logs {u l up : Int} {D z : Nat} (hK : KI M) (hdg : M 664 2 = (D : Int)) (hD : D ≤ 10) (hl : 0 ≤ l ∧ l < 1000000000) (hz : 0 < z ∧ z ≤ 30000000000000000000000) (hZ : u * 1000000000 + l = (z : Int)) (hup : up = 0 ∨ up = 1) (hd : 5 ≤ d) :
    tC e d 3647 [.inr (.inr (.inl 664)), .inr (.inl u), .inr (.inl l), .inl up] M n (tQi n (fun zz M' => (zz = 1 ∧ zb M' = lgb up D z ∧ (-10000000000000000000000 < lgb up D z ∧ lgb up D z < 10000000000000000000000) ∧ cb M' ∨ zz = 0) ∧ qE rEx M M')) := by
  have hu6 := U6_pos
  obtain ⟨Q, hQ⟩ : ∃ Q : tR → tM → Nat → Prop, Q = (tQi n (fun zz M' => (zz = 1 ∧ zb M' = lgb up D z ∧ (-10000000000000000000000 < lgb up D z ∧ lgb up D z < 10000000000000000000000) ∧ cb M' ∨ zz = 0) ∧ qE rEx M M')) := ⟨_, rfl⟩
  -- the quotient and its series
  have n218 : z ≠ 10000000000 → ∀ (N0 : tM), KI N0 → N0 664 13 = 1 → qE rEx M N0 → ∀ (M1 : tM) (v6 v8 v11 : Option tV) (df : Nat), df = (if z * K4 * 2 ^ lgE (z * K4) < U6 then U6 - z * K4 * 2 ^ lgE (z * K4) else z * K4 * 2 ^ lgE (z * K4) - U6) → Vr M1 0 df → Vr M1 1 (z * K4 * 2 ^ lgE (z * K4) + U6) → qE rEx N0 M1 →
      tT e d 3647 218 [some (.inr (.inr (.inl 664))), some (.inr (.inl u)), none, some (.inr (.inl l)), none, some (.inl up), v6, some (.inl (44 - (lgE (z * K4) : Int))), v8, none, some (.inl (if z * K4 * 2 ^ lgE (z * K4) < U6 then 1 else 0)), v11, none] [] M1 n Q := by
    intro hz1 N0 k1 k2 k3 M1 v6 v8 v11 df hdf q1 q2 q4
    obtain ⟨a1, a2⟩ := lgE_in hz
    have h75 : H75 * 4 = U6 * 3 := by
      unfold H75
      rw [U6_def]
    have h15 : H15 * 2 = U6 * 3 := by
      unfold H15
      rw [U6_def]
    obtain ⟨x, hx⟩ : ∃ x, x = df * U6 / (z * K4 * 2 ^ lgE (z * K4) + U6) := ⟨_, rfl⟩
    have hN : (lgN (z * K4 * 2 ^ lgE (z * K4))).natAbs = lgS x := by
      rw [hx, hdf]
      unfold lgN
      split
      · rw [Int.natAbs_neg, Int.natAbs_natCast]
      · rw [Int.natAbs_natCast]
    have hend := l333 (e := e) (d := d) (n := n) (M := M) (u := u) (l := l) (up := up) (D := D) (z := z) (V := aS (x * x / U6) 200 x 3 x) (v6 := v6) hdg hD hup hd hz hz1 (by rw [hN]; rfl)
    rw [← hQ] at hend
    have hdf4 : df * 4 ≤ z * K4 * 2 ^ lgE (z * K4) + U6 := by
      rw [hdf]
      split <;> omega
    have hdf9 : df ≤ 9 * U6 := by omega
    have hx4 : x * 4 ≤ U6 := by
      have h1 : x * (z * K4 * 2 ^ lgE (z * K4) + U6) ≤ df * U6 := by rw [hx]; exact Nat.div_mul_le_self _ _
      have h2 : x * 4 * df ≤ U6 * df := by
        rcases Nat.eq_zero_or_pos df with h0 | h0
        · rw [h0, Nat.mul_zero, Nat.mul_zero]
          exact Nat.le_refl _
        · have h3 : x * (df * 4) ≤ x * (z * K4 * 2 ^ lgE (z * K4) + U6) := Nat.mul_le_mul_left x hdf4
          have h4 : x * 4 * df = x * (df * 4) := by rw [Nat.mul_assoc, Nat.mul_comm 4 df]
          rw [h4, Nat.mul_comm U6 df]
          omega
      rcases Nat.eq_zero_or_pos df with h0 | h0
      · rw [hx, h0, Nat.zero_mul, Nat.zero_div, Nat.zero_mul]
        exact Nat.zero_le _
      · exact Nat.le_of_mul_le_mul_right h2 h0
    have hw2 : x * x / U6 * 2 ≤ U6 := by
      have h1 : x * x ≤ x * U6 := Nat.mul_le_mul_left x (by omega)
      have h2 : x * x / U6 ≤ x := by
        calc x * x / U6 ≤ x * U6 / U6 := Nat.div_le_div_right h1
          _ = x := Nat.mul_div_cancel x hu6
      omega
    have hx200 : x < 2 ^ 200 := by
      refine Nat.lt_of_le_of_lt (show x ≤ U6 by omega) ?_
      rw [U6_def]
      decide
    generalize z * K4 * 2 ^ lgE (z * K4) = m at *
    refine tb_X12_logs_218 (c := false) ?_
    simp only [kb_X12_logs_218, w_ald_0, w_ic, w_bi, w_iv2, tfr_0, tfr_1, tfr_2, tfr_3, tfr_4, w_iv0, w_ld2, w_lst11, tkl_n, tkl_i, tkl_l, tkl_r, w_nil, true_and, and_true, Nat.reduceAdd, Nat.reduceSub, eq_self, tshm_14, tshm_31, tshm_32, tykm_31, tykm_32, tykm_14, tci_14, tci_15, tci_960, tshm_667, tshm_668, tshm_669, tshm_670, tykm_33, tci_700]
    refine tc_n (D := 1) (fun d' hd' => c_shl (b := 6) (by omega) q1 (by omega) (by rw [pw_6]; exact Nat.lt_trans (sq_pw hdf9 (by omega)) (pw_lt (by decide))) hd') (by omega) ?_
    rintro M2 ⟨p1, p2⟩
    rw [pw_6] at p1
    try simp only [kb_X12_logs_218, w_ald_0, w_ic, w_bi, w_iv2, tfr_0, tfr_1, tfr_2, tfr_3, tfr_4, w_iv0, w_ld2, w_lst11, tkl_n, tkl_i, tkl_l, tkl_r, w_nil, true_and, and_true, Nat.reduceAdd, Nat.reduceSub, eq_self, tshm_14, tshm_31, tshm_32, tykm_31, tykm_32, tykm_14, tci_14, tci_15, tci_960, tshm_667, tshm_668, tshm_669, tshm_670, tykm_33, tci_700]
    refine tc_n (D := 2) (fun d' hd' => c_divides (X := df * U6) (Y := m + U6) p1 (Vr_E q2 p2 (by omega)) (by omega) ?_ hd') (by omega) ?_
    · have := sq_pw (x := m + U6) (y := 1) (by omega) (by omega)
      rw [Nat.mul_one] at this
      exact this
    rintro M3 ⟨p3, -, p4⟩
    rw [← hx] at p3
    try simp only [kb_X12_logs_218, w_ald_0, w_ic, w_bi, w_iv2, tfr_0, tfr_1, tfr_2, tfr_3, tfr_4, w_iv0, w_ld2, w_lst11, tkl_n, tkl_i, tkl_l, tkl_r, w_nil, true_and, and_true, Nat.reduceAdd, Nat.reduceSub, eq_self, tshm_14, tshm_31, tshm_32, tykm_31, tykm_32, tykm_14, tci_14, tci_15, tci_960, tshm_667, tshm_668, tshm_669, tshm_670, tykm_33, tci_700]
    refine tc_n (D := 1) (fun d' hd' => c_copies (a := 2) (b := 7) (x := x) (by omega) (by omega) (by omega) p3 hd') (by omega) ?_
    rintro M4 ⟨p5, p6⟩
    try simp only [kb_X12_logs_218, w_ald_0, w_ic, w_bi, w_iv2, tfr_0, tfr_1, tfr_2, tfr_3, tfr_4, w_iv0, w_ld2, w_lst11, tkl_n, tkl_i, tkl_l, tkl_r, w_nil, true_and, and_true, Nat.reduceAdd, Nat.reduceSub, eq_self, tshm_14, tshm_31, tshm_32, tykm_31, tykm_32, tykm_14, tci_14, tci_15, tci_960, tshm_667, tshm_668, tshm_669, tshm_670, tykm_33, tci_700]
    have p3a : Vr M4 2 x := Vr_E p3 p6 (by omega)
    refine tc_n (D := 1) (fun d' hd' => c_copies (a := 2) (b := 8) (x := x) (by omega) (by omega) (by omega) p3a hd') (by omega) ?_
    rintro M5 ⟨p7, p8⟩
    try simp only [kb_X12_logs_218, w_ald_0, w_ic, w_bi, w_iv2, tfr_0, tfr_1, tfr_2, tfr_3, tfr_4, w_iv0, w_ld2, w_lst11, tkl_n, tkl_i, tkl_l, tkl_r, w_nil, true_and, and_true, Nat.reduceAdd, Nat.reduceSub, eq_self, tshm_14, tshm_31, tshm_32, tykm_31, tykm_32, tykm_14, tci_14, tci_15, tci_960, tshm_667, tshm_668, tshm_669, tshm_670, tykm_33, tci_700]
    have p3b : Vr M5 2 x := Vr_E p3a p8 (by omega)
    refine tc_n (D := 1) (fun d' hd' => c_copies (a := 2) (b := 10) (x := x) (by omega) (by omega) (by omega) p3b hd') (by omega) ?_
    rintro M6 ⟨p9, p10⟩
    try simp only [kb_X12_logs_218, w_ald_0, w_ic, w_bi, w_iv2, tfr_0, tfr_1, tfr_2, tfr_3, tfr_4, w_iv0, w_ld2, w_lst11, tkl_n, tkl_i, tkl_l, tkl_r, w_nil, true_and, and_true, Nat.reduceAdd, Nat.reduceSub, eq_self, tshm_14, tshm_31, tshm_32, tykm_31, tykm_32, tykm_14, tci_14, tci_15, tci_960, tshm_667, tshm_668, tshm_669, tshm_670, tykm_33, tci_700]
    refine tc_n (D := 2) (fun d' hd' => c_times (by omega) (by omega) (by omega) (by omega) p9 (Vr_E p3b p10 (by omega)) (sq_pw (by omega) (by omega)) hd') (by omega) ?_
    rintro M7 ⟨p11, p12⟩
    try simp only [kb_X12_logs_218, w_ald_0, w_ic, w_bi, w_iv2, tfr_0, tfr_1, tfr_2, tfr_3, tfr_4, w_iv0, w_ld2, w_lst11, tkl_n, tkl_i, tkl_l, tkl_r, w_nil, true_and, and_true, Nat.reduceAdd, Nat.reduceSub, eq_self, tshm_14, tshm_31, tshm_32, tykm_31, tykm_32, tykm_14, tci_14, tci_15, tci_960, tshm_667, tshm_668, tshm_669, tshm_670, tykm_33, tci_700]
    refine tc_n (D := 1) (fun d' hd' => c_shr (b := 6) (by omega) p11 (by omega) hd') (by omega) ?_
    rintro M8 ⟨p13, p14⟩
    rw [pw_6] at p13
    try simp only [kb_X12_logs_218, w_ald_0, w_ic, w_bi, w_iv2, tfr_0, tfr_1, tfr_2, tfr_3, tfr_4, w_iv0, w_ld2, w_lst11, tkl_n, tkl_i, tkl_l, tkl_r, w_nil, true_and, and_true, Nat.reduceAdd, Nat.reduceSub, eq_self, tshm_14, tshm_31, tshm_32, tykm_31, tykm_32, tykm_14, tci_14, tci_15, tci_960, tshm_667, tshm_668, tshm_669, tshm_670, tykm_33, tci_700]
    have w8 : qE rEx M1 M8 := qE_tr (qx p2 (fun r hr => by unfold rEx; omega)) (qE_tr (qx p4 (fun r hr => by unfold rEx; omega)) (qE_tr (qx p6 (fun r hr => by unfold rEx; omega)) (qE_tr (qx p8 (fun r hr => by unfold rEx; omega)) (qE_tr (qx p10 (fun r hr => by unfold rEx; omega)) (qE_tr (qx p12 (fun r hr => by unfold rEx; omega)) (qx p14 (fun r hr => by unfold rEx; omega)))))))
    exact l_logs (a := 0) hw2 (by omega) (fun M' v8 k r1 _ r3 => hend M' v8 k r1 ((r3.2.1 k1).2.2.1 (r3.2.2.2.1 k2)) (qE_tr k3 r3)) 200 x 3 x M8 _ rfl hx200 rfl (by omega) (by omega) (Vr_E (Vr_E (Vr_E (Vr_E p5 p8 (by omega)) p10 (by omega)) p12 (by omega)) p14 (by omega)) (Vr_E (Vr_E (Vr_E p7 p10 (by omega)) p12 (by omega)) p14 (by omega)) p13 (qE_tr q4 w8)
  -- below 1 or not
  have n164 : z ≠ 10000000000 → ∀ (N0 : tM), KI N0 → N0 664 13 = 1 → qE rEx M N0 → ∀ (M1 : tM) (v6 v8 v10 v11 : Option tV), Vr M1 8 (z * K4 * 2 ^ lgE (z * K4)) → Vr M1 7 U6 → qE rEx N0 M1 →
      tT e d 3647 164 [some (.inr (.inr (.inl 664))), some (.inr (.inl u)), none, some (.inr (.inl l)), none, some (.inl up), v6, some (.inl (44 - (lgE (z * K4) : Int))), v8, none, v10, v11, none] [.inl (if z * K4 * 2 ^ lgE (z * K4) < U6 then 1 else 0)] M1 n Q := by
    intro hz1 N0 k1 k2 k3 M1 v6 v8 v10 v11 q1 q2 q3
    have g := n218 hz1 N0 k1 k2 k3
    obtain ⟨a1, a2⟩ := lgE_in hz
    have h15 : H15 * 2 = U6 * 3 := by
      unfold H15
      rw [U6_def]
    generalize z * K4 * 2 ^ lgE (z * K4) = m at *
    refine tb_X12_logs_164 (c := false) ?_
    simp only [kb_X12_logs_164, w_ist10, tkl_n, tkl_i, tkl_l, tkl_r, w_ald_0, w_bi, w_ic, w_iv2, tfr_0, tfr_1, tfr_2, tfr_3, tfr_4, w_ild10, w_if_eq, w_goto, true_and, and_true, Nat.reduceAdd, Nat.reduceSub, eq_self, tshm_14, tshm_31, tshm_32, tykm_31, tykm_32, tykm_14, tci_14, tci_15, tci_960, tshm_667, tshm_668, tshm_669, tshm_670, tykm_33, tci_700]
    refine tc_n (D := 1) (fun d' hd' => c_copies (a := 8) (b := 1) (x := m) (by omega) (by omega) (by omega) q1 hd') (by omega) ?_
    rintro M2 ⟨p1, p2⟩
    try simp only [kb_X12_logs_164, w_ist10, tkl_n, tkl_i, tkl_l, tkl_r, w_ald_0, w_bi, w_ic, w_iv2, tfr_0, tfr_1, tfr_2, tfr_3, tfr_4, w_ild10, w_if_eq, w_goto, true_and, and_true, Nat.reduceAdd, Nat.reduceSub, eq_self, tshm_14, tshm_31, tshm_32, tykm_31, tykm_32, tykm_14, tci_14, tci_15, tci_960, tshm_667, tshm_668, tshm_669, tshm_670, tykm_33, tci_700]
    refine tc_n (D := 1) (fun d' hd' => c_plus (by omega) (by omega) (by omega) p1 (Vr_E q2 p2 (by omega)) (b60U (by omega)) hd') (by omega) ?_
    rintro M3 ⟨p3, p4⟩
    have q1' : Vr M3 8 m := Vr_E (Vr_E q1 p2 (by omega)) p4 (by omega)
    have q2' : Vr M3 7 U6 := Vr_E (Vr_E q2 p2 (by omega)) p4 (by omega)
    have w3 : qE rEx N0 M3 := qE_tr q3 (qE_tr (qx p2 (fun r hr => by unfold rEx; omega)) (qx p4 (fun r hr => by unfold rEx; omega)))
    try simp only [kb_X12_logs_164, w_ist10, tkl_n, tkl_i, tkl_l, tkl_r, w_ald_0, w_bi, w_ic, w_iv2, tfr_0, tfr_1, tfr_2, tfr_3, tfr_4, w_ild10, w_if_eq, w_goto, true_and, and_true, Nat.reduceAdd, Nat.reduceSub, eq_self, tshm_14, tshm_31, tshm_32, tykm_31, tykm_32, tykm_14, tci_14, tci_15, tci_960, tshm_667, tshm_668, tshm_669, tshm_670, tykm_33, tci_700]
    by_cases hm : m < U6
    · simp only [if_pos hm] at g ⊢
      refine ⟨by omega, fun h => absurd h (by decide), fun _ => ?_⟩
      refine tc_n (D := 1) (fun d' hd' => c_less (by omega) (by omega) (by omega) q2' q1' (by omega) hd') (by omega) ?_
      rintro M4 ⟨p5, p6⟩
      try simp only [kb_X12_logs_164, w_ist10, tkl_n, tkl_i, tkl_l, tkl_r, w_ald_0, w_bi, w_ic, w_iv2, tfr_0, tfr_1, tfr_2, tfr_3, tfr_4, w_ild10, w_if_eq, w_goto, true_and, and_true, Nat.reduceAdd, Nat.reduceSub, eq_self, tshm_14, tshm_31, tshm_32, tykm_31, tykm_32, tykm_14, tci_14, tci_15, tci_960, tshm_667, tshm_668, tshm_669, tshm_670, tykm_33, tci_700]
      refine tc_n (D := 1) (fun d' hd' => c_copies (a := 7) (b := 0) (x := U6 - m) (by omega) (by omega) (by omega) p5 hd') (by omega) ?_
      rintro M5 ⟨p7, p8⟩
      try simp only [kb_X12_logs_164, w_ist10, tkl_n, tkl_i, tkl_l, tkl_r, w_ald_0, w_bi, w_ic, w_iv2, tfr_0, tfr_1, tfr_2, tfr_3, tfr_4, w_ild10, w_if_eq, w_goto, true_and, and_true, Nat.reduceAdd, Nat.reduceSub, eq_self, tshm_14, tshm_31, tshm_32, tykm_31, tykm_32, tykm_14, tci_14, tci_15, tci_960, tshm_667, tshm_668, tshm_669, tshm_670, tykm_33, tci_700]
      exact g M5 _ _ _ _ rfl p7 (Vr_E (Vr_E p3 p6 (by omega)) p8 (by omega)) (qE_tr w3 (qE_tr (qx p6 (fun r hr => by unfold rEx; omega)) (qx p8 (fun r hr => by unfold rEx; omega))))
    · simp only [if_neg hm] at g ⊢
      refine ⟨by omega, fun _ => ?_, fun h => absurd trivial h⟩
      refine tb_X12_logs_203 (c := false) ?_
      simp only [kb_X12_logs_203, w_ald_0, w_bi, w_iv2, tfr_0, tfr_1, tfr_2, tfr_3, tfr_4, w_ic, w_nil, true_and, and_true, Nat.reduceAdd, Nat.reduceSub, eq_self, tshm_14, tshm_31, tshm_32, tykm_31, tykm_32, tykm_14, tci_14, tci_15, tci_960, tshm_667, tshm_668, tshm_669, tshm_670, tykm_33, tci_700]
      refine tc_n (D := 1) (fun d' hd' => c_less (by omega) (by omega) (by omega) q1' q2' (by omega) hd') (by omega) ?_
      rintro M4 ⟨p5, p6⟩
      try simp only [kb_X12_logs_203, w_ald_0, w_bi, w_iv2, tfr_0, tfr_1, tfr_2, tfr_3, tfr_4, w_ic, w_nil, true_and, and_true, Nat.reduceAdd, Nat.reduceSub, eq_self, tshm_14, tshm_31, tshm_32, tykm_31, tykm_32, tykm_14, tci_14, tci_15, tci_960, tshm_667, tshm_668, tshm_669, tshm_670, tykm_33, tci_700]
      refine tc_n (D := 1) (fun d' hd' => c_copies (a := 8) (b := 0) (x := m - U6) (by omega) (by omega) (by omega) p5 hd') (by omega) ?_
      rintro M5 ⟨p7, p8⟩
      try simp only [kb_X12_logs_203, w_ald_0, w_bi, w_iv2, tfr_0, tfr_1, tfr_2, tfr_3, tfr_4, w_ic, w_nil, true_and, and_true, Nat.reduceAdd, Nat.reduceSub, eq_self, tshm_14, tshm_31, tshm_32, tykm_31, tykm_32, tykm_14, tci_14, tci_15, tci_960, tshm_667, tshm_668, tshm_669, tshm_670, tykm_33, tci_700]
      exact g M5 _ _ _ _ rfl p7 (Vr_E (Vr_E p3 p6 (by omega)) p8 (by omega)) (qE_tr w3 (qE_tr (qx p6 (fun r hr => by unfold rEx; omega)) (qx p8 (fun r hr => by unfold rEx; omega))))
  have n142 : z ≠ 10000000000 → ∀ (N0 : tM), KI N0 → N0 664 13 = 1 → qE rEx M N0 → ∀ (M1 : tM) (v6 v8 v10 v11 : Option tV), Vr M1 8 (z * K4 * 2 ^ lgE (z * K4)) → qE rEx N0 M1 →
      tT e d 3647 142 [some (.inr (.inr (.inl 664))), some (.inr (.inl u)), none, some (.inr (.inl l)), none, some (.inl up), v6, some (.inl (44 - (lgE (z * K4) : Int))), v8, none, v10, v11, none] [] M1 n Q := by
    intro hz1 N0 k1 k2 k3 M1 v6 v8 v10 v11 q1 q3
    refine tb_X12_logs_142 (c := false) ?_
    simp only [kb_X12_logs_142, w_ald_0, w_bi, w_iv1, tfr_0, tfr_1, tfr_2, tfr_3, tfr_4, w_iv2, w_if_ge, w_ic, w_goto, true_and, and_true, Nat.reduceAdd, Nat.reduceSub, eq_self, tshm_14, tshm_31, tshm_32, tykm_31, tykm_32, tykm_14, tci_14, tci_15, tci_960, tshm_667, tshm_668, tshm_669, tshm_670, tykm_33, tci_700]
    refine tc_n (D := 2) (fun d' hd' => c_unit (row := 7) (by omega) hd') (by omega) ?_
    rintro M2 ⟨p1, p2⟩
    try simp only [kb_X12_logs_142, w_ald_0, w_bi, w_iv1, tfr_0, tfr_1, tfr_2, tfr_3, tfr_4, w_iv2, w_if_ge, w_ic, w_goto, true_and, and_true, Nat.reduceAdd, Nat.reduceSub, eq_self, tshm_14, tshm_31, tshm_32, tykm_31, tykm_32, tykm_14, tci_14, tci_15, tci_960, tshm_667, tshm_668, tshm_669, tshm_670, tykm_33, tci_700]
    have q1' := Vr_E q1 p2 (by omega)
    have g := n164 hz1 N0 k1 k2 k3 M2 v6 v8 v10 v11 q1' p1 (qE_tr q3 (qx p2 (fun r hr => by unfold rEx; omega)))
    refine tc_i (D := 1) (fun d' hd' => c_compares (by omega) (by omega) q1' p1 hd') (by omega) ?_
    rintro zz _ ⟨rfl, rfl⟩
    try simp only [kb_X12_logs_142, w_ald_0, w_bi, w_iv1, tfr_0, tfr_1, tfr_2, tfr_3, tfr_4, w_iv2, w_if_ge, w_ic, w_goto, true_and, and_true, Nat.reduceAdd, Nat.reduceSub, eq_self, tshm_14, tshm_31, tshm_32, tykm_31, tykm_32, tykm_14, tci_14, tci_15, tci_960, tshm_667, tshm_668, tshm_669, tshm_670, tykm_33, tci_700]
    have hc := cmp_c (z * K4 * 2 ^ lgE (z * K4)) U6
    refine ⟨by omega, fun h => ?_, fun h => ?_⟩
    · rw [if_neg (by omega)] at g
      refine tb_X12_logs_163 (c := false) ?_
      simp only [kb_X12_logs_163, w_ic, w_nil, true_and, and_true, Nat.reduceAdd, Nat.reduceSub, eq_self]
      exact g
    · rw [if_pos (by omega)] at g
      exact g
  have n116 : z ≠ 10000000000 → ∀ (N0 : tM), KI N0 → N0 664 13 = 1 → qE rEx M N0 → ∀ (f E : Nat) (M1 : tM) (w6 : Int) (v8 v10 v11 : Option tV), upE (z * K4) f E = lgE (z * K4) → H75 ≤ z * K4 * 2 ^ (E + f) → z * K4 * 2 ^ E < H15 → E + f ≤ 84 → Vr M1 8 (z * K4 * 2 ^ E) → Vr M1 9 H75 → qE rEx N0 M1 →
      tT e d 3647 116 [some (.inr (.inr (.inl 664))), some (.inr (.inl u)), none, some (.inr (.inl l)), none, some (.inl up), some (.inl w6), some (.inl (44 - (E : Int))), v8, none, v10, v11, none] [] M1 n Q := by
    intro hz1 N0 k1 k2 k3 f
    have h15 : H15 * 2 = U6 * 3 := by
      unfold H15
      rw [U6_def]
    induction f with
    | zero =>
      intro E M1 w6 v8 v10 v11 h1 h2 h3 h4 q1 q2 q3
      have h5 : E = lgE (z * K4) := h1
      have h6 : H75 ≤ z * K4 * 2 ^ E := h2
      have g := n142 hz1 N0 k1 k2 k3 M1 (some (.inl w6)) v8 v10 v11 (by rw [← h5]; exact q1) q3
      rw [← h5] at g
      have hc := cmp_c (z * K4 * 2 ^ E) H75
      refine tb_X12_logs_116 (c := false) ?_
      simp only [kb_X12_logs_116, w_ald_0, w_bi, w_iv2, tfr_0, tfr_1, tfr_2, tfr_3, tfr_4, w_if_ge, w_ld2, w_inc7, tkl_n, tkl_i, tkl_l, tkl_r, w_goto, true_and, and_true, Nat.reduceAdd, Nat.reduceSub, eq_self, tshm_14, tshm_31, tshm_32, tykm_31, tykm_32, tykm_14, tci_14, tci_15, tci_960, tshm_667, tshm_668, tshm_669, tshm_670, tykm_33, tci_700]
      refine tc_i (D := 1) (fun d' hd' => c_compares (by omega) (by omega) q1 q2 hd') (by omega) ?_
      rintro zz _ ⟨rfl, rfl⟩
      try simp only [kb_X12_logs_116, w_ald_0, w_bi, w_iv2, tfr_0, tfr_1, tfr_2, tfr_3, tfr_4, w_if_ge, w_ld2, w_inc7, tkl_n, tkl_i, tkl_l, tkl_r, w_goto, true_and, and_true, Nat.reduceAdd, Nat.reduceSub, eq_self, tshm_14, tshm_31, tshm_32, tykm_31, tykm_32, tykm_14, tci_14, tci_15, tci_960, tshm_667, tshm_668, tshm_669, tshm_670, tykm_33, tci_700]
      exact ⟨by omega, fun _ => g, fun h => by omega⟩
    | succ f ih =>
      intro E M1 w6 v8 v10 v11 h1 h2 h3 h4 q1 q2 q3
      unfold upE at h1
      have hc := cmp_c (z * K4 * 2 ^ E) H75
      refine tb_X12_logs_116 (c := false) ?_
      simp only [kb_X12_logs_116, w_ald_0, w_bi, w_iv2, tfr_0, tfr_1, tfr_2, tfr_3, tfr_4, w_if_ge, w_ld2, w_inc7, tkl_n, tkl_i, tkl_l, tkl_r, w_goto, true_and, and_true, Nat.reduceAdd, Nat.reduceSub, eq_self, tshm_14, tshm_31, tshm_32, tykm_31, tykm_32, tykm_14, tci_14, tci_15, tci_960, tshm_667, tshm_668, tshm_669, tshm_670, tykm_33, tci_700]
      refine tc_i (D := 1) (fun d' hd' => c_compares (by omega) (by omega) q1 q2 hd') (by omega) ?_
      rintro zz _ ⟨rfl, rfl⟩
      try simp only [kb_X12_logs_116, w_ald_0, w_bi, w_iv2, tfr_0, tfr_1, tfr_2, tfr_3, tfr_4, w_if_ge, w_ld2, w_inc7, tkl_n, tkl_i, tkl_l, tkl_r, w_goto, true_and, and_true, Nat.reduceAdd, Nat.reduceSub, eq_self, tshm_14, tshm_31, tshm_32, tykm_31, tykm_32, tykm_14, tci_14, tci_15, tci_960, tshm_667, tshm_668, tshm_669, tshm_670, tykm_33, tci_700]
      by_cases h6 : H75 ≤ z * K4 * 2 ^ E
      · rw [if_pos h6] at h1
        have g := n142 hz1 N0 k1 k2 k3 M1 (some (.inl w6)) v8 v10 v11 (by rw [← h1]; exact q1) q3
        rw [← h1] at g
        exact ⟨by omega, fun _ => g, fun h => by omega⟩
      · rw [if_neg h6] at h1
        refine ⟨by omega, fun h => by omega, fun _ => ?_⟩
        refine tc_n (D := 1) (fun d' hd' => c_scales (b := 2) (by omega) q1 (by omega) (b60U (by omega)) hd') (by omega) ?_
        rintro M2 ⟨p1, p2⟩
        rw [← two_p] at p1
        try simp only [kb_X12_logs_116, w_ald_0, w_bi, w_iv2, tfr_0, tfr_1, tfr_2, tfr_3, tfr_4, w_if_ge, w_ld2, w_inc7, tkl_n, tkl_i, tkl_l, tkl_r, w_goto, true_and, and_true, Nat.reduceAdd, Nat.reduceSub, eq_self, tshm_14, tshm_31, tshm_32, tykm_31, tykm_32, tykm_14, tci_14, tci_15, tci_960, tshm_667, tshm_668, tshm_669, tshm_670, tykm_33, tci_700]
        have g := ih (E + 1) M2 w6 v8 v10 v11 h1 (by rw [Nat.add_assoc, Nat.add_comm 1 f]; exact h2) (by rw [two_p, H_2]; omega) (by omega) p1 (Vr_E q2 p2 (by omega)) (qE_tr q3 (qx p2 (fun r hr => by unfold rEx; omega)))
        rw [show (44 : Int) - ((E + 1 : Nat) : Int) = 44 - (E : Int) + -1 by omega] at g
        exact g
  have n77 : z ≠ 10000000000 → ∀ (N0 : tM), KI N0 → N0 664 13 = 1 → qE rEx M N0 → ∀ (E : Nat) (M1 : tM) (w6 : Int) (v8 v10 v11 : Option tV), upE (z * K4) 40 (dnE (z * K4) E) = lgE (z * K4) → H75 ≤ z * K4 * 2 ^ (dnE (z * K4) E + 40) → E ≤ 44 → Vr M1 8 (z * K4 * 2 ^ E) → Vr M1 9 H15 → qE rEx N0 M1 →
      tT e d 3647 77 [some (.inr (.inr (.inl 664))), some (.inr (.inl u)), none, some (.inr (.inl l)), none, some (.inl up), some (.inl w6), some (.inl (44 - (E : Int))), v8, none, v10, v11, none] [] M1 n Q := by
    intro hz1 N0 k1 k2 k3 E
    have hxl : z * K4 < H15 := Nat.lt_of_le_of_lt (Nat.mul_le_mul_right _ hz.2) lg_ends.1
    have n105 : ∀ (E : Nat) (M1 : tM) (w6 : Int) (v8 v10 v11 : Option tV), E ≤ 44 → upE (z * K4) 40 E = lgE (z * K4) → H75 ≤ z * K4 * 2 ^ (E + 40) → z * K4 * 2 ^ E < H15 → Vr M1 8 (z * K4 * 2 ^ E) → Vr M1 9 H15 → qE rEx N0 M1 →
        tT e d 3647 105 [some (.inr (.inr (.inl 664))), some (.inr (.inl u)), none, some (.inr (.inl l)), none, some (.inl up), some (.inl w6), some (.inl (44 - (E : Int))), v8, none, v10, v11, none] [] M1 n Q := by
      intro E M1 w6 v8 v10 v11 h0 h1 h2 h3 q1 q2 q3
      refine tb_X12_logs_105 (c := false) ?_
      simp only [kb_X12_logs_105, w_ald_0, w_bi, w_ld2, w_iv2, tfr_0, tfr_1, tfr_2, tfr_3, tfr_4, w_lst8, tkl_n, tkl_i, tkl_l, tkl_r, w_nil, true_and, and_true, Nat.reduceAdd, Nat.reduceSub, eq_self, tshm_14, tshm_31, tshm_32, tykm_31, tykm_32, tykm_14, tci_14, tci_15, tci_960, tshm_667, tshm_668, tshm_669, tshm_670, tykm_33, tci_700]
      refine tc_l (D := 1) (fun d' hd' => c_parts (b := 2) (by omega) q2 (by omega) hd') (by omega) ?_
      rintro zz M2 ⟨-, p1, p2⟩
      try simp only [kb_X12_logs_105, w_ald_0, w_bi, w_ld2, w_iv2, tfr_0, tfr_1, tfr_2, tfr_3, tfr_4, w_lst8, tkl_n, tkl_i, tkl_l, tkl_r, w_nil, true_and, and_true, Nat.reduceAdd, Nat.reduceSub, eq_self, tshm_14, tshm_31, tshm_32, tykm_31, tykm_32, tykm_14, tci_14, tci_15, tci_960, tshm_667, tshm_668, tshm_669, tshm_670, tykm_33, tci_700]
      exact n116 hz1 N0 k1 k2 k3 40 E M2 _ _ _ _ h1 h2 h3 (by omega) (Vr_E q1 p2 (by omega)) p1 (qE_tr q3 (qx p2 (fun r hr => by unfold rEx; omega)))
    induction E with
    | zero =>
      intro M1 w6 v8 v10 v11 h1 h2 h3 q1 q2 q3
      have h4 : z * K4 * 2 ^ 0 < H15 := by
        rw [Nat.pow_zero, Nat.mul_one]
        exact hxl
      have hc := cmp_c (z * K4 * 2 ^ 0) H15
      have g := n105 0 M1 w6 v8 v10 v11 (by omega) h1 h2 h4 q1 q2 q3
      refine tb_X12_logs_77 (c := false) ?_
      simp only [kb_X12_logs_77, w_ald_0, w_bi, w_iv2, tfr_0, tfr_1, tfr_2, tfr_3, tfr_4, w_if_lt, w_ld2, w_lst8, tkl_n, tkl_i, tkl_l, tkl_r, w_inc7, w_goto, true_and, and_true, Nat.reduceAdd, Nat.reduceSub, eq_self, tshm_14, tshm_31, tshm_32, tykm_31, tykm_32, tykm_14, tci_14, tci_15, tci_960, tshm_667, tshm_668, tshm_669, tshm_670, tykm_33, tci_700]
      refine tc_i (D := 1) (fun d' hd' => c_compares (by omega) (by omega) q1 q2 hd') (by omega) ?_
      rintro zz _ ⟨rfl, rfl⟩
      try simp only [kb_X12_logs_77, w_ald_0, w_bi, w_iv2, tfr_0, tfr_1, tfr_2, tfr_3, tfr_4, w_if_lt, w_ld2, w_lst8, tkl_n, tkl_i, tkl_l, tkl_r, w_inc7, w_goto, true_and, and_true, Nat.reduceAdd, Nat.reduceSub, eq_self, tshm_14, tshm_31, tshm_32, tykm_31, tykm_32, tykm_14, tci_14, tci_15, tci_960, tshm_667, tshm_668, tshm_669, tshm_670, tykm_33, tci_700]
      exact ⟨by omega, fun _ => g, fun h => by omega⟩
    | succ E ih =>
      intro M1 w6 v8 v10 v11 h1 h2 h3 q1 q2 q3
      have hc := cmp_c (z * K4 * 2 ^ (E + 1)) H15
      unfold dnE at h1 h2
      refine tb_X12_logs_77 (c := false) ?_
      simp only [kb_X12_logs_77, w_ald_0, w_bi, w_iv2, tfr_0, tfr_1, tfr_2, tfr_3, tfr_4, w_if_lt, w_ld2, w_lst8, tkl_n, tkl_i, tkl_l, tkl_r, w_inc7, w_goto, true_and, and_true, Nat.reduceAdd, Nat.reduceSub, eq_self, tshm_14, tshm_31, tshm_32, tykm_31, tykm_32, tykm_14, tci_14, tci_15, tci_960, tshm_667, tshm_668, tshm_669, tshm_670, tykm_33, tci_700]
      refine tc_i (D := 1) (fun d' hd' => c_compares (by omega) (by omega) q1 q2 hd') (by omega) ?_
      rintro zz _ ⟨rfl, rfl⟩
      try simp only [kb_X12_logs_77, w_ald_0, w_bi, w_iv2, tfr_0, tfr_1, tfr_2, tfr_3, tfr_4, w_if_lt, w_ld2, w_lst8, tkl_n, tkl_i, tkl_l, tkl_r, w_inc7, w_goto, true_and, and_true, Nat.reduceAdd, Nat.reduceSub, eq_self, tshm_14, tshm_31, tshm_32, tykm_31, tykm_32, tykm_14, tci_14, tci_15, tci_960, tshm_667, tshm_668, tshm_669, tshm_670, tykm_33, tci_700]
      by_cases h6 : z * K4 * 2 ^ (E + 1) < H15
      · rw [if_pos h6] at h1 h2
        have g := n105 (E + 1) M1 w6 v8 v10 v11 (by omega) h1 h2 h6 q1 q2 q3
        exact ⟨by omega, fun _ => g, fun h => by omega⟩
      · rw [if_neg h6] at h1 h2
        refine ⟨by omega, fun h => by omega, fun _ => ?_⟩
        refine tc_l (D := 1) (fun d' hd' => c_parts (b := 2) (by omega) q1 (by omega) hd') (by omega) ?_
        rintro z9 M2 ⟨-, p1, p2⟩
        rw [two_p, Nat.mul_div_cancel _ (show 0 < 2 by decide)] at p1
        have g := ih M2 w6 (some (.inr (.inl z9))) v10 v11 h1 h2 (by omega) p1 (Vr_E q2 p2 (by omega)) (qE_tr q3 (qx p2 (fun r hr => by unfold rEx; omega)))
        rw [show (44 : Int) - (E : Int) = 44 - ((E + 1 : Nat) : Int) + 1 by omega] at g
        try simp only [kb_X12_logs_77, w_ald_0, w_bi, w_iv2, tfr_0, tfr_1, tfr_2, tfr_3, tfr_4, w_if_lt, w_ld2, w_lst8, tkl_n, tkl_i, tkl_l, tkl_r, w_inc7, w_goto, true_and, and_true, Nat.reduceAdd, Nat.reduceSub, eq_self, tshm_14, tshm_31, tshm_32, tykm_31, tykm_32, tykm_14, tci_14, tci_15, tci_960, tshm_667, tshm_668, tshm_669, tshm_670, tykm_33, tci_700]
        exact g
  have n26 : z ≠ 10000000000 → tT e d 3647 26 [some (.inr (.inr (.inl 664))), some (.inr (.inl u)), none, some (.inr (.inl l)), none, some (.inl up), none, none, none, none, none, none, none] [] M n Q := by
    intro hz1
    have hxl : z * K4 < H15 := Nat.lt_of_le_of_lt (Nat.mul_le_mul_right _ hz.2) lg_ends.1
    have hsz : (u * 1000000000 + l).natAbs = z := by rw [hZ, Int.natAbs_natCast]
    refine tb_X12_logs_26 (c := false) ?_
    simp only [kb_X12_logs_26, w_ald_0, w_iv0, tfr_0, tfr_1, tfr_2, tfr_3, tfr_4, w_bi, w_lld_1, w_lld_3, w_iv3, w_iv2, w_ist6, tkl_n, tkl_i, tkl_l, tkl_r, w_ic, w_ist7, w_iv1, w_ld2, w_lst8, w_nil, true_and, and_true, Nat.reduceAdd, Nat.reduceSub, eq_self, tshm_14, tshm_31, tshm_32, tykm_31, tykm_32, tykm_14, tci_14, tci_15, tci_960, tshm_667, tshm_668, tshm_669, tshm_670, tykm_33, tci_700]
    refine tc_n (D := 4) (fun d' hd' => c_needsLog hK hd') (by omega) ?_
    rintro N0 ⟨k2, -, k3⟩
    have w0 : qE rEx M N0 := qE_mono k3 (fun r hr => by unfold rPi at hr; unfold rEx; omega)
    have k1 : KI N0 := k3.2.1 hK
    try simp only [kb_X12_logs_26, w_ald_0, w_iv0, tfr_0, tfr_1, tfr_2, tfr_3, tfr_4, w_bi, w_lld_1, w_lld_3, w_iv3, w_iv2, w_ist6, tkl_n, tkl_i, tkl_l, tkl_r, w_ic, w_ist7, w_iv1, w_ld2, w_lst8, w_nil, true_and, and_true, Nat.reduceAdd, Nat.reduceSub, eq_self, tshm_14, tshm_31, tshm_32, tykm_31, tykm_32, tykm_14, tci_14, tci_15, tci_960, tshm_667, tshm_668, tshm_669, tshm_670, tykm_33, tci_700]
    refine tc_n (D := 2) (fun d' hd' => c_size (row := 8) (by omega) hl (by omega) hd') (by omega) ?_
    rintro M2 ⟨p1, p2⟩
    rw [hsz] at p1
    try simp only [kb_X12_logs_26, w_ald_0, w_iv0, tfr_0, tfr_1, tfr_2, tfr_3, tfr_4, w_bi, w_lld_1, w_lld_3, w_iv3, w_iv2, w_ist6, tkl_n, tkl_i, tkl_l, tkl_r, w_ic, w_ist7, w_iv1, w_ld2, w_lst8, w_nil, true_and, and_true, Nat.reduceAdd, Nat.reduceSub, eq_self, tshm_14, tshm_31, tshm_32, tykm_31, tykm_32, tykm_14, tci_14, tci_15, tci_960, tshm_667, tshm_668, tshm_669, tshm_670, tykm_33, tci_700]
    have hb : z * tn 44 < pw 62 := by
      have h1 : z * tn 44 ≤ tn 23 * tn 44 := Nat.mul_le_mul_right _ (Nat.le_trans hz.2 (by rw [tn_def]; decide))
      rw [← tn_add] at h1
      exact Nat.lt_of_le_of_lt h1 (tn_pw (by decide))
    refine tc_i (D := 2) (fun d' hd' => c_tens (a := 8) (b := 44) (by omega) p1 (by omega) hb hd') (by omega) ?_
    rintro z6 M3 ⟨-, p3, p4⟩
    rw [← U4_tn, ← K4_U4, ← Nat.mul_assoc] at p3
    try simp only [kb_X12_logs_26, w_ald_0, w_iv0, tfr_0, tfr_1, tfr_2, tfr_3, tfr_4, w_bi, w_lld_1, w_lld_3, w_iv3, w_iv2, w_ist6, tkl_n, tkl_i, tkl_l, tkl_r, w_ic, w_ist7, w_iv1, w_ld2, w_lst8, w_nil, true_and, and_true, Nat.reduceAdd, Nat.reduceSub, eq_self, tshm_14, tshm_31, tshm_32, tykm_31, tykm_32, tykm_14, tci_14, tci_15, tci_960, tshm_667, tshm_668, tshm_669, tshm_670, tykm_33, tci_700]
    refine tc_n (D := 2) (fun d' hd' => c_unit (row := 9) (by omega) hd') (by omega) ?_
    rintro M4 ⟨p5, p6⟩
    try simp only [kb_X12_logs_26, w_ald_0, w_iv0, tfr_0, tfr_1, tfr_2, tfr_3, tfr_4, w_bi, w_lld_1, w_lld_3, w_iv3, w_iv2, w_ist6, tkl_n, tkl_i, tkl_l, tkl_r, w_ic, w_ist7, w_iv1, w_ld2, w_lst8, w_nil, true_and, and_true, Nat.reduceAdd, Nat.reduceSub, eq_self, tshm_14, tshm_31, tshm_32, tykm_31, tykm_32, tykm_14, tci_14, tci_15, tci_960, tshm_667, tshm_668, tshm_669, tshm_670, tykm_33, tci_700]
    refine tc_n (D := 1) (fun d' hd' => c_scales (b := 3) (by omega) p5 (by omega) (b60U (by omega)) hd') (by omega) ?_
    rintro M5 ⟨p7, p8⟩
    try simp only [kb_X12_logs_26, w_ald_0, w_iv0, tfr_0, tfr_1, tfr_2, tfr_3, tfr_4, w_bi, w_lld_1, w_lld_3, w_iv3, w_iv2, w_ist6, tkl_n, tkl_i, tkl_l, tkl_r, w_ic, w_ist7, w_iv1, w_ld2, w_lst8, w_nil, true_and, and_true, Nat.reduceAdd, Nat.reduceSub, eq_self, tshm_14, tshm_31, tshm_32, tykm_31, tykm_32, tykm_14, tci_14, tci_15, tci_960, tshm_667, tshm_668, tshm_669, tshm_670, tykm_33, tci_700]
    refine tc_l (D := 1) (fun d' hd' => c_parts (b := 2) (by omega) p7 (by omega) hd') (by omega) ?_
    rintro z9 M6 ⟨-, p9, p10⟩
    try simp only [kb_X12_logs_26, w_ald_0, w_iv0, tfr_0, tfr_1, tfr_2, tfr_3, tfr_4, w_bi, w_lld_1, w_lld_3, w_iv3, w_iv2, w_ist6, tkl_n, tkl_i, tkl_l, tkl_r, w_ic, w_ist7, w_iv1, w_ld2, w_lst8, w_nil, true_and, and_true, Nat.reduceAdd, Nat.reduceSub, eq_self, tshm_14, tshm_31, tshm_32, tykm_31, tykm_32, tykm_14, tci_14, tci_15, tci_960, tshm_667, tshm_668, tshm_669, tshm_670, tykm_33, tci_700]
    have hge : H75 ≤ z * K4 * 2 ^ (dnE (z * K4) 44 + 40) := by
      rcases dnE_ge (x := z * K4) 44 with q | q
      · rw [q]
        exact Nat.le_trans lg_ends.2 (Nat.mul_le_mul_right _ (Nat.le_mul_of_pos_left _ hz.1))
      · refine Nat.le_trans q (Nat.mul_le_mul_left _ (Nat.pow_le_pow_right (by decide) (by omega)))
    exact n77 hz1 N0 k1 k2 w0 44 M6 _ _ _ _ rfl hge (by omega) (Vr_E (Vr_E (Vr_E p3 p6 (by omega)) p8 (by omega)) p10 (by omega)) p9 (qE_tr (qx p2 (fun r hr => by unfold rEx; omega)) (qE_tr (qx p4 (fun r hr => by unfold rEx; omega)) (qE_tr (qx p6 (fun r hr => by unfold rEx; omega)) (qE_tr (qx p8 (fun r hr => by unfold rEx; omega)) (qx p10 (fun r hr => by unfold rEx; omega))))))
  rw [← hQ]
  refine tst_X12_logs ?_
  refine tb_X12_logs_0 (c := false) ?_
  simp only [kb_X12_logs_0, w_lld_1, w_ld2, w_lcmp, ne_eq, tlc_r, tlc_eq, tlc_lt, tlc_ge, tlc_gt, tlc_le, w_if_ne, w_lld_3, w_lc0, w_ald_0, w_pf_14_4, w_pf_14_5, w_ic, w_ire, trg, true_and, and_true, Nat.reduceAdd, Nat.reduceSub, eq_self, tshm_14, tshm_31, tshm_32, tykm_31, tykm_32, tykm_14, tci_14, tci_15, tci_960, tshm_667, tshm_668, tshm_669, tshm_670, tykm_33, tci_700]
  refine ⟨by omega, fun h => n26 (by omega), fun h => ?_⟩
  refine ⟨by omega, fun h2 => n26 (by omega), fun h2 => ?_⟩
  have hz0 : z = 10000000000 := by omega
  have k1 : zb (tU (tU M 664 4 0) 664 5 0) = 0 := by
    unfold zb
    rw [u5_4, u4_4, u5_5]
    rfl
  have k2 : lgb up D z = 0 := by
    unfold lgb
    rw [if_pos hz0]
  rw [hQ]
  refine ⟨by omega, _, rfl, rfl, Or.inl ⟨rfl, by rw [k1, k2], by rw [k2]; omega, ?_⟩, qE_U (rU_u (uE_tr uE_4 uE_5)) rEx_n.1 rEx_n.2.1 rEx_n.2.2⟩
  unfold cb
  rw [u5_4, u4_4, u5_5]
  omega
end MODEL
