/-! THE MODEL: the logarithm's end. -/
theorem dnE_le (x : Nat) : ∀ E, dnE x E ≤ E := by
  intro E
  induction E with
  | zero => exact Nat.le_refl _
  | succ E ih =>
    unfold dnE
    split
    · exact Nat.le_refl _
    · omega
theorem upE_le (x : Nat) : ∀ f E, upE x f E ≤ E + f := by
  intro f
  induction f with
  | zero => exact fun E => Nat.le_refl _
  | succ f ih =>
    intro E
    unfold upE
    split
    · omega
    · have := ih (E + 1)
      omega
theorem lgE_le (x : Nat) : lgE x ≤ 84 := by
  have h1 := dnE_le x 44
  have h2 := upE_le x 40 (dnE x 44)
  unfold lgE
  omega
theorem LGc_U : LGc ≤ U6 := by rw [U6_def]; decide
section MODEL
variable {e : tE} {d n : Nat} {M : tM}
theorem l333 {u l up : Int} {D z V : Nat} {v6 : Option tV} (hdg : M 664 2 = (D : Int)) (hD : D ≤ 10) (hup : up = 0 ∨ up = 1) (hd : 5 ≤ d) (hz : 0 < z ∧ z ≤ 30000000000000000000000) (hz1 : z ≠ 10000000000) (hV : ((V * 2 : Nat) : Int) = ((lgN (z * K4 * 2 ^ lgE (z * K4))).natAbs : Int)) (M' : tM) (v8 : Option tV) (k : Int) (q1 : Vr M' 8 V) (q2 : Vr M' 12 LGc) (q3 : qE rEx M M') :
    tT e d 3647 333 [some (.inr (.inr (.inl 664))), some (.inr (.inl u)), none, some (.inr (.inl l)), none, some (.inl up), v6, some (.inl (44 - (lgE (z * K4) : Int))), v8, none, some (.inl (if z * K4 * 2 ^ lgE (z * K4) < U6 then 1 else 0)), some (.inr (.inl k)), none] [] M' n
      (tQi n (fun zz M' => (zz = 1 ∧ zb M' = lgb up D z ∧ (-10000000000000000000000 < lgb up D z ∧ lgb up D z < 10000000000000000000000) ∧ cb M' ∨ zz = 0) ∧ qE rEx M M')) := by
  obtain ⟨a1, a2⟩ := lgE_in hz
  have hE := lgE_le (z * K4)
  have hF : lgF z = lgN (z * K4 * 2 ^ lgE (z * K4)) + (LGc : Int) * (44 - (lgE (z * K4) : Int)) := rfl
  have hb := lgF_b hz
  have hN := lgN_b a1 a2
  have hs := lgN_s (z * K4 * 2 ^ lgE (z * K4))
  have hlg : lgb up D z = if lgE (z * K4) = 44 then deepb up D (lgN (z * K4 * 2 ^ lgE (z * K4))).natAbs (if z * K4 * 2 ^ lgE (z * K4) < U6 then 1 else 0) else deepb up D (lgF z).natAbs (if 44 < lgE (z * K4) then 1 else 0) := if_neg hz1
  rw [hlg]
  clear hlg
  generalize lgF z = F at *
  generalize z * K4 * 2 ^ lgE (z * K4) = m at *
  generalize lgE (z * K4) = E at *
  generalize lgN m = N at *
  have hLU := LGc_U
  have hneg : (if m < U6 then (1 : Int) else 0) = 0 ∧ ¬ m < U6 ∨ (if m < U6 then (1 : Int) else 0) = 1 ∧ m < U6 := by
    split
    · right; exact ⟨rfl, by assumption⟩
    · left; exact ⟨rfl, by assumption⟩
  generalize (if m < U6 then (1 : Int) else 0) = neg at *
  have hVL : V * 2 ≤ LGc := by omega
  have d500 : ∀ x, x ≤ 99 * U6 → x < tn 500 := fun x h => Nat.lt_of_le_of_lt h (by rw [U6_tn]; exact Nat.lt_of_le_of_lt (Nat.mul_le_mul_right _ (show 99 ≤ tn 2 by rw [tn_def]; decide)) (by rw [← tn_add]; exact tn_lt (by decide)))
  refine tb_X12_logs_333 (c := false) ?_
  simp only [kb_X12_logs_333, w_ald_0, w_bi, w_ld2, w_iv2, tfr_0, tfr_1, tfr_2, tfr_3, tfr_4, w_ild7, w_if_ne, w_ild10, w_ild5, w_iv3, w_ire, trg, true_and, and_true, Nat.reduceAdd, Nat.reduceSub, eq_self, tshm_14, tshm_31, tshm_32, tykm_31, tykm_32, tykm_14, tci_14, tci_15, tci_960, tshm_667, tshm_668, tshm_669, tshm_670, tykm_33, tci_700]
  refine tc_n (D := 1) (fun d' hd' => c_scales (b := 2) (by omega) q1 (by omega) (b60U (by omega)) hd') (by omega) ?_
  rintro M2 ⟨p1, p2⟩
  have w2 : qE rEx M M2 := qE_tr q3 (qx p2 (fun r hr => by unfold rEx; omega))
  try simp only [kb_X12_logs_333, w_ald_0, w_bi, w_ld2, w_iv2, tfr_0, tfr_1, tfr_2, tfr_3, tfr_4, w_ild7, w_if_ne, w_ild10, w_ild5, w_iv3, w_ire, trg, true_and, and_true, Nat.reduceAdd, Nat.reduceSub, eq_self, tshm_14, tshm_31, tshm_32, tykm_31, tykm_32, tykm_14, tci_14, tci_15, tci_960, tshm_667, tshm_668, tshm_669, tshm_670, tykm_33, tci_700]
  refine ⟨by omega, fun h => ?_, fun h => ?_⟩
  rotate_left
  · have hE4 : E = 44 := by omega
    refine tc_i (D := 4) (fun d' hd' => c_deep (v := V * 2) (D := D) ((qE_d w2).trans hdg) hD (by omega) p1 (d500 _ (by omega)) (by omega) hup hd') (by omega) ?_
    rintro zz M3 ⟨s1, s2⟩
    have eV : N.natAbs = V * 2 := by omega
    try simp only [kb_X12_logs_333, w_ald_0, w_bi, w_ld2, w_iv2, tfr_0, tfr_1, tfr_2, tfr_3, tfr_4, w_ild7, w_if_ne, w_ild10, w_ild5, w_iv3, w_ire, trg, true_and, and_true, Nat.reduceAdd, Nat.reduceSub, eq_self, tshm_14, tshm_31, tshm_32, tykm_31, tykm_32, tykm_14, tci_14, tci_15, tci_960, tshm_667, tshm_668, tshm_669, tshm_670, tykm_33, tci_700]
    rw [if_pos hE4, eV]
    refine ⟨by omega, _, rfl, rfl, ?_, qE_tr w2 (qE_U (rU_mono s2 (fun r hr => show rEx r by unfold rEx; omega)) rEx_n.1 rEx_n.2.1 rEx_n.2.2)⟩
    rcases s1 with q | q
    · exact Or.inl q
    · exact Or.inr q.1
  · have hE4 : E ≠ 44 := by omega
    rw [if_neg hE4]
    obtain ⟨j, hj⟩ : ∃ j : Nat, j = (44 - (E : Int)).natAbs := ⟨_, rfl⟩
    have hj1 : j ≤ 44 := by omega
    have hj0 : 1 ≤ j := by omega
    have hP1 : LGc * j ≤ 44 * LGc := by
      rw [Nat.mul_comm]
      exact Nat.mul_le_mul_right _ hj1
    have hP2 : LGc ≤ LGc * j := Nat.le_mul_of_pos_right _ hj0
    have hP3 : (LGc : Int) * (44 - (E : Int)) = if 44 < E then -((LGc * j : Nat) : Int) else ((LGc * j : Nat) : Int) := by
      rw [Int.natCast_mul]
      split
      · rw [show (44 : Int) - (E : Int) = -(j : Int) by omega, Int.mul_neg]
      · rw [show (44 : Int) - (E : Int) = (j : Int) by omega]
    rw [hP3] at hF
    clear hP3
    have big : ∀ x, x ≤ 99 * U6 → x < pw 62 := fun x h => Nat.lt_trans (d500 x h) (tn_pw (by decide))
    generalize hP : LGc * j = P at *
    have hib : (if 44 < E then (1 : Int) else 0) = 0 ∧ ¬ 44 < E ∨ (if 44 < E then (1 : Int) else 0) = 1 ∧ 44 < E := by
      split
      · right; exact ⟨rfl, by assumption⟩
      · left; exact ⟨rfl, by assumption⟩
    have hFP : F.natAbs ≤ 46 * U6 := by
      have : 44 * LGc ≤ 44 * U6 := Nat.mul_le_mul_left _ hLU
      split at hF <;> omega
    generalize (if 44 < E then (1 : Int) else 0) = ib at *
    have n434 : ∀ (M5 : tM) (v8 : Option tV), Vr M5 6 F.natAbs → qE rEx M M5 → tT e d 3647 434 [some (.inr (.inr (.inl 664))), some (.inr (.inl u)), none, some (.inr (.inl l)), none, some (.inl up), v6, some (.inl (44 - (E : Int))), v8, none, some (.inl neg), some (.inr (.inl k)), none] [.inl ib, .inl 6, .inr (.inr (.inl 664))] M5 n
      (tQi n (fun zz M' => (zz = 1 ∧ zb M' = deepb up D F.natAbs ib ∧ (-10000000000000000000000 < deepb up D F.natAbs ib ∧ deepb up D F.natAbs ib < 10000000000000000000000) ∧ cb M' ∨ zz = 0) ∧ qE rEx M M')) := by
      intro M5 v8 r1 r2
      refine tb_X12_logs_434 (c := false) ?_
      simp only [kb_X12_logs_434, w_ild5, w_iv3, tfr_0, tfr_1, tfr_2, tfr_3, tfr_4, w_ire, trg, true_and, and_true, Nat.reduceAdd, Nat.reduceSub, eq_self, tshm_14, tshm_31, tshm_32, tykm_31, tykm_32, tykm_14, tci_14, tci_15, tci_960, tshm_667, tshm_668, tshm_669, tshm_670, tykm_33, tci_700]
      refine tc_i (D := 4) (fun d' hd' => c_deep (v := F.natAbs) (D := D) ((qE_d r2).trans hdg) hD (by omega) r1 (d500 _ (by omega)) (by omega) hup hd') (by omega) ?_
      rintro zz M6 ⟨s1, s2⟩
      try simp only [kb_X12_logs_434, w_ild5, w_iv3, tfr_0, tfr_1, tfr_2, tfr_3, tfr_4, w_ire, trg, true_and, and_true, Nat.reduceAdd, Nat.reduceSub, eq_self, tshm_14, tshm_31, tshm_32, tykm_31, tykm_32, tykm_14, tci_14, tci_15, tci_960, tshm_667, tshm_668, tshm_669, tshm_670, tykm_33, tci_700]
      refine ⟨by omega, _, rfl, rfl, ?_, qE_tr r2 (qE_U (rU_mono s2 (fun r hr => show rEx r by unfold rEx; omega)) rEx_n.1 rEx_n.2.1 rEx_n.2.2)⟩
      rcases s1 with q | q
      · exact Or.inl q
      · exact Or.inr q.1
    have n421 : ∀ (M5 : tM) (v8 : Option tV), Vr M5 6 F.natAbs → qE rEx M M5 → tT e d 3647 421 [some (.inr (.inr (.inl 664))), some (.inr (.inl u)), none, some (.inr (.inl l)), none, some (.inl up), v6, some (.inl (44 - (E : Int))), v8, none, some (.inl neg), some (.inr (.inl k)), none] [] M5 n
      (tQi n (fun zz M' => (zz = 1 ∧ zb M' = deepb up D F.natAbs ib ∧ (-10000000000000000000000 < deepb up D F.natAbs ib ∧ deepb up D F.natAbs ib < 10000000000000000000000) ∧ cb M' ∨ zz = 0) ∧ qE rEx M M')) := by
      intro M5 v8 r1 r2
      have t := n434 M5 v8 r1 r2
      refine tb_X12_logs_421 (c := false) ?_
      simp only [kb_X12_logs_421, w_ald_0, w_bi, w_ild7, w_if_ge, w_ic, w_goto, true_and, and_true, Nat.reduceAdd, Nat.reduceSub, eq_self]
      refine ⟨by omega, fun h => ?_, fun h => ?_⟩
      · rw [show ib = 0 by omega] at t
        refine tb_X12_logs_433 (c := false) ?_
        simp only [kb_X12_logs_433, w_ic, w_nil, true_and, and_true, Nat.reduceAdd, Nat.reduceSub, eq_self]
        rw [show ib = 0 by omega]
        exact t
      · rw [show ib = 1 by omega] at t ⊢
        exact t
    have n399 : ∀ (M5 : tM) (v8 : Option tV), Vr M5 6 P → Vr M5 8 (V * 2) → qE rEx M M5 → tT e d 3647 399 [some (.inr (.inr (.inl 664))), some (.inr (.inl u)), none, some (.inr (.inl l)), none, some (.inl up), v6, some (.inl (44 - (E : Int))), v8, none, some (.inl neg), some (.inr (.inl k)), none] [.inl ib, .inl neg] M5 n
      (tQi n (fun zz M' => (zz = 1 ∧ zb M' = deepb up D F.natAbs ib ∧ (-10000000000000000000000 < deepb up D F.natAbs ib ∧ deepb up D F.natAbs ib < 10000000000000000000000) ∧ cb M' ∨ zz = 0) ∧ qE rEx M M')) := by
      intro M5 v8 r1 r2 r3
      refine tb_X12_logs_399 (c := false) ?_
      simp only [kb_X12_logs_399, w_ic_ne, w_ald_0, w_bi, w_iv2, tfr_0, tfr_1, tfr_2, tfr_3, tfr_4, w_goto, true_and, and_true, Nat.reduceAdd, Nat.reduceSub, eq_self, tshm_14, tshm_31, tshm_32, tykm_31, tykm_32, tykm_14, tci_14, tci_15, tci_960, tshm_667, tshm_668, tshm_669, tshm_670, tykm_33, tci_700]
      refine ⟨by omega, fun h => ?_, fun h => ?_⟩
      · refine tb_X12_logs_413 (c := false) ?_
        simp only [kb_X12_logs_413, w_ald_0, w_bi, w_iv2, tfr_0, tfr_1, tfr_2, tfr_3, tfr_4, w_nil, true_and, and_true, Nat.reduceAdd, Nat.reduceSub, eq_self, tshm_14, tshm_31, tshm_32, tykm_31, tykm_32, tykm_14, tci_14, tci_15, tci_960, tshm_667, tshm_668, tshm_669, tshm_670, tykm_33, tci_700]
        refine tc_n (D := 1) (fun d' hd' => c_less (by omega) (by omega) (by omega) r1 r2 (by omega) hd') (by omega) ?_
        rintro M6 ⟨s1, s2⟩
        try simp only [kb_X12_logs_413, w_ald_0, w_bi, w_iv2, tfr_0, tfr_1, tfr_2, tfr_3, tfr_4, w_nil, true_and, and_true, Nat.reduceAdd, Nat.reduceSub, eq_self, tshm_14, tshm_31, tshm_32, tykm_31, tykm_32, tykm_14, tci_14, tci_15, tci_960, tshm_667, tshm_668, tshm_669, tshm_670, tykm_33, tci_700]
        have e1 : P - V * 2 = F.natAbs := by split at hF <;> omega
        rw [e1] at s1
        exact n421 M6 _ s1 (qE_tr r3 (qx s2 (fun r hr => by unfold rEx; omega)))
      · refine tc_n (D := 1) (fun d' hd' => c_plus (by omega) (by omega) (by omega) r1 r2 (big _ (by omega)) hd') (by omega) ?_
        rintro M6 ⟨s1, s2⟩
        try simp only [kb_X12_logs_399, w_ic_ne, w_ald_0, w_bi, w_iv2, tfr_0, tfr_1, tfr_2, tfr_3, tfr_4, w_goto, true_and, and_true, Nat.reduceAdd, Nat.reduceSub, eq_self, tshm_14, tshm_31, tshm_32, tykm_31, tykm_32, tykm_14, tci_14, tci_15, tci_960, tshm_667, tshm_668, tshm_669, tshm_670, tykm_33, tci_700]
        have e1 : P + V * 2 = F.natAbs := by split at hF <;> omega
        rw [e1] at s1
        exact n421 M6 _ s1 (qE_tr r3 (qx s2 (fun r hr => by unfold rEx; omega)))
    have n384 : ∀ (M5 : tM) (v8 : Option tV), Vr M5 6 LGc → Vr M5 8 (V * 2) → qE rEx M M5 → tT e d 3647 384 [some (.inr (.inr (.inl 664))), some (.inr (.inl u)), none, some (.inr (.inl l)), none, some (.inl up), v6, some (.inl (44 - (E : Int))), v8, none, some (.inl neg), some (.inr (.inl k)), none] [.inr (.inl (j : Int)), .inl 6, .inr (.inr (.inl 664))] M5 n
      (tQi n (fun zz M' => (zz = 1 ∧ zb M' = deepb up D F.natAbs ib ∧ (-10000000000000000000000 < deepb up D F.natAbs ib ∧ deepb up D F.natAbs ib < 10000000000000000000000) ∧ cb M' ∨ zz = 0) ∧ qE rEx M M')) := by
      intro M5 v8 r1 r2 r3
      refine tb_X12_logs_384 (c := false) ?_
      simp only [kb_X12_logs_384, w_iv2, tfr_0, tfr_1, tfr_2, tfr_3, tfr_4, w_ild10, w_ild7, w_if_ge, w_ic, w_goto, true_and, and_true, Nat.reduceAdd, Nat.reduceSub, eq_self, tshm_14, tshm_31, tshm_32, tykm_31, tykm_32, tykm_14, tci_14, tci_15, tci_960, tshm_667, tshm_668, tshm_669, tshm_670, tykm_33, tci_700]
      refine tc_n (D := 1) (fun d' hd' => c_scales (b := j) (by omega) r1 (by omega) (by rw [hP]; exact big _ (by omega)) hd') (by omega) ?_
      rintro M6 ⟨s1, s2⟩
      rw [hP] at s1
      have t := n399 M6 v8 s1 (Vr_E r2 s2 (by omega)) (qE_tr r3 (qx s2 (fun r hr => by unfold rEx; omega)))
      try simp only [kb_X12_logs_384, w_iv2, tfr_0, tfr_1, tfr_2, tfr_3, tfr_4, w_ild10, w_ild7, w_if_ge, w_ic, w_goto, true_and, and_true, Nat.reduceAdd, Nat.reduceSub, eq_self, tshm_14, tshm_31, tshm_32, tykm_31, tykm_32, tykm_14, tci_14, tci_15, tci_960, tshm_667, tshm_668, tshm_669, tshm_670, tykm_33, tci_700]
      refine ⟨by omega, fun h => ?_, fun h => ?_⟩
      · refine tb_X12_logs_398 (c := false) ?_
        simp only [kb_X12_logs_398, w_ic, w_nil, true_and, and_true, Nat.reduceAdd, Nat.reduceSub, eq_self]
        rw [show ib = 0 by omega] at t ⊢
        exact t
      · rw [show ib = 1 by omega] at t ⊢
        exact t
    refine tb_X12_logs_358 (c := false) ?_
    simp only [kb_X12_logs_358, w_ald_0, w_bi, w_iv2, tfr_0, tfr_1, tfr_2, tfr_3, tfr_4, w_ild7, w_if_ge, w_ineg, w_i2l, w_goto, true_and, and_true, Nat.reduceAdd, Nat.reduceSub, eq_self, tshm_14, tshm_31, tshm_32, tykm_31, tykm_32, tykm_14, tci_14, tci_15, tci_960, tshm_667, tshm_668, tshm_669, tshm_670, tykm_33, tci_700]
    refine tc_n (D := 1) (fun d' hd' => c_copies (a := 12) (b := 6) (x := LGc) (by omega) (by omega) (by omega) (Vr_E q2 p2 (by omega)) hd') (by omega) ?_
    rintro M3 ⟨p3, p4⟩
    have t := n384 M3 v8 p3 (Vr_E p1 p4 (by omega)) (qE_tr w2 (qx p4 (fun r hr => by unfold rEx; omega)))
    try simp only [kb_X12_logs_358, w_ald_0, w_bi, w_iv2, tfr_0, tfr_1, tfr_2, tfr_3, tfr_4, w_ild7, w_if_ge, w_ineg, w_i2l, w_goto, true_and, and_true, Nat.reduceAdd, Nat.reduceSub, eq_self, tshm_14, tshm_31, tshm_32, tykm_31, tykm_32, tykm_14, tci_14, tci_15, tci_960, tshm_667, tshm_668, tshm_669, tshm_670, tykm_33, tci_700]
    refine ⟨by omega, fun h => ?_, fun h => ?_⟩
    · rw [show (j : Int) = 44 - (E : Int) by omega] at t
      refine tb_X12_logs_381 (c := false) ?_
      simp only [kb_X12_logs_381, w_ild7, w_i2l, w_nil, true_and, and_true, Nat.reduceAdd, Nat.reduceSub, eq_self]
      exact ⟨by omega, t⟩
    · rw [show (j : Int) = -(44 - (E : Int)) by omega] at t
      exact ⟨by omega, t⟩
end MODEL
