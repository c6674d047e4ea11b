/-! THE MODEL: the arcus tangens, whole. -/
noncomputable def atb (up : Int) (D : Nat) (Z : Int) : Int := if Z = 0 then 0 else deepb up D (atF Z.natAbs) (if Z < 0 then 1 else 0)
noncomputable def atG (Z : Int) : Int := if Z < 0 then -(atF Z.natAbs : Int) else (atF Z.natAbs : Int)
theorem atV_0 : atV (0 * U4) = 0 := by
  rw [Nat.zero_mul]
  have h : at0 0 = 0 := by
    unfold at0
    rw [Nat.zero_mul, Nat.zero_div]
  unfold atV
  rw [h]
  exact atS_end rfl
theorem atF_0 : atF 0 = 0 := by
  unfold atF
  rw [if_pos (by omega), atV_0]
theorem atb_in {D : Nat} {Z : Int} (hD : D ≤ 10) : atb 0 D Z * (U4 : Int) ≤ atG Z ∧ atG Z ≤ atb 1 D Z * (U4 : Int) := by
  unfold atb
  by_cases h : Z = 0
  · rw [if_pos h, if_pos h, Int.zero_mul]
    have : atG Z = 0 := by
      unfold atG
      rw [if_neg (by omega), h]
      show ((atF 0 : Nat) : Int) = 0
      rw [atF_0]
      rfl
    rw [this]
    exact ⟨Int.le_refl _, Int.le_refl _⟩
  · rw [if_neg h, if_neg h]
    unfold atG
    by_cases hm : Z < 0
    · rw [if_pos hm, if_pos hm]
      have := deep_in (D := D) (v := atF Z.natAbs) (ib := 1) hD (Or.inr rfl)
      rw [if_pos rfl] at this
      exact this
    · rw [if_neg hm, if_neg hm]
      have := deep_in (D := D) (v := atF Z.natAbs) (ib := 0) hD (Or.inl rfl)
      rw [if_neg (by omega)] at this
      exact this
theorem atG_le {a b : Int} (h : a ≤ b) (ha : -30000000000000000000000 ≤ a) (hb : b ≤ 30000000000000000000000) : atG a ≤ atG b := by
  unfold atG
  by_cases h1 : a < 0
  · rw [if_pos h1]
    by_cases h2 : b < 0
    · rw [if_pos h2]
      have := atF_le (a := b.natAbs) (b := a.natAbs) (by omega) (by omega)
      omega
    · rw [if_neg h2]
      omega
  · rw [if_neg h1, if_neg (by omega)]
    have := atF_le (a := a.natAbs) (b := b.natAbs) (by omega) (by omega)
    omega
theorem atF_b (z : Nat) (hz : z ≤ 30000000000000000000000) : atF z ≤ 9 * U6 := by
  have hx := at_x
  have hp : PIc / 2 ≤ 9 * U6 := by
    rewrite [U6_def]
    decide
  unfold atF
  split
  · rename_i h
    have := atV_g h
    omega
  · omega
section MODEL
variable {e : tE} {d n : Nat} {M : tM}
theorem c_arcs {u l up : Int} {D : Nat} (hK : KI M) (hdg : M 664 2 = (D : Int)) (hD : D ≤ 10) (hl : 0 ≤ l ∧ l < 1000000000) (hz : -30000000000000000000000 ≤ u * 1000000000 + l ∧ u * 1000000000 + l ≤ 30000000000000000000000) (hup : up = 0 ∨ up = 1) (hd : 5 ≤ d) :
    tC e d 3590 [.inr (.inr (.inl 664)), .inr (.inl u), .inr (.inl l), .inl up] M n (tQi n (fun zz M' => (zz = 1 ∧ zb M' = atb up D (u * 1000000000 + l) ∧ (-10000000000000000000000 < atb up D (u * 1000000000 + l) ∧ atb up D (u * 1000000000 + l) < 10000000000000000000000) ∧ cb M' ∨ zz = 0) ∧ qE rEx M M')) := by
  have hu6 := U6_pos
  generalize hZ : u * 1000000000 + l = Z at *
  obtain ⟨z, hzz⟩ : ∃ z : Nat, z = Z.natAbs := ⟨_, rfl⟩
  have hz3 : z ≤ 30000000000000000000000 := by omega
  obtain ⟨Q, hQ⟩ : ∃ Q : tR → tM → Nat → Prop, Q = (tQi n (fun zz M' => (zz = 1 ∧ zb M' = atb up D Z ∧ (-10000000000000000000000 < atb up D Z ∧ atb up D Z < 10000000000000000000000) ∧ cb M' ∨ zz = 0) ∧ qE rEx M M')) := ⟨_, rfl⟩
  have hF := atF_b z hz3
  have d500 : ∀ x, x ≤ 99 * U6 → x < tn 500 := fun x h => Nat.lt_of_le_of_lt h (by rw [U6_tn]; exact Nat.lt_of_le_of_lt (Nat.mul_le_mul_right _ (show 99 ≤ tn 2 by rw [tn_def]; decide)) (by rw [← tn_add]; exact tn_lt (by decide)))
  have n335 : Z ≠ 0 → ∀ (N : tM) (fl k : Int) (v9 : Option tV), Vr N 8 (atF z) → qE rEx M N → tT e d 3590 335 [some (.inr (.inr (.inl 664))), some (.inr (.inl u)), none, some (.inr (.inl l)), none, some (.inl up), some (.inl fl), some (.inr (.inl k)), none, v9, none] [.inl (if Z < 0 then 1 else 0), .inl 8, .inr (.inr (.inl 664))] N n Q := by
    intro h0 N fl k v9 q1 q2
    have hib : (if Z < 0 then (1 : Int) else 0) = 0 ∨ (if Z < 0 then (1 : Int) else 0) = 1 := by
      split
      · exact Or.inr rfl
      · exact Or.inl rfl
    have hat : atb up D Z = deepb up D (atF z) (if Z < 0 then 1 else 0) := by
      unfold atb
      rw [if_neg h0, ← hzz]
    rw [hQ, hat]
    generalize (if Z < 0 then (1 : Int) else 0) = ib at *
    refine tb_X12_arcs_335 (c := false) ?_
    simp only [kb_X12_arcs_335, w_ild5, w_iv3, tfr_0, tfr_1, tfr_2, tfr_3, tfr_4, w_ire, trg, true_and, and_true, Nat.reduceAdd, Nat.reduceSub, eq_self, tshm_14, tshm_31, tshm_32, tykm_31, tykm_32, tykm_14, tci_14, tci_15, tci_960, tshm_667, tshm_668, tshm_669, tshm_670, tykm_33, tci_700]
    refine tc_i (D := 4) (fun d' hd' => c_deep (v := atF z) (D := D) ((qE_d q2).trans hdg) hD (by omega) q1 (d500 _ (by omega)) hib hup hd') (by omega) ?_
    rintro zz M6 ⟨s1, s2⟩
    try simp only [kb_X12_arcs_335, w_ild5, w_iv3, tfr_0, tfr_1, tfr_2, tfr_3, tfr_4, w_ire, trg, true_and, and_true, Nat.reduceAdd, Nat.reduceSub, eq_self, tshm_14, tshm_31, tshm_32, tykm_31, tykm_32, tykm_14, tci_14, tci_15, tci_960, tshm_667, tshm_668, tshm_669, tshm_670, tykm_33, tci_700]
    refine ⟨by omega, _, rfl, rfl, ?_, qE_tr q2 (qE_U (rU_mono s2 (fun r hr => show rEx r by unfold rEx; omega)) rEx_n.1 rEx_n.2.1 rEx_n.2.2)⟩
    rcases s1 with q | q
    · exact Or.inl q
    · exact Or.inr q.1
  have n321 : Z ≠ 0 → ∀ (N : tM) (fl k : Int) (v9 : Option tV), Vr N 8 (atF z) → qE rEx M N → tT e d 3590 321 [some (.inr (.inr (.inl 664))), some (.inr (.inl u)), none, some (.inr (.inl l)), none, some (.inl up), some (.inl fl), some (.inr (.inl k)), none, v9, none] [] N n Q := by
    intro h0 N fl k v9 q1 q2
    have g := n335 h0 N fl k v9 q1 q2
    refine tb_X12_arcs_321 (c := false) ?_
    simp only [kb_X12_arcs_321, w_ald_0, w_bi, w_lld_1, w_lc0, w_lcmp, ne_eq, tlc_r, tlc_eq, tlc_lt, tlc_ge, tlc_gt, tlc_le, w_if_ge, w_ic, w_goto, true_and, and_true, Nat.reduceAdd, Nat.reduceSub, eq_self]
    refine ⟨by omega, fun h => ?_, fun h => ?_⟩
    · rw [if_neg (by omega)] at g
      refine tb_X12_arcs_334 (c := false) ?_
      simp only [kb_X12_arcs_334, w_ic, w_nil, true_and, and_true, Nat.reduceAdd, Nat.reduceSub, eq_self]
      exact g
    · rw [if_pos (by omega)] at g
      exact g
  have n281 : Z ≠ 0 → ∀ (N0 : tM), KI N0 → N0 664 12 = 1 → qE rEx M N0 → ∀ (fl : Int) (V : Nat), (fl = 0 ∧ V = atF z ∨ fl = 1 ∧ V ≤ PIc / 2 ∧ PIc / 2 - V = atF z) → ∀ (N : tM) (v9 : Option tV) (k : Int), Vr N 8 V → V ≤ 4 * U6 → qE rEx N0 N → tT e d 3590 281 [some (.inr (.inr (.inl 664))), some (.inr (.inl u)), none, some (.inr (.inl l)), none, some (.inl up), some (.inl fl), some (.inr (.inl k)), none, v9, none] [] N n Q := by
    intro h0 N0 k1 k2 k3 fl V hV N v9 k q1 _ q3
    have q4 : qE rEx M N := qE_tr k3 q3
    rcases hV with ⟨rfl, rfl⟩ | ⟨rfl, hv1, hv2⟩
    · have g := n321 h0 N 0 k v9 q1 q4
      refine tb_X12_arcs_281 (c := false) ?_
      simp only [kb_X12_arcs_281, w_ild6, w_if_eq, w_ald_0, w_bi, w_iv2, tfr_0, tfr_1, tfr_2, tfr_3, tfr_4, w_ld2, w_lst7, tkl_n, tkl_i, tkl_l, tkl_r, w_nil, true_and, and_true, Nat.reduceAdd, Nat.reduceSub, eq_self, tshm_14, tshm_31, tshm_32, tykm_31, tykm_32, tykm_14, tci_14, tci_15, tci_960, tshm_667, tshm_668, tshm_669, tshm_670, tykm_33, tci_700]
      exact ⟨by omega, fun _ => g, fun h => absurd trivial h⟩
    · have q5 : Vr N 11 PIc := (q3.2.1 k1).2.1 (q3.2.2.1 k2)
      refine tb_X12_arcs_281 (c := false) ?_
      simp only [kb_X12_arcs_281, w_ild6, w_if_eq, w_ald_0, w_bi, w_iv2, tfr_0, tfr_1, tfr_2, tfr_3, tfr_4, w_ld2, w_lst7, tkl_n, tkl_i, tkl_l, tkl_r, w_nil, true_and, and_true, Nat.reduceAdd, Nat.reduceSub, eq_self, tshm_14, tshm_31, tshm_32, tykm_31, tykm_32, tykm_14, tci_14, tci_15, tci_960, tshm_667, tshm_668, tshm_669, tshm_670, tykm_33, tci_700]
      refine ⟨by omega, fun h => absurd h (by decide), fun _ => ?_⟩
      refine tc_n (D := 1) (fun d' hd' => c_copies (a := 11) (b := 6) (x := PIc) (by omega) (by omega) (by omega) q5 hd') (by omega) ?_
      rintro M2 ⟨p1, p2⟩
      try simp only [kb_X12_arcs_281, w_ild6, w_if_eq, w_ald_0, w_bi, w_iv2, tfr_0, tfr_1, tfr_2, tfr_3, tfr_4, w_ld2, w_lst7, tkl_n, tkl_i, tkl_l, tkl_r, w_nil, true_and, and_true, Nat.reduceAdd, Nat.reduceSub, eq_self, tshm_14, tshm_31, tshm_32, tykm_31, tykm_32, tykm_14, tci_14, tci_15, tci_960, tshm_667, tshm_668, tshm_669, tshm_670, tykm_33, tci_700]
      refine tc_l (D := 1) (fun d' hd' => c_parts (b := 2) (by omega) p1 (by omega) hd') (by omega) ?_
      rintro z9 M3 ⟨-, p3, p4⟩
      try simp only [kb_X12_arcs_281, w_ild6, w_if_eq, w_ald_0, w_bi, w_iv2, tfr_0, tfr_1, tfr_2, tfr_3, tfr_4, w_ld2, w_lst7, tkl_n, tkl_i, tkl_l, tkl_r, w_nil, true_and, and_true, Nat.reduceAdd, Nat.reduceSub, eq_self, tshm_14, tshm_31, tshm_32, tykm_31, tykm_32, tykm_14, tci_14, tci_15, tci_960, tshm_667, tshm_668, tshm_669, tshm_670, tykm_33, tci_700]
      refine tc_n (D := 1) (fun d' hd' => c_less (by omega) (by omega) (by omega) p3 (Vr_E (Vr_E q1 p2 (by omega)) p4 (by omega)) hv1 hd') (by omega) ?_
      rintro M4 ⟨p5, p6⟩
      rw [hv2] at p5
      try simp only [kb_X12_arcs_281, w_ild6, w_if_eq, w_ald_0, w_bi, w_iv2, tfr_0, tfr_1, tfr_2, tfr_3, tfr_4, w_ld2, w_lst7, tkl_n, tkl_i, tkl_l, tkl_r, w_nil, true_and, and_true, Nat.reduceAdd, Nat.reduceSub, eq_self, tshm_14, tshm_31, tshm_32, tykm_31, tykm_32, tykm_14, tci_14, tci_15, tci_960, tshm_667, tshm_668, tshm_669, tshm_670, tykm_33, tci_700]
      refine tc_n (D := 1) (fun d' hd' => c_copies (a := 6) (b := 8) (x := atF z) (by omega) (by omega) (by omega) p5 hd') (by omega) ?_
      rintro M5 ⟨p7, p8⟩
      try simp only [kb_X12_arcs_281, w_ild6, w_if_eq, w_ald_0, w_bi, w_iv2, tfr_0, tfr_1, tfr_2, tfr_3, tfr_4, w_ld2, w_lst7, tkl_n, tkl_i, tkl_l, tkl_r, w_nil, true_and, and_true, Nat.reduceAdd, Nat.reduceSub, eq_self, tshm_14, tshm_31, tshm_32, tykm_31, tykm_32, tykm_14, tci_14, tci_15, tci_960, tshm_667, tshm_668, tshm_669, tshm_670, tykm_33, tci_700]
      exact n321 h0 M5 1 z9 v9 p7 (qE_tr q4 (qE_tr (qx p2 (fun r hr => by unfold rEx; omega)) (qE_tr (qx p4 (fun r hr => by unfold rEx; omega)) (qE_tr (qx p6 (fun r hr => by unfold rEx; omega)) (qx p8 (fun r hr => by unfold rEx; omega))))))
  have n114 : Z ≠ 0 → ∀ (N0 : tM), KI N0 → N0 664 12 = 1 → qE rEx M N0 → ∀ (fl z7 : Int) (s : Nat), s ≤ U6 → (fl = 0 ∧ atV s = atF z ∨ fl = 1 ∧ atV s ≤ PIc / 2 ∧ PIc / 2 - atV s = atF z) → ∀ (N : tM), Vr N 8 s → qE rEx N0 N → tT e d 3590 114 [some (.inr (.inr (.inl 664))), some (.inr (.inl u)), none, some (.inr (.inl l)), none, some (.inl up), some (.inl fl), some (.inl z7), none, none, none] [] N n Q := by
    intro h0 N0 k1 k2 k3 fl z7 s hs hV N q1 q2
    have haq : aq s ≤ U6 := by
      unfold aq
      calc s * s / U6 ≤ U6 * U6 / U6 := Nat.div_le_div_right (Nat.mul_le_mul hs hs)
        _ = U6 := Nat.mul_div_cancel _ hu6
    have hat : at0 s ≤ s := by
      unfold at0
      refine Nat.div_le_of_le_mul ?_
      rw [Nat.mul_comm]
      exact Nat.mul_le_mul_right _ (by omega)
    have har : ar s * 2 ≤ U6 := by
      have h1 : ar s * (U6 + aq s) ≤ aq s * U6 := Nat.div_mul_le_self _ _
      rcases Nat.eq_zero_or_pos (aq s) with h2 | h2
      · unfold ar
        rw [h2, Nat.zero_mul, Nat.zero_div]
        omega
      · have h3 : ar s * (aq s * 2) ≤ ar s * (U6 + aq s) := Nat.mul_le_mul_left _ (by omega)
        have h4 : ar s * 2 * aq s ≤ U6 * aq s := by
          rw [Nat.mul_assoc, Nat.mul_comm 2, Nat.mul_comm U6]
          omega
        exact Nat.le_of_mul_le_mul_right h4 h2
    have ht200 : at0 s < 2 ^ 200 := by
      refine Nat.lt_of_le_of_lt (show at0 s ≤ U6 by omega) ?_
      rewrite [U6_def]
      decide
    have hY : U6 + aq s < pw 61 := by
      have := sq_pw (x := U6 + aq s) (y := 1) (by omega) (by omega)
      rw [Nat.mul_one] at this
      exact this
    have g := l_arcs (e := e) (d := d) (n := n) (M := N0) (u := u) (l := l) (up := up) (fl := fl) (R := Q) har (by omega) (n281 h0 N0 k1 k2 k3 fl (atV s) hV) 200 (at0 s) 1 (at0 s)
    refine tb_X12_arcs_114 (c := false) ?_
    simp only [kb_X12_arcs_114, w_ald_0, w_bi, w_iv2, tfr_0, tfr_1, tfr_2, tfr_3, tfr_4, w_ic, w_iv1, w_iv0, w_lc1, w_lst7, tkl_n, tkl_i, tkl_l, tkl_r, w_nil, true_and, and_true, Nat.reduceAdd, Nat.reduceSub, eq_self, tshm_14, tshm_31, tshm_32, tykm_31, tykm_32, tykm_14, tci_14, tci_15, tci_960, tshm_667, tshm_668, tshm_669, tshm_670, tykm_33, tci_700]
    refine tc_n (D := 1) (fun d' hd' => c_copies (a := 8) (b := 10) (x := s) (by omega) (by omega) (by omega) q1 hd') (by omega) ?_
    rintro M2 ⟨p1, p2⟩
    have c8 := Vr_E q1 p2 (by omega)
    try simp only [kb_X12_arcs_114, w_ald_0, w_bi, w_iv2, tfr_0, tfr_1, tfr_2, tfr_3, tfr_4, w_ic, w_iv1, w_iv0, w_lc1, w_lst7, tkl_n, tkl_i, tkl_l, tkl_r, w_nil, true_and, and_true, Nat.reduceAdd, Nat.reduceSub, eq_self, tshm_14, tshm_31, tshm_32, tykm_31, tykm_32, tykm_14, tci_14, tci_15, tci_960, tshm_667, tshm_668, tshm_669, tshm_670, tykm_33, tci_700]
    refine tc_n (D := 2) (fun d' hd' => c_times (by omega) (by omega) (by omega) (by omega) p1 c8 (sq_pw (by omega) (by omega)) hd') (by omega) ?_
    rintro M3 ⟨p3, p4⟩
    have c8 := Vr_E c8 p4 (by omega)
    try simp only [kb_X12_arcs_114, w_ald_0, w_bi, w_iv2, tfr_0, tfr_1, tfr_2, tfr_3, tfr_4, w_ic, w_iv1, w_iv0, w_lc1, w_lst7, tkl_n, tkl_i, tkl_l, tkl_r, w_nil, true_and, and_true, Nat.reduceAdd, Nat.reduceSub, eq_self, tshm_14, tshm_31, tshm_32, tykm_31, tykm_32, tykm_14, tci_14, tci_15, tci_960, tshm_667, tshm_668, tshm_669, tshm_670, tykm_33, tci_700]
    refine tc_n (D := 1) (fun d' hd' => c_shr (b := 6) (by omega) p3 (by omega) hd') (by omega) ?_
    rintro M4 ⟨p5, p6⟩
    rw [pw_6] at p5
    have p5' : Vr M4 10 (aq s) := p5
    have c8 := Vr_E c8 p6 (by omega)
    try simp only [kb_X12_arcs_114, w_ald_0, w_bi, w_iv2, tfr_0, tfr_1, tfr_2, tfr_3, tfr_4, w_ic, w_iv1, w_iv0, w_lc1, w_lst7, tkl_n, tkl_i, tkl_l, tkl_r, w_nil, true_and, and_true, Nat.reduceAdd, Nat.reduceSub, eq_self, tshm_14, tshm_31, tshm_32, tykm_31, tykm_32, tykm_14, tci_14, tci_15, tci_960, tshm_667, tshm_668, tshm_669, tshm_670, tykm_33, tci_700]
    refine tc_n (D := 2) (fun d' hd' => c_unit (row := 1) (by omega) hd') (by omega) ?_
    rintro M5 ⟨p7, p8⟩
    have c8 := Vr_E c8 p8 (by omega)
    have c10 := Vr_E p5' p8 (by omega)
    try simp only [kb_X12_arcs_114, w_ald_0, w_bi, w_iv2, tfr_0, tfr_1, tfr_2, tfr_3, tfr_4, w_ic, w_iv1, w_iv0, w_lc1, w_lst7, tkl_n, tkl_i, tkl_l, tkl_r, w_nil, true_and, and_true, Nat.reduceAdd, Nat.reduceSub, eq_self, tshm_14, tshm_31, tshm_32, tykm_31, tykm_32, tykm_14, tci_14, tci_15, tci_960, tshm_667, tshm_668, tshm_669, tshm_670, tykm_33, tci_700]
    refine tc_n (D := 1) (fun d' hd' => c_plus (by omega) (by omega) (by omega) p7 c10 (b60U (by omega)) hd') (by omega) ?_
    rintro M6 ⟨p9, p10⟩
    have c8 := Vr_E c8 p10 (by omega)
    have c10 := Vr_E c10 p10 (by omega)
    try simp only [kb_X12_arcs_114, w_ald_0, w_bi, w_iv2, tfr_0, tfr_1, tfr_2, tfr_3, tfr_4, w_ic, w_iv1, w_iv0, w_lc1, w_lst7, tkl_n, tkl_i, tkl_l, tkl_r, w_nil, true_and, and_true, Nat.reduceAdd, Nat.reduceSub, eq_self, tshm_14, tshm_31, tshm_32, tykm_31, tykm_32, tykm_14, tci_14, tci_15, tci_960, tshm_667, tshm_668, tshm_669, tshm_670, tykm_33, tci_700]
    refine tc_n (D := 1) (fun d' hd' => c_copies (a := 10) (b := 0) (x := aq s) (by omega) (by omega) (by omega) c10 hd') (by omega) ?_
    rintro M7 ⟨p11, p12⟩
    have c8 := Vr_E c8 p12 (by omega)
    have c1 := Vr_E p9 p12 (by omega)
    try simp only [kb_X12_arcs_114, w_ald_0, w_bi, w_iv2, tfr_0, tfr_1, tfr_2, tfr_3, tfr_4, w_ic, w_iv1, w_iv0, w_lc1, w_lst7, tkl_n, tkl_i, tkl_l, tkl_r, w_nil, true_and, and_true, Nat.reduceAdd, Nat.reduceSub, eq_self, tshm_14, tshm_31, tshm_32, tykm_31, tykm_32, tykm_14, tci_14, tci_15, tci_960, tshm_667, tshm_668, tshm_669, tshm_670, tykm_33, tci_700]
    refine tc_n (D := 1) (fun d' hd' => c_shl (b := 6) (by omega) p11 (by omega) (by rw [pw_6]; exact Nat.lt_trans (sq_pw (by omega) (by omega)) (pw_lt (by decide))) hd') (by omega) ?_
    rintro M8 ⟨p13, p14⟩
    rw [pw_6] at p13
    have c8 := Vr_E c8 p14 (by omega)
    have c1 := Vr_E c1 p14 (by omega)
    try simp only [kb_X12_arcs_114, w_ald_0, w_bi, w_iv2, tfr_0, tfr_1, tfr_2, tfr_3, tfr_4, w_ic, w_iv1, w_iv0, w_lc1, w_lst7, tkl_n, tkl_i, tkl_l, tkl_r, w_nil, true_and, and_true, Nat.reduceAdd, Nat.reduceSub, eq_self, tshm_14, tshm_31, tshm_32, tykm_31, tykm_32, tykm_14, tci_14, tci_15, tci_960, tshm_667, tshm_668, tshm_669, tshm_670, tykm_33, tci_700]
    refine tc_n (D := 2) (fun d' hd' => c_divides p13 c1 (by omega) hY hd') (by omega) ?_
    rintro M9 ⟨p15, -, p16⟩
    have c8 := Vr_E c8 p16 (by omega)
    have c1 := Vr_E c1 p16 (by omega)
    have p15' : Vr M9 2 (ar s) := p15
    try simp only [kb_X12_arcs_114, w_ald_0, w_bi, w_iv2, tfr_0, tfr_1, tfr_2, tfr_3, tfr_4, w_ic, w_iv1, w_iv0, w_lc1, w_lst7, tkl_n, tkl_i, tkl_l, tkl_r, w_nil, true_and, and_true, Nat.reduceAdd, Nat.reduceSub, eq_self, tshm_14, tshm_31, tshm_32, tykm_31, tykm_32, tykm_14, tci_14, tci_15, tci_960, tshm_667, tshm_668, tshm_669, tshm_670, tykm_33, tci_700]
    refine tc_n (D := 1) (fun d' hd' => c_copies (a := 2) (b := 9) (x := ar s) (by omega) (by omega) (by omega) p15' hd') (by omega) ?_
    rintro M10 ⟨p17, p18⟩
    have c8 := Vr_E c8 p18 (by omega)
    have c1 := Vr_E c1 p18 (by omega)
    try simp only [kb_X12_arcs_114, w_ald_0, w_bi, w_iv2, tfr_0, tfr_1, tfr_2, tfr_3, tfr_4, w_ic, w_iv1, w_iv0, w_lc1, w_lst7, tkl_n, tkl_i, tkl_l, tkl_r, w_nil, true_and, and_true, Nat.reduceAdd, Nat.reduceSub, eq_self, tshm_14, tshm_31, tshm_32, tykm_31, tykm_32, tykm_14, tci_14, tci_15, tci_960, tshm_667, tshm_668, tshm_669, tshm_670, tykm_33, tci_700]
    refine tc_n (D := 1) (fun d' hd' => c_copies (a := 8) (b := 0) (x := s) (by omega) (by omega) (by omega) c8 hd') (by omega) ?_
    rintro M11 ⟨p19, p20⟩
    have c9 := Vr_E p17 p20 (by omega)
    have c1 := Vr_E c1 p20 (by omega)
    try simp only [kb_X12_arcs_114, w_ald_0, w_bi, w_iv2, tfr_0, tfr_1, tfr_2, tfr_3, tfr_4, w_ic, w_iv1, w_iv0, w_lc1, w_lst7, tkl_n, tkl_i, tkl_l, tkl_r, w_nil, true_and, and_true, Nat.reduceAdd, Nat.reduceSub, eq_self, tshm_14, tshm_31, tshm_32, tykm_31, tykm_32, tykm_14, tci_14, tci_15, tci_960, tshm_667, tshm_668, tshm_669, tshm_670, tykm_33, tci_700]
    refine tc_n (D := 1) (fun d' hd' => c_shl (b := 6) (by omega) p19 (by omega) (by rw [pw_6]; exact Nat.lt_trans (sq_pw (by omega) (by omega)) (pw_lt (by decide))) hd') (by omega) ?_
    rintro M12 ⟨p21, p22⟩
    rw [pw_6] at p21
    have c9 := Vr_E c9 p22 (by omega)
    have c1 := Vr_E c1 p22 (by omega)
    try simp only [kb_X12_arcs_114, w_ald_0, w_bi, w_iv2, tfr_0, tfr_1, tfr_2, tfr_3, tfr_4, w_ic, w_iv1, w_iv0, w_lc1, w_lst7, tkl_n, tkl_i, tkl_l, tkl_r, w_nil, true_and, and_true, Nat.reduceAdd, Nat.reduceSub, eq_self, tshm_14, tshm_31, tshm_32, tykm_31, tykm_32, tykm_14, tci_14, tci_15, tci_960, tshm_667, tshm_668, tshm_669, tshm_670, tykm_33, tci_700]
    refine tc_n (D := 2) (fun d' hd' => c_divides p21 c1 (by omega) hY hd') (by omega) ?_
    rintro M13 ⟨p23, -, p24⟩
    have c9 := Vr_E c9 p24 (by omega)
    have p23' : Vr M13 2 (at0 s) := p23
    try simp only [kb_X12_arcs_114, w_ald_0, w_bi, w_iv2, tfr_0, tfr_1, tfr_2, tfr_3, tfr_4, w_ic, w_iv1, w_iv0, w_lc1, w_lst7, tkl_n, tkl_i, tkl_l, tkl_r, w_nil, true_and, and_true, Nat.reduceAdd, Nat.reduceSub, eq_self, tshm_14, tshm_31, tshm_32, tykm_31, tykm_32, tykm_14, tci_14, tci_15, tci_960, tshm_667, tshm_668, tshm_669, tshm_670, tykm_33, tci_700]
    refine tc_n (D := 1) (fun d' hd' => c_copies (a := 2) (b := 7) (x := at0 s) (by omega) (by omega) (by omega) p23' hd') (by omega) ?_
    rintro M14 ⟨p25, p26⟩
    have c9 := Vr_E c9 p26 (by omega)
    try simp only [kb_X12_arcs_114, w_ald_0, w_bi, w_iv2, tfr_0, tfr_1, tfr_2, tfr_3, tfr_4, w_ic, w_iv1, w_iv0, w_lc1, w_lst7, tkl_n, tkl_i, tkl_l, tkl_r, w_nil, true_and, and_true, Nat.reduceAdd, Nat.reduceSub, eq_self, tshm_14, tshm_31, tshm_32, tykm_31, tykm_32, tykm_14, tci_14, tci_15, tci_960, tshm_667, tshm_668, tshm_669, tshm_670, tykm_33, tci_700]
    refine tc_n (D := 1) (fun d' hd' => c_copies (a := 2) (b := 8) (x := at0 s) (by omega) (by omega) (by omega) (Vr_E p23' p26 (by omega)) hd') (by omega) ?_
    rintro M15 ⟨p27, p28⟩
    have c9 := Vr_E c9 p28 (by omega)
    try simp only [kb_X12_arcs_114, w_ald_0, w_bi, w_iv2, tfr_0, tfr_1, tfr_2, tfr_3, tfr_4, w_ic, w_iv1, w_iv0, w_lc1, w_lst7, tkl_n, tkl_i, tkl_l, tkl_r, w_nil, true_and, and_true, Nat.reduceAdd, Nat.reduceSub, eq_self, tshm_14, tshm_31, tshm_32, tykm_31, tykm_32, tykm_14, tci_14, tci_15, tci_960, tshm_667, tshm_668, tshm_669, tshm_670, tykm_33, tci_700]
    refine g M15 _ rfl ht200 rfl (by omega) (by omega) (Vr_E p25 p28 (by omega)) p27 c9 (qE_tr q2 ?_)
    have qq : ∀ {S : Int → Prop} {A B : tM}, rE S A B → (∀ r, S r → rEx r) → qE rEx A B := qx
    refine qE_tr (qq p2 ?_) (qE_tr (qq p4 ?_) (qE_tr (qq p6 ?_) (qE_tr (qq p8 ?_) (qE_tr (qq p10 ?_) (qE_tr (qq p12 ?_) (qE_tr (qq p14 ?_) (qE_tr (qq p16 ?_) (qE_tr (qq p18 ?_) (qE_tr (qq p20 ?_) (qE_tr (qq p22 ?_) (qE_tr (qq p24 ?_) (qE_tr (qq p26 ?_) (qq p28 ?_)))))))))))))
    all_goals
      intro r hr
      unfold rEx
      omega
  have n24 : Z ≠ 0 → tT e d 3590 24 [some (.inr (.inr (.inl 664))), some (.inr (.inl u)), none, some (.inr (.inl l)), none, some (.inl up), none, none, none, none, none] [] M n Q := by
    intro h0
    have hsz : (u * 1000000000 + l).natAbs = z := by rw [hZ, hzz]
    have hx := at_x
    have hpp : PIc / 2 ≤ PIc := Nat.div_le_self _ _
    refine tb_X12_arcs_24 (c := false) ?_
    simp only [kb_X12_arcs_24, w_ald_0, w_iv0, tfr_0, tfr_1, tfr_2, tfr_3, tfr_4, w_bi, w_lld_1, w_lld_3, w_iv3, w_ld2, w_lc0, w_iv2, w_if_le, w_ic, w_goto, true_and, and_true, Nat.reduceAdd, Nat.reduceSub, eq_self, tshm_14, tshm_31, tshm_32, tykm_31, tykm_32, tykm_14, tci_14, tci_15, tci_960, tshm_667, tshm_668, tshm_669, tshm_670, tykm_33, tci_700]
    refine tc_n (D := 4) (fun d' hd' => c_needsPi hK hd') (by omega) ?_
    rintro N0 ⟨k2, -, k3⟩
    have w0 : qE rEx M N0 := qE_mono k3 (fun r hr => by unfold rPi at hr; unfold rEx; omega)
    have k1 : KI N0 := k3.2.1 hK
    have g := n114 h0 N0 k1 k2 w0
    try simp only [kb_X12_arcs_24, w_ald_0, w_iv0, tfr_0, tfr_1, tfr_2, tfr_3, tfr_4, w_bi, w_lld_1, w_lld_3, w_iv3, w_ld2, w_lc0, w_iv2, w_if_le, w_ic, w_goto, true_and, and_true, Nat.reduceAdd, Nat.reduceSub, eq_self, tshm_14, tshm_31, tshm_32, tykm_31, tykm_32, tykm_14, tci_14, tci_15, tci_960, tshm_667, tshm_668, tshm_669, tshm_670, tykm_33, tci_700]
    refine tc_n (D := 2) (fun d' hd' => c_size (row := 8) (by omega) hl (by omega) hd') (by omega) ?_
    rintro M2 ⟨p1, p2⟩
    rw [hsz] at p1
    try simp only [kb_X12_arcs_24, w_ald_0, w_iv0, tfr_0, tfr_1, tfr_2, tfr_3, tfr_4, w_bi, w_lld_1, w_lld_3, w_iv3, w_ld2, w_lc0, w_iv2, w_if_le, w_ic, w_goto, true_and, and_true, Nat.reduceAdd, Nat.reduceSub, eq_self, tshm_14, tshm_31, tshm_32, tykm_31, tykm_32, tykm_14, tci_14, tci_15, tci_960, tshm_667, tshm_668, tshm_669, tshm_670, tykm_33, tci_700]
    refine tc_n (D := 1) (fun d' hd' => c_sets (row := 9) (u := 10) (l := 0) (by omega) (by omega) (by omega) hd') (by omega) ?_
    rintro M3 ⟨p3, p4⟩
    rw [show 10 * 1000000000 + 0 = 10000000000 from rfl] at p3
    have p1' := Vr_E p1 p4 (by omega)
    have w3 : qE rEx N0 M3 := qE_tr (qx p2 (fun r hr => by unfold rEx; omega)) (qx p4 (fun r hr => by unfold rEx; omega))
    try simp only [kb_X12_arcs_24, w_ald_0, w_iv0, tfr_0, tfr_1, tfr_2, tfr_3, tfr_4, w_bi, w_lld_1, w_lld_3, w_iv3, w_ld2, w_lc0, w_iv2, w_if_le, w_ic, w_goto, true_and, and_true, Nat.reduceAdd, Nat.reduceSub, eq_self, tshm_14, tshm_31, tshm_32, tykm_31, tykm_32, tykm_14, tci_14, tci_15, tci_960, tshm_667, tshm_668, tshm_669, tshm_670, tykm_33, tci_700]
    have hc := cmp_c z 10000000000
    have hc2 : cmpv z 10000000000 ≤ 0 ∧ z ≤ 10000000000 ∨ 0 < cmpv z 10000000000 ∧ 10000000000 < z := by
      unfold cmpv
      split
      · left; omega
      · split
        · left; omega
        · right; omega
    refine tc_i (D := 1) (fun d' hd' => c_compares (by omega) (by omega) p1' p3 hd') (by omega) ?_
    rintro zz _ ⟨rfl, rfl⟩
    try simp only [kb_X12_arcs_24, w_ald_0, w_iv0, tfr_0, tfr_1, tfr_2, tfr_3, tfr_4, w_bi, w_lld_1, w_lld_3, w_iv3, w_ld2, w_lc0, w_iv2, w_if_le, w_ic, w_goto, true_and, and_true, Nat.reduceAdd, Nat.reduceSub, eq_self, tshm_14, tshm_31, tshm_32, tykm_31, tykm_32, tykm_14, tci_14, tci_15, tci_960, tshm_667, tshm_668, tshm_669, tshm_670, tykm_33, tci_700]
    refine ⟨by omega, fun h => ?_, fun h => ?_⟩
    · have hle : z ≤ 10000000000 := by omega
      have hF0 : atV (z * U4) = atF z := by
        unfold atF
        rw [if_pos hle]
      have hb : z * tn 44 < pw 62 := by
        have h1 : z * tn 44 ≤ tn 10 * tn 44 := Nat.mul_le_mul_right _ (by rw [tn_10]; exact hle)
        rw [← tn_add] at h1
        exact Nat.lt_of_le_of_lt h1 (tn_pw (by decide))
      have hs6 : z * U4 ≤ U6 := by
        rw [U6_U4]
        exact Nat.mul_le_mul_right _ hle
      refine tb_X12_arcs_61 (c := false) ?_
      simp only [kb_X12_arcs_61, w_ic, w_nil, true_and, and_true, Nat.reduceAdd, Nat.reduceSub, eq_self]
      refine tb_X12_arcs_62 (c := false) ?_
      simp only [kb_X12_arcs_62, w_ist6, tkl_n, tkl_i, tkl_l, tkl_r, w_ild6, w_if_eq, w_ald_0, w_ic, w_iv1, tfr_0, tfr_1, tfr_2, tfr_3, tfr_4, w_bi, w_iv2, w_ist7, w_iv0, w_goto, true_and, and_true, Nat.reduceAdd, Nat.reduceSub, eq_self, tshm_14, tshm_31, tshm_32, tykm_31, tykm_32, tykm_14, tci_14, tci_15, tci_960, tshm_667, tshm_668, tshm_669, tshm_670, tykm_33, tci_700]
      refine ⟨by omega, fun _ => ?_, fun h => absurd trivial h⟩
      refine tb_X12_arcs_104 (c := false) ?_
      simp only [kb_X12_arcs_104, w_ald_0, w_bi, w_iv2, tfr_0, tfr_1, tfr_2, tfr_3, tfr_4, w_ist7, tkl_n, tkl_i, tkl_l, tkl_r, w_nil, true_and, and_true, Nat.reduceAdd, Nat.reduceSub, eq_self, tshm_14, tshm_31, tshm_32, tykm_31, tykm_32, tykm_14, tci_14, tci_15, tci_960, tshm_667, tshm_668, tshm_669, tshm_670, tykm_33, tci_700]
      refine tc_i (D := 2) (fun d' hd' => c_tens (a := 8) (b := 44) (by omega) p1' (by omega) hb hd') (by omega) ?_
      rintro z6 M4 ⟨-, p5, p6⟩
      rw [← U4_tn] at p5
      try simp only [kb_X12_arcs_104, w_ald_0, w_bi, w_iv2, tfr_0, tfr_1, tfr_2, tfr_3, tfr_4, w_ist7, tkl_n, tkl_i, tkl_l, tkl_r, w_nil, true_and, and_true, Nat.reduceAdd, Nat.reduceSub, eq_self, tshm_14, tshm_31, tshm_32, tykm_31, tykm_32, tykm_14, tci_14, tci_15, tci_960, tshm_667, tshm_668, tshm_669, tshm_670, tykm_33, tci_700]
      exact g 0 _ (z * U4) hs6 (Or.inl ⟨rfl, hF0⟩) M4 p5 (qE_tr w3 (qx p6 (fun r hr => by unfold rEx; omega)))
    · have hgt : 10000000000 < z := by omega
      have hr := atV_r hgt hz3
      have hF0 : PIc / 2 - atV (A6 / z) = atF z := by
        unfold atF
        rw [if_neg (by omega)]
      have hs6 : A6 / z ≤ U6 := by
        have h1 : A6 / z ≤ A6 / 10000000001 := Nat.div_le_div_left hgt (by decide)
        have := A6_top
        omega
      have hA : U6 * tn 10 = A6 := by rw [U6_tn, ← tn_add, A6_def, tn_def]
      refine tb_X12_arcs_62 (c := false) ?_
      simp only [kb_X12_arcs_62, w_ist6, tkl_n, tkl_i, tkl_l, tkl_r, w_ild6, w_if_eq, w_ald_0, w_ic, w_iv1, tfr_0, tfr_1, tfr_2, tfr_3, tfr_4, w_bi, w_iv2, w_ist7, w_iv0, w_goto, true_and, and_true, Nat.reduceAdd, Nat.reduceSub, eq_self, tshm_14, tshm_31, tshm_32, tykm_31, tykm_32, tykm_14, tci_14, tci_15, tci_960, tshm_667, tshm_668, tshm_669, tshm_670, tykm_33, tci_700]
      refine ⟨by omega, fun h => absurd h (by decide), fun _ => ?_⟩
      refine tc_n (D := 2) (fun d' hd' => c_unit (row := 0) (by omega) hd') (by omega) ?_
      rintro M4 ⟨p5, p6⟩
      try simp only [kb_X12_arcs_62, w_ist6, tkl_n, tkl_i, tkl_l, tkl_r, w_ild6, w_if_eq, w_ald_0, w_ic, w_iv1, tfr_0, tfr_1, tfr_2, tfr_3, tfr_4, w_bi, w_iv2, w_ist7, w_iv0, w_goto, true_and, and_true, Nat.reduceAdd, Nat.reduceSub, eq_self, tshm_14, tshm_31, tshm_32, tykm_31, tykm_32, tykm_14, tci_14, tci_15, tci_960, tshm_667, tshm_668, tshm_669, tshm_670, tykm_33, tci_700]
      refine tc_i (D := 2) (fun d' hd' => c_tens (a := 0) (b := 10) (by omega) p5 (by omega) ?_ hd') (by omega) ?_
      · rw [U6_tn, ← tn_add]
        exact tn_pw (by decide)
      rintro z6 M5 ⟨-, p7, p8⟩
      rw [hA] at p7
      have p1a := Vr_E (Vr_E p1' p6 (by omega)) p8 (by omega)
      try simp only [kb_X12_arcs_62, w_ist6, tkl_n, tkl_i, tkl_l, tkl_r, w_ild6, w_if_eq, w_ald_0, w_ic, w_iv1, tfr_0, tfr_1, tfr_2, tfr_3, tfr_4, w_bi, w_iv2, w_ist7, w_iv0, w_goto, true_and, and_true, Nat.reduceAdd, Nat.reduceSub, eq_self, tshm_14, tshm_31, tshm_32, tykm_31, tykm_32, tykm_14, tci_14, tci_15, tci_960, tshm_667, tshm_668, tshm_669, tshm_670, tykm_33, tci_700]
      refine tc_n (D := 1) (fun d' hd' => c_copies (a := 8) (b := 1) (x := z) (by omega) (by omega) (by omega) p1a hd') (by omega) ?_
      rintro M6 ⟨p9, p10⟩
      try simp only [kb_X12_arcs_62, w_ist6, tkl_n, tkl_i, tkl_l, tkl_r, w_ild6, w_if_eq, w_ald_0, w_ic, w_iv1, tfr_0, tfr_1, tfr_2, tfr_3, tfr_4, w_bi, w_iv2, w_ist7, w_iv0, w_goto, true_and, and_true, Nat.reduceAdd, Nat.reduceSub, eq_self, tshm_14, tshm_31, tshm_32, tykm_31, tykm_32, tykm_14, tci_14, tci_15, tci_960, tshm_667, tshm_668, tshm_669, tshm_670, tykm_33, tci_700]
      refine tc_n (D := 2) (fun d' hd' => c_divides (Vr_E p7 p10 (by omega)) p9 (by omega) (Nat.lt_of_le_of_lt hz3 (Nat.lt_trans (show 30000000000000000000000 < tn 23 by rw [tn_23]; decide) (tn_pw (by decide)))) hd') (by omega) ?_
      rintro M7 ⟨p11, -, p12⟩
      try simp only [kb_X12_arcs_62, w_ist6, tkl_n, tkl_i, tkl_l, tkl_r, w_ild6, w_if_eq, w_ald_0, w_ic, w_iv1, tfr_0, tfr_1, tfr_2, tfr_3, tfr_4, w_bi, w_iv2, w_ist7, w_iv0, w_goto, true_and, and_true, Nat.reduceAdd, Nat.reduceSub, eq_self, tshm_14, tshm_31, tshm_32, tykm_31, tykm_32, tykm_14, tci_14, tci_15, tci_960, tshm_667, tshm_668, tshm_669, tshm_670, tykm_33, tci_700]
      refine tc_n (D := 1) (fun d' hd' => c_copies (a := 2) (b := 8) (x := A6 / z) (by omega) (by omega) (by omega) p11 hd') (by omega) ?_
      rintro M8 ⟨p13, p14⟩
      try simp only [kb_X12_arcs_62, w_ist6, tkl_n, tkl_i, tkl_l, tkl_r, w_ild6, w_if_eq, w_ald_0, w_ic, w_iv1, tfr_0, tfr_1, tfr_2, tfr_3, tfr_4, w_bi, w_iv2, w_ist7, w_iv0, w_goto, true_and, and_true, Nat.reduceAdd, Nat.reduceSub, eq_self, tshm_14, tshm_31, tshm_32, tykm_31, tykm_32, tykm_14, tci_14, tci_15, tci_960, tshm_667, tshm_668, tshm_669, tshm_670, tykm_33, tci_700]
      refine g 1 _ (A6 / z) hs6 (Or.inr ⟨rfl, by omega, hF0⟩) M8 p13 (qE_tr w3 (qE_tr (qx p6 ?_) (qE_tr (qx p8 ?_) (qE_tr (qx p10 ?_) (qE_tr (qx p12 ?_) (qx p14 ?_))))))
      all_goals
        intro r hr
        unfold rEx
        omega
  rw [← hQ]
  refine tst_X12_arcs ?_
  refine tb_X12_arcs_0 (c := false) ?_
  simp only [kb_X12_arcs_0, w_lld_1, w_lc0, w_lcmp, ne_eq, tlc_r, tlc_eq, tlc_lt, tlc_ge, tlc_gt, tlc_le, w_if_ne, w_lld_3, w_ald_0, w_pf_14_4, w_pf_14_5, w_ic, w_ire, trg, true_and, and_true, Nat.reduceAdd, Nat.reduceSub, eq_self, tshm_14, tshm_31, tshm_32, tykm_31, tykm_32, tykm_14, tci_14, tci_15, tci_960, tshm_667, tshm_668, tshm_669, tshm_670, tykm_33, tci_700]
  refine ⟨by omega, fun h => n24 (by omega), fun h => ?_⟩
  refine ⟨by omega, fun h2 => n24 (by omega), fun h2 => ?_⟩
  have hz0 : Z = 0 := by omega
  have k1 : zb (tU (tU M 664 4 0) 664 5 0) = 0 := by
    unfold zb
    rw [u5_4, u4_4, u5_5]
    rfl
  have k2 : atb up D Z = 0 := by
    unfold atb
    rw [if_pos hz0]
  rw [hQ]
  refine ⟨by omega, _, rfl, rfl, Or.inl ⟨rfl, by rw [k1, k2], by rw [k2]; omega, ?_⟩, qE_U (rU_u (uE_tr uE_4 uE_5)) rEx_n.1 rEx_n.2.1 rEx_n.2.2⟩
  unfold cb
  rw [u5_4, u4_4, u5_5]
  omega
end MODEL
