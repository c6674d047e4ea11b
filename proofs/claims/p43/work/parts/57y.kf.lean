/-! WHAT HOLDS BETWEEN CALLS: kept by read. -/
/-- how many points there are among the first signs -/
def ptS (A : Nat → Int) : Nat → Nat
  | 0 => 0
  | k + 1 => ptS A k + (if A k = 46 then 1 else 0)
theorem ptS_m (A : Nat → Int) {j k : Nat} (h : j ≤ k) : ptS A j ≤ ptS A k := by
  induction k with
  | zero =>
    rw [show j = 0 by omega]
    exact Nat.le_refl _
  | succ k ih =>
    rcases Nat.lt_or_ge j (k + 1) with g | g
    · exact Nat.le_trans (ih (by omega)) (Nat.le_add_right _ _)
    · rw [show j = k + 1 by omega]
      exact Nat.le_refl _
/-- only the number changes -/
def TKF (M M' : tM) : Prop := (CI M' ∧ pE 0 M M') ∧ ∀ (k : Nat) (i : Int), k ≠ 80 → ¬ (k = 79 ∧ i = 1) → M' k i = M k i
theorem TKF_tr {M M1 M2 : tM} (h1 : TKF M M1) (h2 : TKF M1 M2) : TKF M M2 := ⟨⟨h2.1.1, pE_tr h1.1.2 h2.1.2⟩, fun k i a b => (h2.2 k i a b).trans (h1.2 k i a b)⟩
theorem KA_tk {M M1 : tM} (h : KW M) (f : TKF M M1) : KA M M1 := KA_f h f.1.1 f.1.2 (RO_u h.1.1.2 (f.2 79 4 (by decide) (by decide)) (f.2 79 5 (by decide) (by decide))) (fun k i g => f.2 k i (by unfold KPC at g; omega) (by unfold KPC at g; omega))
section HAND
variable {e : tE} {d n : Nat} {M : tM}
/-- a sign, or none -/
def sgA (M : tM) (p : Int) : Int := if 0 ≤ p ∧ p < M 1 1 then M 2 p else 0
theorem sgA_r {M : tM} (hC : CI M) (p : Int) : 0 ≤ sgA M p ∧ sgA M p ≤ 65535 := by
  unfold sgA
  split
  · rename_i h
    have g := hC.1 2 p (by decide) h.1
    rw [tsx_2] at g
    exact g
  · decide
theorem z_tat {p : Int} (hp : (-2147483648 ≤ p ∧ p ≤ 2147483647)) (hC : CI M) : tC e d 3075 [.inr (.inr (.inl 1)), .inl p] M n (tQi n (fun z M' => z = sgA M p ∧ M' = M)) := by
  have t1 := tx_r hC
  have sr := sgA_r hC p
  refine tst_X10_at ?_
  have n22 : ∀ z : Int, z = sgA M p → tT e d 3075 22 [some (.inr (.inr (.inl (1)))), some (.inl (p))] [.inl z] M n (tQi n (fun z M' => z = sgA M p ∧ M' = M)) := by
    intro z hz
    have h2 : 0 ≤ z ∧ z ≤ 65535 := by rw [hz]; exact sr
    refine tb_X10_at_22 (c := false) ?_
    simp only [kb_X10_at_22, w_ire, trg, true_and, and_true, Nat.reduceAdd, Nat.reduceSub, eq_self]
    exact ⟨by omega, _, rfl, rfl, hz, rfl⟩
  have n12 : ¬ (0 ≤ p ∧ p < M 1 1) → tT e d 3075 12 [some (.inr (.inr (.inl (1)))), some (.inl (p))] [] M n (tQi n (fun z M' => z = sgA M p ∧ M' = M)) := by
    intro h
    refine tb_X10_at_12 (c := false) ?_
    simp only [kb_X10_at_12, w_ic, w_goto, true_and, and_true, Nat.reduceAdd, Nat.reduceSub, eq_self]
    exact n22 0 (by unfold sgA; rw [if_neg h])
  refine tb_X10_at_0 (c := false) ?_
  simp only [kb_X10_at_0, w_ild_1, w_if_lt, w_ald_0, w_gf_12_1, tw_f, w_ic_lt, w_nil, true_and, and_true, Nat.reduceAdd, Nat.reduceSub, eq_self, tsx_1, tsx_2, tyx_12, tyx_15, tcx_12]
  repeat refine And.intro (by omega) ?_
  refine ⟨fun _ => n12 (by omega), fun _ => ?_⟩
  repeat refine And.intro (by omega) ?_
  refine ⟨fun g => ?_, fun _ => n12 (by omega)⟩
  refine tb_X10_at_16 (c := false) ?_
  simp only [kb_X10_at_16, w_ald_0, w_gf_12_0, tw_f, w_ild_1, w_ca, w_nil, true_and, and_true, Nat.reduceAdd, Nat.reduceSub, eq_self, tsx_1, tsx_2, tyx_12, tyx_15, tcx_12]
  repeat refine And.intro (by omega) ?_
  exact n22 _ (by unfold sgA; rw [if_pos (by omega)])
theorem z_isDig {p : Int} (hp : (-2147483648 ≤ p ∧ p ≤ 2147483647)) (hC : CI M) (hd : 1 ≤ d) : tC e d 3077 [.inr (.inr (.inl 1)), .inl p] M n (tQi n (fun z M' => ((z = 1 ∧ (48 ≤ sgA M p ∧ sgA M p ≤ 57)) ∨ (z = 0 ∧ ¬ (48 ≤ sgA M p ∧ sgA M p ≤ 57))) ∧ M' = M)) := by
  have sr := sgA_r hC p
  refine tst_X10_isDigitAt ?_
  have n23 : ∀ (z : Int) (w : Option tV), ((z = 1 ∧ (48 ≤ sgA M p ∧ sgA M p ≤ 57)) ∨ (z = 0 ∧ ¬ (48 ≤ sgA M p ∧ sgA M p ≤ 57))) → tT e d 3077 23 [some (.inr (.inr (.inl (1)))), some (.inl (p)), w] [.inl z] M n (tQi n (fun z M' => ((z = 1 ∧ (48 ≤ sgA M p ∧ sgA M p ≤ 57)) ∨ (z = 0 ∧ ¬ (48 ≤ sgA M p ∧ sgA M p ≤ 57))) ∧ M' = M)) := by
    intro z w hz
    refine tb_X10_isDigitAt_23 (c := false) ?_
    simp only [kb_X10_isDigitAt_23, w_ire, trg, true_and, and_true, Nat.reduceAdd, Nat.reduceSub, eq_self]
    exact ⟨by omega, _, rfl, rfl, hz, rfl⟩
  have n22 : ∀ w : Option tV, ¬ (48 ≤ sgA M p ∧ sgA M p ≤ 57) → tT e d 3077 22 [some (.inr (.inr (.inl (1)))), some (.inl (p)), w] [] M n (tQi n (fun z M' => ((z = 1 ∧ (48 ≤ sgA M p ∧ sgA M p ≤ 57)) ∨ (z = 0 ∧ ¬ (48 ≤ sgA M p ∧ sgA M p ≤ 57))) ∧ M' = M)) := by
    intro w h
    refine tb_X10_isDigitAt_22 (c := false) ?_
    simp only [kb_X10_isDigitAt_22, w_ic, w_nil, true_and, and_true, Nat.reduceAdd, Nat.reduceSub, eq_self]
    exact n23 0 w (Or.inr ⟨rfl, h⟩)
  refine tb_X10_isDigitAt_0 (c := false) ?_
  simp only [kb_X10_isDigitAt_0, w_ald_0, w_ild_1, w_iv1, tfr_0, tfr_1, tfr_2, tfr_3, tfr_4, w_ist_2, tkl_n, tkl_i, tkl_l, tkl_r, w_ild_2, w_bi, w_ic_lt, w_ic_gt, w_ic, w_goto, true_and, and_true, Nat.reduceAdd, Nat.reduceSub, eq_self, tsx_1, tsx_2, tyx_12, tyx_15, tcx_12]
  refine tc_i (D := 0) (fun d' hd' => z_tat hp hC) (by omega) ?_
  rintro z M1 ⟨rfl, rfl⟩
  try simp only [kb_X10_isDigitAt_0, w_ald_0, w_ild_1, w_iv1, tfr_0, tfr_1, tfr_2, tfr_3, tfr_4, w_ist_2, tkl_n, tkl_i, tkl_l, tkl_r, w_ild_2, w_bi, w_ic_lt, w_ic_gt, w_ic, w_goto, true_and, and_true, Nat.reduceAdd, Nat.reduceSub, eq_self, tsx_1, tsx_2, tyx_12, tyx_15, tcx_12]
  repeat refine And.intro (by omega) ?_
  refine ⟨fun _ => n22 _ (by omega), fun _ => ?_⟩
  repeat refine And.intro (by omega) ?_
  refine ⟨fun _ => n22 _ (by omega), fun _ => ?_⟩
  exact n23 1 _ (Or.inl ⟨rfl, by omega⟩)
theorem z_isNumber {c : Nat} (hc : M 1 1 = (c : Int)) (hC : CI M) (hd : 2 ≤ d) : tC e d 3078 [.inr (.inr (.inl 1))] M n (tQi n (fun z M' => (0 ≤ z ∧ z ≤ 1) ∧ (z = 1 → ptS (fun k => M 2 (k : Int)) c ≤ 1) ∧ M' = M)) := by
  have t1 := tx_r hC
  have sr := sgA_r hC 0
  refine tst_X10_isNumber ?_
  have n104 : ∀ (z : Int) (L1 L2 L3 L4 : Option tV), (0 ≤ z ∧ z ≤ 1) → (z = 1 → ptS (fun k => M 2 (k : Int)) c ≤ 1) → tT e d 3078 104 [some (.inr (.inr (.inl (1)))), L1, L2, L3, L4] [.inl z] M n (tQi n (fun z M' => (0 ≤ z ∧ z ≤ 1) ∧ (z = 1 → ptS (fun k => M 2 (k : Int)) c ≤ 1) ∧ M' = M)) := by
    intro z L1 L2 L3 L4 hz h
    refine tb_X10_isNumber_104 (c := false) ?_
    simp only [kb_X10_isNumber_104, w_ire, trg, true_and, and_true, Nat.reduceAdd, Nat.reduceSub, eq_self]
    exact ⟨by omega, _, rfl, rfl, hz, h, rfl⟩
  have n103 : ∀ (L1 L2 L3 L4 : Option tV), tT e d 3078 103 [some (.inr (.inr (.inl (1)))), L1, L2, L3, L4] [] M n (tQi n (fun z M' => (0 ≤ z ∧ z ≤ 1) ∧ (z = 1 → ptS (fun k => M 2 (k : Int)) c ≤ 1) ∧ M' = M)) := by
    intro L1 L2 L3 L4
    refine tb_X10_isNumber_103 (c := false) ?_
    simp only [kb_X10_isNumber_103, w_ic, w_nil, true_and, and_true, Nat.reduceAdd, Nat.reduceSub, eq_self]
    exact n104 0 _ _ _ _ (by decide) (fun q => absurd q (by decide))
  have nl : ∀ (fu : Nat) (i : Nat) (s dg pt : Int), c - i = fu → i ≤ c → (0 ≤ dg ∧ dg ≤ (i : Int)) → (0 ≤ pt ∧ pt ≤ (i : Int)) → pt = ((ptS (fun k => M 2 (k : Int)) i : Nat) : Int) → tT e d 3078 33 [some (.inr (.inr (.inl (1)))), some (.inl (s)), some (.inl (dg)), some (.inl (pt)), some (.inl ((i : Int)))] [] M n (tQi n (fun z M' => (0 ≤ z ∧ z ≤ 1) ∧ (z = 1 → ptS (fun k => M 2 (k : Int)) c ≤ 1) ∧ M' = M)) := by
    intro fu
    induction fu with
    | zero =>
      intro i s dg pt hf hi hdg hpt hp
      have hic : i = c := by omega
      subst hic
      refine tb_X10_isNumber_33 (c := false) ?_
      simp only [kb_X10_isNumber_33, w_ild4, w_ald_0, w_gf_12_1, tw_f, w_ic_ge, w_iv1, tfr_0, tfr_1, tfr_2, tfr_3, tfr_4, w_if_eq, w_inc2, tkl_n, tkl_i, tkl_l, tkl_r, w_goto, true_and, and_true, Nat.reduceAdd, Nat.reduceSub, eq_self, tsx_1, tsx_2, tyx_12, tyx_15, tcx_12]
      repeat refine And.intro (by omega) ?_
      refine ⟨fun _ => ?_, fun q => absurd (by omega) q⟩
      refine tb_X10_isNumber_83 (c := false) ?_
      simp only [kb_X10_isNumber_83, w_ild_2, w_ic, w_ic_lt, w_bi, w_ic_gt, w_ild_3, w_goto, true_and, and_true, Nat.reduceAdd, Nat.reduceSub, eq_self]
      repeat refine And.intro (by omega) ?_
      refine ⟨fun _ => n103 _ _ _ _, fun _ => ?_⟩
      repeat refine And.intro (by omega) ?_
      refine ⟨fun _ => n103 _ _ _ _, fun _ => ?_⟩
      repeat refine And.intro (by omega) ?_
      refine ⟨fun _ => n103 _ _ _ _, fun _ => ?_⟩
      exact n104 1 _ _ _ _ (by decide) (fun _ => by omega)
    | succ fu ih =>
      intro i s dg pt hf hi hdg hpt hp
      have es : sgA M (i : Int) = M 2 (i : Int) := by unfold sgA; rw [if_pos (by omega)]
      have sri := sgA_r hC (i : Int)
      rw [es] at sri
      have p1 : ptS (fun k => M 2 (k : Int)) (i + 1) = ptS (fun k => M 2 (k : Int)) i + (if M 2 (i : Int) = 46 then 1 else 0) := rfl
      have n77 : ∀ dg2 pt2 : Int, (0 ≤ dg2 ∧ dg2 ≤ (i : Int) + 1) → (0 ≤ pt2 ∧ pt2 ≤ (i : Int) + 1) → pt2 = ((ptS (fun k => M 2 (k : Int)) (i + 1) : Nat) : Int) → tT e d 3078 77 [some (.inr (.inr (.inl (1)))), some (.inl (s)), some (.inl (dg2)), some (.inl (pt2)), some (.inl ((i : Int)))] [] M n (tQi n (fun z M' => (0 ≤ z ∧ z ≤ 1) ∧ (z = 1 → ptS (fun k => M 2 (k : Int)) c ≤ 1) ∧ M' = M)) := by
        intro dg2 pt2 h1 h2 h3
        refine tb_X10_isNumber_77 (c := false) ?_
        simp only [kb_X10_isNumber_77, w_inc4, tkl_n, tkl_i, tkl_l, tkl_r, w_goto, true_and, and_true, Nat.reduceAdd, Nat.reduceSub, eq_self]
        repeat refine And.intro (by omega) ?_
        rw [show ((i : Nat) : Int) + 1 = ((i + 1 : Nat) : Int) by omega]
        exact ih (i + 1) s dg2 pt2 (by omega) (by omega) (by omega) (by omega) h3
      refine tb_X10_isNumber_33 (c := false) ?_
      simp only [kb_X10_isNumber_33, w_ild4, w_ald_0, w_gf_12_1, tw_f, w_ic_ge, w_iv1, tfr_0, tfr_1, tfr_2, tfr_3, tfr_4, w_if_eq, w_inc2, tkl_n, tkl_i, tkl_l, tkl_r, w_goto, true_and, and_true, Nat.reduceAdd, Nat.reduceSub, eq_self, tsx_1, tsx_2, tyx_12, tyx_15, tcx_12]
      repeat refine And.intro (by omega) ?_
      first | refine ⟨fun q => absurd q (by omega), fun _ => ?_⟩ | refine fun _ => ?_
      repeat refine And.intro (by omega) ?_
      refine tc_i (D := 1) (fun d' hd' => z_isDig (by omega) hC hd') (by omega) ?_
      rintro z M1 ⟨hz, rfl⟩
      rw [es] at hz
      try simp only [kb_X10_isNumber_33, w_ild4, w_ald_0, w_gf_12_1, tw_f, w_ic_ge, w_iv1, tfr_0, tfr_1, tfr_2, tfr_3, tfr_4, w_if_eq, w_inc2, tkl_n, tkl_i, tkl_l, tkl_r, w_goto, true_and, and_true, Nat.reduceAdd, Nat.reduceSub, eq_self, tsx_1, tsx_2, tyx_12, tyx_15, tcx_12]
      repeat refine And.intro (by omega) ?_
      refine ⟨fun q => ?_, fun q => ?_⟩
      · refine tb_X10_isNumber_57 (c := false) ?_
        simp only [kb_X10_isNumber_57, w_ald_0, w_gf_12_0, tw_f, w_ild4, w_ca, w_bi, w_ic_ne, w_inc3, tkl_n, tkl_i, tkl_l, tkl_r, w_goto, true_and, and_true, Nat.reduceAdd, Nat.reduceSub, eq_self, tsx_1, tsx_2, tyx_12, tyx_15, tcx_12]
        repeat refine And.intro (by omega) ?_
        refine ⟨fun _ => ?_, fun _ => ?_⟩
        · refine tb_X10_isNumber_75 (c := false) ?_
          simp only [kb_X10_isNumber_75, w_ic, w_ire, trg, true_and, and_true, Nat.reduceAdd, Nat.reduceSub, eq_self]
          exact ⟨by decide, _, rfl, rfl, by decide, fun q => absurd q (by decide), rfl⟩
        · repeat refine And.intro (by omega) ?_
          refine n77 dg (pt + 1) (by omega) (by omega) ?_
          rw [p1, if_pos (by omega)]
          omega
      · repeat refine And.intro (by omega) ?_
        refine n77 (dg + 1) pt (by omega) (by omega) ?_
        rw [p1, if_neg (by omega)]
        omega
  have n25 : ∀ s : Nat, (s = 0 ∨ (s = 1 ∧ 1 ≤ c ∧ M 2 0 ≠ 46)) → tT e d 3078 25 [some (.inr (.inr (.inl (1)))), none, none, none, none] [.inl (s : Int)] M n (tQi n (fun z M' => (0 ≤ z ∧ z ≤ 1) ∧ (z = 1 → ptS (fun k => M 2 (k : Int)) c ≤ 1) ∧ M' = M)) := by
    intro s hs
    refine tb_X10_isNumber_25 (c := false) ?_
    simp only [kb_X10_isNumber_25, w_ist_1, tkl_n, tkl_i, tkl_l, tkl_r, w_ic, w_ist_2, w_ist_3, w_ild_1, w_ist4, w_nil, true_and, and_true, Nat.reduceAdd, Nat.reduceSub, eq_self]
    refine nl (c - s) s (s : Int) 0 0 rfl (by omega) (by omega) (by omega) ?_
    rcases hs with rfl | ⟨rfl, h1, h2⟩
    · rfl
    · show (0 : Int) = ((0 + (if M 2 ((0 : Nat) : Int) = 46 then 1 else 0) : Nat) : Int)
      have h3 : ¬ M 2 ((0 : Nat) : Int) = 46 := h2
      rw [if_neg h3]
      rfl
  have e0 : sgA M 0 = 43 ∨ sgA M 0 = 45 → 1 ≤ c ∧ M 2 0 ≠ 46 := fun h => by
    unfold sgA at h
    split at h
    · exact ⟨by omega, by omega⟩
    · omega
  have n20 : (sgA M 0 = 43 ∨ sgA M 0 = 45) → tT e d 3078 20 [some (.inr (.inr (.inl (1)))), none, none, none, none] [] M n (tQi n (fun z M' => (0 ≤ z ∧ z ≤ 1) ∧ (z = 1 → ptS (fun k => M 2 (k : Int)) c ≤ 1) ∧ M' = M)) := by
    intro h
    refine tb_X10_isNumber_20 (c := false) ?_
    simp only [kb_X10_isNumber_20, w_ic, w_goto, true_and, and_true, Nat.reduceAdd, Nat.reduceSub, eq_self]
    exact n25 1 (Or.inr ⟨rfl, e0 h⟩)
  refine tb_X10_isNumber_0 (c := false) ?_
  simp only [kb_X10_isNumber_0, w_ald_0, w_ic, w_iv1, tfr_0, tfr_1, tfr_2, tfr_3, tfr_4, w_bi, w_ic_eq, w_ic_ne, w_nil, true_and, and_true, Nat.reduceAdd, Nat.reduceSub, eq_self, tsx_1, tsx_2, tyx_12, tyx_15, tcx_12]
  refine tc_i (D := 0) (fun d' hd' => z_tat (by decide) hC) (by omega) ?_
  rintro z M1 ⟨rfl, rfl⟩
  try simp only [kb_X10_isNumber_0, w_ald_0, w_ic, w_iv1, tfr_0, tfr_1, tfr_2, tfr_3, tfr_4, w_bi, w_ic_eq, w_ic_ne, w_nil, true_and, and_true, Nat.reduceAdd, Nat.reduceSub, eq_self, tsx_1, tsx_2, tyx_12, tyx_15, tcx_12]
  repeat refine And.intro (by omega) ?_
  refine ⟨fun q => n20 (Or.inl q), fun _ => ?_⟩
  refine tc_i (D := 0) (fun d' hd' => z_tat (by decide) hC) (by omega) ?_
  rintro z M2 ⟨rfl, rfl⟩
  try simp only [kb_X10_isNumber_0, w_ald_0, w_ic, w_iv1, tfr_0, tfr_1, tfr_2, tfr_3, tfr_4, w_bi, w_ic_eq, w_ic_ne, w_nil, true_and, and_true, Nat.reduceAdd, Nat.reduceSub, eq_self, tsx_1, tsx_2, tyx_12, tyx_15, tcx_12]
  repeat refine And.intro (by omega) ?_
  refine ⟨fun q => ?_, fun q => n20 (Or.inr (by omega))⟩
  refine tb_X10_isNumber_24 (c := false) ?_
  simp only [kb_X10_isNumber_24, w_ic, w_nil, true_and, and_true, Nat.reduceAdd, Nat.reduceSub, eq_self]
  exact n25 0 (Or.inl rfl)
end HAND
