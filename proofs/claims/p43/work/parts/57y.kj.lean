/-! SLOPES: the small calls. -/
theorem tsx_497 : tsh 497 = 26 := by rw [tsh_def]; decide +kernel
theorem tsx_498 : tsh 498 = 26 := by rw [tsh_def]; decide +kernel
section HAND
variable {e : tE} {d n : Nat} {M : tM}
theorem z_recipe {x1 x2 : Int} (he : ESL e) (hd : 4 ≤ d) : tC e d 2062 [.inl x1, .inl x2] M n (fun r M' n' => r = .inl (some (.inr (.inr (.inr (rcK (Int32.ofInt x1) (Int32.ofInt x2)))))) ∧ M' = M ∧ n' = n) := by
  refine tst_X6_recipeOf ?_
  intro _
  refine ⟨.inl (some (.inr (.inr (.inr (rcK (Int32.ofInt x1) (Int32.ofInt x2)))))), M, n, ⟨rfl, rfl, rfl⟩, fun lv hl => ?_⟩
  have q := he.1 lv (two M n) (Int32.ofInt x1) (Int32.ofInt x2) (hl 0 _ rfl) (hl 1 _ rfl)
  have y := y_spec (d := d - 4) q
  rw [show d - 4 + 4 = d by omega] at y
  exact y
theorem z_next {j p D : Nat} (hj : 4 ≤ j ∧ j < 16) (h7 : M 77 7 = (D : Int)) (hD : 1 ≤ D ∧ D ≤ 60) (hp : M 498 ((D : Int) - 1) = (p : Int)) (hp2 : p ≤ 100) (he : ESL e) (hd : 4 ≤ d) : tC e d 2059 [.inr (.inr (.inl 77)), .inr (.inr (.inr j))] M n (tQi n (fun z M' => z = sgV j p ∧ M' = tU M 498 ((D : Int) - 1) ((p : Int) + 1))) := by
  have hr := cl_77.1
  have hpl := tsx_498
  refine tst_X6_nextSign ?_
  refine tblk kbn_l kbs_X6_nextSign (i := 0) (pc := 0) (pe := 27) (rk := 4) (c := true) rfl (by decide +kernel) ?_
  simp only [kbn_pre, w_ald_0, w_gf_8_6, w_gf_8_7, w_ic, w_isub, w_ia, w_ist_2, tkl_n, tkl_i, tkl_l, tkl_r, w_dup2a, w_iadd, w_ias, w_nil, w_iax, ne_eq, eq_self, not_true_eq_false, false_implies, true_and, and_true, hr, hpl, tyk_26, tcq_60, h7, hp, Nat.reduceAdd]
  refine ⟨by omega, by omega, by omega, ?_⟩
  intro _
  have q := fun (lv : List (Nat × bV)) (hl : tOk [some (.inr (.inr (.inl 77))), some (.inr (.inr (.inr j))), some (.inl (p : Int))] lv) => he.2 lv (two (tU M 498 ((D : Int) - 1) ((p : Int) + 1)) n) j (Int32.ofInt (p : Int)) (hl 1 _ rfl) hj (hl 2 _ rfl) (by rw [ofI_bound ⟨by omega, by omega⟩]; omega)
  refine ⟨.inl (some (.inl (sgV j p))), _, n, ⟨_, rfl, rfl, rfl, rfl⟩, fun lv hl => ?_⟩
  have y := y_spec (d := d - 4) (q lv hl)
  rw [show d - 4 + 4 = d by omega] at y
  show bY e d 2059 27 lv [] (two (tU M 498 ((D : Int) - 1) ((p : Int) + 1)) n) (.inl (some (.inl (Int32.ofInt (sgK j (Int32.ofNat p)).toInt)))) _
  rw [Int32.ofInt_toInt]
  exact y
theorem z_enter {x : Int} {D : Nat} (h7 : M 77 7 = (D : Int)) (hD : D ≤ 60) (hx : -65536 ≤ x ∧ x ≤ 100000) (hC : CI M) : tC e d 2054 [.inr (.inr (.inl 77)), .inl x] M n (tQi n (fun z M' => (z = 2 ∧ ¬ (0 ≤ x ∧ D < 60) ∧ M' = M) ∨ (z = 0 ∧ (0 ≤ x ∧ D < 60) ∧ M' = tU (tU (tU M 497 (D : Int) x) 498 (D : Int) 0) 77 7 ((D : Int) + 1)))) := by
  refine tst_X6_enter ?_
  have n13 : ¬ (0 ≤ x ∧ D < 60) → tT e d 2054 13 [some (.inr (.inr (.inl (77)))), some (.inl (x))] [] M n (tQi n (fun z M' => (z = 2 ∧ ¬ (0 ≤ x ∧ D < 60) ∧ M' = M) ∨ (z = 0 ∧ (0 ≤ x ∧ D < 60) ∧ M' = tU (tU (tU M 497 (D : Int) x) 498 (D : Int) 0) 77 7 ((D : Int) + 1)))) := by
    intro hn
    refine tb_X6_enter_13 (c := false) ?_
    simp only [kb_X6_enter_13, w_ic, w_ire, trg, true_and, and_true, Nat.reduceAdd, Nat.reduceSub, eq_self]
    exact ⟨_, rfl, rfl, Or.inl ⟨rfl, hn, rfl⟩⟩
  refine tb_X6_enter_0 (c := false) ?_
  simp only [kb_X6_enter_0, w_ald_0, w_gf_8_7, tw_f, w_bi, w_ic_ge, w_ild_1, w_if_ge, w_nil, true_and, and_true, Nat.reduceAdd, Nat.reduceSub, eq_self, tsh_77, tyk_8, tcq_8, tsx_497, tsx_498, tyk_26, tcq_60]
  rw [h7]
  repeat refine And.intro (by omega) ?_
  refine ⟨fun _ => n13 (by omega), fun g => ?_⟩
  repeat refine And.intro (by omega) ?_
  refine ⟨fun g2 => ?_, fun _ => n13 (by omega)⟩
  refine tb_X6_enter_15 (c := false) ?_
  simp only [kb_X6_enter_15, w_ald_0, w_gf_8_5, tw_f, w_gf_8_7, w_ild_1, w_ias, ne_eq, eq_self, not_true_eq_false, false_implies, w_gf_8_6, w_ic, w_dupi, w_dupr, w_iadd, w_pf_8_7, w_ire, trg, true_and, and_true, Nat.reduceAdd, Nat.reduceSub, eq_self, tsh_77, tyk_8, tcq_8, tsx_497, tsx_498, tyk_26, tcq_60]
  rw [h7]
  repeat refine And.intro (by omega) ?_
  have e1 : tU M 497 (D : Int) x 77 7 = (D : Int) := (tU_nk (by decide)).trans h7
  have e2 : tU (tU M 497 (D : Int) x) 498 (D : Int) 0 77 7 = (D : Int) := (tU_nk (by decide)).trans e1
  try rw [e1]
  repeat refine And.intro (by omega) ?_
  try rw [e2]
  repeat refine And.intro (by omega) ?_
  exact ⟨_, rfl, rfl, Or.inr ⟨rfl, by omega, rfl⟩⟩
theorem z_actOf {s : Int} (hs : s = 110 ∨ s = 48 ∨ s = 49 ∨ s = 50 ∨ s = 43 ∨ s = 45 ∨ s = 42 ∨ s = 47 ∨ s = 126 ∨ s = 114 ∨ s = 94 ∨ s = 113 ∨ s = 101) : tC e d 2049 [.inl s] M n (tQi n (fun z M' => z = (if s = 110 ∨ s = 48 ∨ s = 49 ∨ s = 50 then 35 else if s = 113 then 94 else s) ∧ M' = M)) := by
  refine tst_X6_actOf ?_
  have n18 : (s = 110 ∨ s = 48 ∨ s = 49 ∨ s = 50) → tT e d 2049 18 [some (.inl (s))] [] M n (tQi n (fun z M' => z = (if s = 110 ∨ s = 48 ∨ s = 49 ∨ s = 50 then 35 else if s = 113 then 94 else s) ∧ M' = M)) := by
    intro h
    refine tb_X6_actOf_18 (c := false) ?_
    simp only [kb_X6_actOf_18, w_bi, w_ire, trg, true_and, and_true, Nat.reduceAdd, Nat.reduceSub, eq_self]
    rw [if_pos h]
    exact ⟨by decide, _, rfl, rfl, rfl, rfl⟩
  have n33 : ∀ z : Int, z = (if s = 110 ∨ s = 48 ∨ s = 49 ∨ s = 50 then 35 else if s = 113 then 94 else s) → (0 ≤ z ∧ z ≤ 200) → tT e d 2049 33 [some (.inl (s))] [.inl z] M n (tQi n (fun z M' => z = (if s = 110 ∨ s = 48 ∨ s = 49 ∨ s = 50 then 35 else if s = 113 then 94 else s) ∧ M' = M)) := by
    intro z hz hz2
    refine tb_X6_actOf_33 (c := false) ?_
    simp only [kb_X6_actOf_33, w_ire, trg, true_and, and_true, Nat.reduceAdd, Nat.reduceSub, eq_self]
    exact ⟨by omega, _, rfl, rfl, hz, rfl⟩
  have n21 : ¬ (s = 110 ∨ s = 48 ∨ s = 49 ∨ s = 50) → tT e d 2049 21 [some (.inl (s))] [] M n (tQi n (fun z M' => z = (if s = 110 ∨ s = 48 ∨ s = 49 ∨ s = 50 then 35 else if s = 113 then 94 else s) ∧ M' = M)) := by
    intro h
    refine tb_X6_actOf_21 (c := false) ?_
    simp only [kb_X6_actOf_21, w_ild_0, w_bi, w_ic_ne, w_goto, true_and, and_true, Nat.reduceAdd, Nat.reduceSub, eq_self]
    repeat refine And.intro (by omega) ?_
    refine ⟨fun q => ?_, fun q => n33 94 (by rw [if_neg h, if_pos (by omega)]) (by decide)⟩
    refine tb_X6_actOf_32 (c := false) ?_
    simp only [kb_X6_actOf_32, w_ild_0, w_nil, true_and, and_true, Nat.reduceAdd, Nat.reduceSub, eq_self]
    exact n33 s (by rw [if_neg h, if_neg (by omega)]) (by omega)
  refine tb_X6_actOf_0 (c := false) ?_
  simp only [kb_X6_actOf_0, w_ild_0, w_bi, w_ic_eq, w_ic_lt, w_ic_gt, w_nil, true_and, and_true, Nat.reduceAdd, Nat.reduceSub, eq_self]
  repeat refine And.intro (by omega) ?_
  refine ⟨fun q => n18 (by omega), fun _ => ?_⟩
  repeat refine And.intro (by omega) ?_
  refine ⟨fun q => n21 (by omega), fun _ => ?_⟩
  repeat refine And.intro (by omega) ?_
  refine ⟨fun q => n21 (by omega), fun _ => ?_⟩
  exact n18 (by omega)
theorem z_numOf {s x : Int} (hs : 0 ≤ s ∧ s ≤ 200) (hx : 0 ≤ x ∧ x ≤ 2147483647) : tC e d 2060 [.inl s, .inl x] M n (tQl n (fun z M' => (-100 ≤ z ∧ z ≤ 2147483647) ∧ M' = M)) := by
  refine tst_X6_numberOf ?_
  have n16 : ∀ z : Int, (-100 ≤ z ∧ z ≤ 2147483647) → tT e d 2060 16 [some (.inl (s)), some (.inl (x))] [.inr (.inl z)] M n (tQl n (fun z M' => (-100 ≤ z ∧ z ≤ 2147483647) ∧ M' = M)) := by
    intro z hz
    refine tb_X6_numberOf_16 (c := false) ?_
    simp only [kb_X6_numberOf_16, w_lre, true_and, and_true, Nat.reduceAdd, Nat.reduceSub, eq_self]
    exact ⟨_, rfl, rfl, hz, rfl⟩
  refine tb_X6_numberOf_0 (c := false) ?_
  simp only [kb_X6_numberOf_0, w_ild_0, w_bi, w_ic_ne, w_ild_1, w_i2l, w_goto, true_and, and_true, Nat.reduceAdd, Nat.reduceSub, eq_self]
  repeat refine And.intro (by omega) ?_
  refine ⟨fun _ => ?_, fun _ => ⟨by omega, n16 x (by omega)⟩⟩
  refine tb_X6_numberOf_11 (c := false) ?_
  simp only [kb_X6_numberOf_11, w_ild_0, w_bi, w_isub, w_i2l, w_nil, true_and, and_true, Nat.reduceAdd, Nat.reduceSub, eq_self]
  repeat refine And.intro (by omega) ?_
  exact n16 _ (by omega)
theorem z_byOf {s x : Int} (hs : 0 ≤ s ∧ s ≤ 200) (hx : 0 ≤ x ∧ x ≤ 2147483647) : tC e d 2052 [.inl s, .inl x] M n (tQi n (fun z M' => z = (if s = 94 then x - 1 else if s = 113 ∨ s = 114 then 2 else 0) ∧ M' = M)) := by
  refine tst_X6_byOf ?_
  have n36 : s = 94 → tT e d 2052 36 [some (.inl (s)), some (.inl (x))] [] M n (tQi n (fun z M' => z = (if s = 94 then x - 1 else if s = 113 ∨ s = 114 then 2 else 0) ∧ M' = M)) := by
    intro h
    refine tb_X6_byOf_36 (c := false) ?_
    simp only [kb_X6_byOf_36, w_ild_1, w_ic, w_isub, w_ire, trg, true_and, and_true, Nat.reduceAdd, Nat.reduceSub, eq_self]
    repeat refine And.intro (by omega) ?_
    exact ⟨_, rfl, rfl, by rw [if_pos h], rfl⟩
  have n40 : (s = 113 ∨ s = 114) → tT e d 2052 40 [some (.inl (s)), some (.inl (x))] [] M n (tQi n (fun z M' => z = (if s = 94 then x - 1 else if s = 113 ∨ s = 114 then 2 else 0) ∧ M' = M)) := by
    intro h
    refine tb_X6_byOf_40 (c := false) ?_
    simp only [kb_X6_byOf_40, w_ic, w_ire, trg, true_and, and_true, Nat.reduceAdd, Nat.reduceSub, eq_self]
    exact ⟨_, rfl, rfl, by rw [if_neg (by omega), if_pos h], rfl⟩
  have n42 : ¬ (s = 94 ∨ s = 113 ∨ s = 114) → tT e d 2052 42 [some (.inl (s)), some (.inl (x))] [] M n (tQi n (fun z M' => z = (if s = 94 then x - 1 else if s = 113 ∨ s = 114 then 2 else 0) ∧ M' = M)) := by
    intro h
    refine tb_X6_byOf_42 (c := false) ?_
    simp only [kb_X6_byOf_42, w_ic, w_ire, trg, true_and, and_true, Nat.reduceAdd, Nat.reduceSub, eq_self]
    exact ⟨_, rfl, rfl, by rw [if_neg (by omega), if_neg (by omega)], rfl⟩
  refine tb_X6_byOf_0 (c := false) ?_
  simp only [kb_X6_byOf_0, w_ild_0, w_sw, tsw, true_and, and_true, Nat.reduceAdd, Nat.reduceSub, eq_self]
  refine ⟨by omega, fun h => n36 h, fun h => ⟨fun h2 => n40 (Or.inl h2), fun h2 => ⟨fun h3 => n40 (Or.inr h3), fun h3 => n42 (by omega)⟩⟩⟩
theorem z_startOf {r k : Nat} (hr : FMC r) (hk : k < 60) (hd : 1 ≤ d) : tC e d 1808 [.inr (.inr (.inl r)), .inl (k : Int)] M n (tQi n (fun z M' => z = M (r + 4) (k : Int) ∧ M' = M)) := by
  obtain ⟨t0, t1, t2, t3, t4, t5⟩ := FM_of hr
  refine tst_X5_startOf ?_
  refine tb_X5_startOf_0 (c := false) ?_
  simp only [kb_X5_startOf_0, w_ald_0, w_gf_7_3, tw_f, w_ild_1, w_iv1, tfr_0, tfr_1, tfr_2, tfr_3, tfr_4, w_ia, w_iax, w_ire, trg, true_and, and_true, Nat.reduceAdd, Nat.reduceSub, eq_self, tyk_7, tcq_7, tyk_42, tyk_28, tyk_43, tcq_60, tyk_26, t0, t4]
  refine tc_i (D := 0) (fun d' hd' => z_within hk) (by omega) ?_
  rintro z M1 ⟨rfl, rfl⟩
  try simp only [kb_X5_startOf_0, w_ald_0, w_gf_7_3, tw_f, w_ild_1, w_iv1, tfr_0, tfr_1, tfr_2, tfr_3, tfr_4, w_ia, w_iax, w_ire, trg, true_and, and_true, Nat.reduceAdd, Nat.reduceSub, eq_self, tyk_7, tcq_7, tyk_42, tyk_28, tyk_43, tcq_60, tyk_26, t0, t4]
  repeat refine And.intro (by omega) ?_
  exact ⟨_, rfl, rfl, rfl, rfl⟩
theorem z_leftOf {r k s : Nat} (hr : FMC r) (hk : 1 ≤ k ∧ k < 60) (hs : M (r + 4) ((k - 1 : Nat) : Int) = (s : Int)) (hs2 : s ≤ 60) (hC : CI M) (hd : 2 ≤ d) : tC e d 1801 [.inr (.inr (.inl r)), .inl (k : Int)] M n (tQi n (fun z M' => z = (if M (r + 1) (k : Int) = 43 ∨ M (r + 1) (k : Int) = 45 ∨ M (r + 1) (k : Int) = 42 ∨ M (r + 1) (k : Int) = 47 then (s : Int) - 1 else ((k - 1 : Nat) : Int)) ∧ M' = M)) := by
  obtain ⟨t0, t1, t2, t3, t4, t5⟩ := FM_of hr
  have g : 0 ≤ M (r + 1) (k : Int) ∧ M (r + 1) (k : Int) ≤ 65535 := by
    have q := hC.1 (r + 1) (k : Int) (by unfold FMC at hr; omega) (by omega)
    rw [t1] at q
    exact q
  refine tst_X5_leftOf ?_
  have n26 : ∀ z : Int, z = (if M (r + 1) (k : Int) = 43 ∨ M (r + 1) (k : Int) = 45 ∨ M (r + 1) (k : Int) = 42 ∨ M (r + 1) (k : Int) = 47 then (s : Int) - 1 else ((k - 1 : Nat) : Int)) → tT e d 1801 26 [some (.inr (.inr (.inl (r)))), some (.inl ((k : Int)))] [.inl z] M n (tQi n (fun z M' => z = (if M (r + 1) (k : Int) = 43 ∨ M (r + 1) (k : Int) = 45 ∨ M (r + 1) (k : Int) = 42 ∨ M (r + 1) (k : Int) = 47 then (s : Int) - 1 else ((k - 1 : Nat) : Int)) ∧ M' = M)) := by
    intro z hz
    refine tb_X5_leftOf_26 (c := false) ?_
    simp only [kb_X5_leftOf_26, w_ire, trg, true_and, and_true, Nat.reduceAdd, Nat.reduceSub, eq_self]
    exact ⟨_, rfl, rfl, hz, rfl⟩
  refine tb_X5_leftOf_0 (c := false) ?_
  simp only [kb_X5_leftOf_0, w_ald_0, w_ild_1, w_iv1, tfr_0, tfr_1, tfr_2, tfr_3, tfr_4, w_is1, w_if_eq, w_ic, w_isub, w_goto, true_and, and_true, Nat.reduceAdd, Nat.reduceSub, eq_self, tyk_7, tcq_7, tyk_42, tyk_28, tyk_43, tcq_60, tyk_26, t0]
  refine tc_i (D := 1) (fun d' hd' => z_actAt hr hk.2 hC hd') (by omega) ?_
  rintro z M1 ⟨rfl, rfl⟩
  try simp only [kb_X5_leftOf_0, w_ald_0, w_ild_1, w_iv1, tfr_0, tfr_1, tfr_2, tfr_3, tfr_4, w_is1, w_if_eq, w_ic, w_isub, w_goto, true_and, and_true, Nat.reduceAdd, Nat.reduceSub, eq_self, tyk_7, tcq_7, tyk_42, tyk_28, tyk_43, tcq_60, tyk_26, t0]
  refine tc_i (D := 0) (fun d' hd' => z_isPair g) (by omega) ?_
  rintro z M2 ⟨hz, rfl⟩
  try simp only [kb_X5_leftOf_0, w_ald_0, w_ild_1, w_iv1, tfr_0, tfr_1, tfr_2, tfr_3, tfr_4, w_is1, w_if_eq, w_ic, w_isub, w_goto, true_and, and_true, Nat.reduceAdd, Nat.reduceSub, eq_self, tyk_7, tcq_7, tyk_42, tyk_28, tyk_43, tcq_60, tyk_26, t0]
  repeat refine And.intro (by omega) ?_
  refine ⟨fun q => ?_, fun q => ?_⟩
  · refine tb_X5_leftOf_23 (c := false) ?_
    simp only [kb_X5_leftOf_23, w_ild_1, w_ic, w_isub, w_nil, true_and, and_true, Nat.reduceAdd, Nat.reduceSub, eq_self]
    repeat refine And.intro (by omega) ?_
    exact n26 _ (by rw [if_neg (by omega)]; omega)
  · rw [show (k : Int) - 1 = ((k - 1 : Nat) : Int) by omega]
    repeat refine And.intro (by omega) ?_
    refine tc_i (D := 1) (fun d' hd' => z_startOf hr (by omega) hd') (by omega) ?_
    rintro z M3 ⟨rfl, rfl⟩
    rw [hs]
    try simp only [kb_X5_leftOf_0, w_ald_0, w_ild_1, w_iv1, tfr_0, tfr_1, tfr_2, tfr_3, tfr_4, w_is1, w_if_eq, w_ic, w_isub, w_goto, true_and, and_true, Nat.reduceAdd, Nat.reduceSub, eq_self, tyk_7, tcq_7, tyk_42, tyk_28, tyk_43, tcq_60, tyk_26, t0]
    repeat refine And.intro (by omega) ?_
    exact n26 _ (by rw [if_pos (by omega)])
end HAND
