/-! THE CLASS, exactly: bounds rounded, boxes told, a shelf filled, constants. -/
/-- what is added to a part to round it up -/
def gup (u p x : Int) : Int := if p % u = 0 ∧ x = 0 then 0 else u - p % u
theorem gup_r {u p x : Int} (hu : 1 ≤ u) : 0 ≤ gup u p x ∧ gup u p x ≤ u := by
  unfold gup
  have h1 := Int.emod_nonneg p (show u ≠ 0 by omega)
  have h2 := Int.emod_lt_of_pos p (show 0 < u by omega)
  split <;> omega
theorem gup_1 {u p : Int} (hu : 1 ≤ u) : 0 < gup u p 1 := by
  unfold gup
  have h2 := Int.emod_lt_of_pos p (show 0 < u by omega)
  rw [if_neg (by omega)]
  omega
theorem emod_le_self {p u : Int} (hp : 0 ≤ p) (hu : 0 < u) : p % u ≤ p := by
  have h1 := Int.emod_add_mul_ediv p u
  have h2 := Int.mul_nonneg (Int.le_of_lt hu) (Int.ediv_nonneg hp (Int.le_of_lt hu))
  omega
section HAND
variable {e : tE} {b d n : Nat} {M : tM}
theorem x_cmp {x y : Int} (hx : (-9223372036854775808 ≤ x ∧ x < 9223372036854775808)) (hy : (-9223372036854775808 ≤ y ∧ y < 9223372036854775808)) : tC e d 4096 [.inr (.inl x), .inr (.inl y)] M n (tQi n (fun z M' => ((z = 0 ↔ x = y) ∧ (-1 ≤ z ∧ z ≤ 1)) ∧ M' = M)) := by
  refine tst_J13_compare_74951 ?_
  have n21 : ∀ z : Int, (z = 0 ↔ x = y) → (-1 ≤ z ∧ z ≤ 1) → tT e d 4096 21 [some (.inr (.inl (x))), none, some (.inr (.inl (y))), none] [.inl z] M n (tQi n (fun z M' => ((z = 0 ↔ x = y) ∧ (-1 ≤ z ∧ z ≤ 1)) ∧ M' = M)) := by
    intro z h1 h2
    refine tb_J13_compare_74951_21 (c := false) ?_
    simp only [kb_J13_compare_74951_21, w_ire, trg, true_and, and_true, Nat.reduceAdd, Nat.reduceSub, eq_self]
    exact ⟨_, rfl, rfl, ⟨h1, h2⟩, rfl⟩
  refine tb_J13_compare_74951_0 (c := false) ?_
  simp only [kb_J13_compare_74951_0, w_lld_0, w_lld_2, w_lcmp, ne_eq, tlc_r, tlc_eq, tlc_lt, tlc_ge, tlc_gt, tlc_le, w_if_ge, w_ic, w_goto, true_and, and_true, Nat.reduceAdd, Nat.reduceSub, eq_self]
  refine ⟨⟨hx, hy⟩, fun h => ?_, fun h => n21 _ (by omega) (by omega)⟩
  refine tb_J13_compare_74951_10 (c := false) ?_
  simp only [kb_J13_compare_74951_10, w_lld_0, w_lld_2, w_lcmp, ne_eq, tlc_r, tlc_eq, tlc_lt, tlc_ge, tlc_gt, tlc_le, w_if_ne, w_ic, w_goto, true_and, and_true, Nat.reduceAdd, Nat.reduceSub, eq_self]
  refine ⟨⟨hx, hy⟩, fun h2 => ?_, fun h2 => n21 _ (by omega) (by omega)⟩
  refine tb_J13_compare_74951_20 (c := false) ?_
  simp only [kb_J13_compare_74951_20, w_ic, w_nil, true_and, and_true, Nat.reduceAdd, Nat.reduceSub, eq_self]
  exact n21 _ (by omega) (by omega)
theorem x_copy {r x1 : Nat} (h0 : cl r 3) (h1 : cl x1 3) (hb : HB b r) (hC : CI M) : tC e d 771 [.inr (.inr (.inl r)), .inr (.inr (.inl x1))] M n (tQn n (fun M' => (M' r 0 = M x1 0 ∧ M' r 1 = M x1 1) ∧ BD b M M' r)) := by
  have hr := h0.1
  have hx := h1.1
  refine tst_X1_copy ?_
  refine tb_X1_copy_0 (c := false) ?_
  simp only [kb_X1_copy_0, w_ald_0, w_ald_1, w_gf_3_0, tw_f, w_pf_3_0, w_gf_3_1, w_pf_3_1, w_re, true_and, and_true, Nat.reduceAdd, Nat.reduceSub, eq_self, tyk_3, hr, hx]
  refine ⟨rfl, rfl, ⟨(tU_ni (by decide)).trans (tU_eq ..), (tU_eq ..).trans (tU_ni (by decide))⟩, ?_⟩
  have h := BD_0 (v := M x1 0) hC h0 hb
  exact BD_tr h (BD_1 h.1 h0 hb)
theorem x_roundDown {r : Nat} {u : Int} (h0 : cl r 3) (hu : 1 ≤ u ∧ u ≤ 10000000000) (hp : 0 ≤ M r 1 ∧ M r 1 < 10000000000) (hb : HB b r) (hC : CI M) : tC e d 778 [.inr (.inr (.inl r)), .inr (.inl u)] M n (tQn n (fun M' => (M' r 0 = M r 0 ∧ M' r 1 = M r 1 - M r 1 % u) ∧ BD b M M' r)) := by
  have hr := h0.1
  refine tst_X1_roundDown ?_
  refine tb_X1_roundDown_0 (c := false) ?_
  simp only [kb_X1_roundDown_0, w_lld_1, w_lc1, w_lcmp, ne_eq, tlc_r, tlc_eq, tlc_lt, tlc_ge, tlc_gt, tlc_le, w_if_le, w_ald_0, w_dupi, w_dupr, w_gf_3_1, tw_f, w_lrem, w_lsub, w_pf_3_1, w_nil, true_and, and_true, Nat.reduceAdd, Nat.reduceSub, eq_self, tyk_3, hr]
  refine ⟨by omega, fun h => ?_, fun h => ?_⟩
  · refine tb_X1_roundDown_21 (c := false) ?_
    simp only [kb_X1_roundDown_21, w_re, true_and, and_true, Nat.reduceAdd, Nat.reduceSub, eq_self]
    obtain rfl : u = 1 := by omega
    exact ⟨rfl, rfl, ⟨rfl, by omega⟩, BD_refl hC⟩
  refine ⟨by omega, ?_⟩
  refine tb_X1_roundDown_21 (c := false) ?_
  simp only [kb_X1_roundDown_21, w_re, true_and, and_true, Nat.reduceAdd, Nat.reduceSub, eq_self]
  rw [Int.tmod_eq_emod_of_nonneg hp.1]
  exact ⟨rfl, rfl, ⟨tU_ni (by decide), tU_eq ..⟩, BD_1 hC h0 hb⟩
theorem x_roundUp {r : Nat} {u x2 : Int} (h0 : cl r 3) (hu : 1 ≤ u ∧ u ≤ 10000000000) (h2 : 0 ≤ x2 ∧ x2 ≤ 1) (hp : 0 ≤ M r 1 ∧ M r 1 < 10000000000) (hb : HB b r) (hC : CI M) : tC e d 779 [.inr (.inr (.inl r)), .inr (.inl u), .inl x2] M n (tQn n (fun M' => (M' r 0 * 10000000000 + M' r 1 = M r 0 * 10000000000 + M r 1 + gup u (M r 1) x2 ∧ (0 ≤ M' r 1 ∧ M' r 1 < 10000000000)) ∧ BD b M M' r)) := by
  have hr := h0.1
  have hg := gup_r (p := M r 1) (x := x2) hu.1
  have hm1 := Int.emod_nonneg (M r 1) (show u ≠ 0 by omega)
  have hm2 := Int.emod_lt_of_pos (M r 1) (show 0 < u by omega)
  refine tst_X1_roundUp ?_
  have n42 : ∀ (M1 : tM) (v4 : Int), M1 r 0 = M r 0 → M1 r 1 = M r 1 + gup u (M r 1) x2 → BD b M M1 r → tT e d 779 42 [some (.inr (.inr (.inl (r)))), some (.inr (.inl (u))), none, some (.inl (x2)), some (.inr (.inl (v4))), none] [] M1 n (tQn n (fun M' => (M' r 0 * 10000000000 + M' r 1 = M r 0 * 10000000000 + M r 1 + gup u (M r 1) x2 ∧ (0 ≤ M' r 1 ∧ M' r 1 < 10000000000)) ∧ BD b M M' r)) := by
    intro M1 v4 q1 q3 q2
    refine tb_X1_roundUp_42 (c := false) ?_
    simp only [kb_X1_roundUp_42, w_ald_0, w_gf_3_1, tw_f, w_ld2, w_lcmp, ne_eq, tlc_r, tlc_eq, tlc_lt, tlc_ge, tlc_gt, tlc_le, w_if_lt, w_dupi, w_dupr, w_lsub, w_pf_3_1, w_gf_3_0, w_lc1, w_ladd, w_pf_3_0, w_nil, true_and, and_true, Nat.reduceAdd, Nat.reduceSub, eq_self, tyk_3, hr]
    refine ⟨by omega, fun h => ?_, fun h => ?_⟩
    · refine tb_X1_roundUp_75 (c := false) ?_
      simp only [kb_X1_roundUp_75, w_re, true_and, and_true, Nat.reduceAdd, Nat.reduceSub, eq_self]
      exact ⟨rfl, rfl, ⟨by omega, by omega⟩, q2⟩
    refine tb_X1_roundUp_75 (c := false) ?_
    simp only [kb_X1_roundUp_75, w_re, true_and, and_true, Nat.reduceAdd, Nat.reduceSub, eq_self]
    have g := BD_1 (v := M1 r 1 - 10000000000) q2.1 h0 hb
    have g2 := BD_tr q2 (BD_tr g (BD_0 (v := tU M1 r 1 (M1 r 1 - 10000000000) r 0 + 1) g.1 h0 hb))
    have u1 : tU (tU M1 r 1 (M1 r 1 - 10000000000)) r 0 (tU M1 r 1 (M1 r 1 - 10000000000) r 0 + 1) r 0 = M1 r 0 + 1 := (tU_eq ..).trans (by rw [tU_ni (by decide)])
    have u2 : tU (tU M1 r 1 (M1 r 1 - 10000000000)) r 0 (tU M1 r 1 (M1 r 1 - 10000000000) r 0 + 1) r 1 = M1 r 1 - 10000000000 := (tU_ni (by decide)).trans (tU_eq ..)
    exact ⟨rfl, rfl, ⟨by rw [u1, u2]; omega, by rw [u2]; omega⟩, g2⟩
  have n16 : ∀ v : Int, v = M r 1 % u → tT e d 779 16 [some (.inr (.inr (.inl (r)))), some (.inr (.inl (u))), none, some (.inl (x2)), none, none] [.inr (.inl v)] M n (tQn n (fun M' => (M' r 0 * 10000000000 + M' r 1 = M r 0 * 10000000000 + M r 1 + gup u (M r 1) x2 ∧ (0 ≤ M' r 1 ∧ M' r 1 < 10000000000)) ∧ BD b M M' r)) := by
    intro v hv
    have n29 : ¬ (v = 0 ∧ x2 = 0) → tT e d 779 29 [some (.inr (.inr (.inl (r)))), some (.inr (.inl (u))), none, some (.inl (x2)), some (.inr (.inl (v))), none] [] M n (tQn n (fun M' => (M' r 0 * 10000000000 + M' r 1 = M r 0 * 10000000000 + M r 1 + gup u (M r 1) x2 ∧ (0 ≤ M' r 1 ∧ M' r 1 < 10000000000)) ∧ BD b M M' r)) := by
      intro h
      refine tb_X1_roundUp_29 (c := false) ?_
      simp only [kb_X1_roundUp_29, w_ald_0, w_dupi, w_dupr, w_gf_3_1, tw_f, w_lld_1, w_lld4, w_lsub, w_ladd, w_pf_3_1, w_nil, true_and, and_true, Nat.reduceAdd, Nat.reduceSub, eq_self, tyk_3, hr]
      refine n42 _ _ (tU_ni (by decide)) ((tU_eq ..).trans ?_) (BD_1 hC h0 hb)
      unfold gup
      rw [if_neg (by omega), hv]
    refine tb_X1_roundUp_16 (c := false) ?_
    simp only [kb_X1_roundUp_16, w_lst4, tkl_n, tkl_i, tkl_l, tkl_r, w_lld4, w_lc0, w_lcmp, ne_eq, tlc_r, tlc_eq, tlc_lt, tlc_ge, tlc_gt, tlc_le, w_if_gt, w_ild_3, w_if_eq, w_nil, true_and, and_true, Nat.reduceAdd, Nat.reduceSub, eq_self]
    refine ⟨by omega, fun h => n29 (by omega), fun h => ?_⟩
    refine ⟨by omega, fun h3 => ?_, fun h3 => n29 (by omega)⟩
    refine n42 _ _ rfl ?_ (BD_refl hC)
    unfold gup
    rw [if_pos (by omega)]
    omega
  refine tb_X1_roundUp_0 (c := false) ?_
  simp only [kb_X1_roundUp_0, w_lld_1, w_lc1, w_lcmp, ne_eq, tlc_r, tlc_eq, tlc_lt, tlc_ge, tlc_gt, tlc_le, w_if_le, w_ald_0, w_gf_3_1, tw_f, w_lrem, w_goto, true_and, and_true, Nat.reduceAdd, Nat.reduceSub, eq_self, tyk_3, hr]
  refine ⟨by omega, fun h => ?_, fun h => ?_⟩
  · refine tb_X1_roundUp_15 (c := false) ?_
    simp only [kb_X1_roundUp_15, w_lc0, w_nil, true_and, and_true, Nat.reduceAdd, Nat.reduceSub, eq_self]
    obtain rfl : u = 1 := by omega
    exact n16 _ (by omega)
  refine ⟨by omega, ?_⟩
  exact n16 _ (Int.tmod_eq_emod_of_nonneg hp.1)
/-- a bound is too great -/
def tgb (M : tM) (r : Nat) : Prop := 1000000000000 ≤ M r 0 ∨ M r 0 < -1000000000000 ∨ (M r 0 = -1000000000000 ∧ M r 1 = 0)
theorem x_tooGreat {r : Nat} (h0 : cl r 3) (hw : (-9223372036854775808 ≤ M r 0 ∧ M r 0 < 9223372036854775808)) (hp : 0 ≤ M r 1 ∧ M r 1 < 10000000000) : tC e d 776 [.inr (.inr (.inl r))] M n (tQi n (fun z M' => ((z = 1 ∧ tgb M r) ∨ (z = 0 ∧ ¬ tgb M r)) ∧ M' = M)) := by
  have hr := h0.1
  refine tst_X1_isTooGreat ?_
  have n47 : ∀ z : Int, ((z = 1 ∧ tgb M r) ∨ (z = 0 ∧ ¬ tgb M r)) → tT e d 776 47 [some (.inr (.inr (.inl (r))))] [.inl z] M n (tQi n (fun z M' => ((z = 1 ∧ tgb M r) ∨ (z = 0 ∧ ¬ tgb M r)) ∧ M' = M)) := by
    intro z hz
    refine tb_X1_isTooGreat_47 (c := false) ?_
    simp only [kb_X1_isTooGreat_47, w_ire, trg, true_and, and_true, Nat.reduceAdd, Nat.reduceSub, eq_self]
    exact ⟨by omega, _, rfl, rfl, hz, rfl⟩
  have n42 : tgb M r → tT e d 776 42 [some (.inr (.inr (.inl (r))))] [] M n (tQi n (fun z M' => ((z = 1 ∧ tgb M r) ∨ (z = 0 ∧ ¬ tgb M r)) ∧ M' = M)) := by
    intro h
    refine tb_X1_isTooGreat_42 (c := false) ?_
    simp only [kb_X1_isTooGreat_42, w_ic, w_goto, true_and, and_true, Nat.reduceAdd, Nat.reduceSub, eq_self]
    exact n47 1 (Or.inl ⟨rfl, h⟩)
  have n46 : ¬ tgb M r → tT e d 776 46 [some (.inr (.inr (.inl (r))))] [] M n (tQi n (fun z M' => ((z = 1 ∧ tgb M r) ∨ (z = 0 ∧ ¬ tgb M r)) ∧ M' = M)) := by
    intro h
    refine tb_X1_isTooGreat_46 (c := false) ?_
    simp only [kb_X1_isTooGreat_46, w_ic, w_nil, true_and, and_true, Nat.reduceAdd, Nat.reduceSub, eq_self]
    exact n47 0 (Or.inr ⟨rfl, h⟩)
  refine tb_X1_isTooGreat_0 (c := false) ?_
  simp only [kb_X1_isTooGreat_0, w_ald_0, w_gf_3_0, tw_f, w_ld2, w_lcmp, ne_eq, tlc_r, tlc_eq, tlc_lt, tlc_ge, tlc_gt, tlc_le, w_if_ge, w_if_lt, w_if_ne, w_gf_3_1, w_lc0, w_nil, true_and, and_true, Nat.reduceAdd, Nat.reduceSub, eq_self, tyk_3, hr]
  refine ⟨by omega, fun h => n42 (Or.inl h), fun h => ?_⟩
  refine ⟨by omega, fun h1 => n42 (Or.inr (Or.inl h1)), fun h1 => ?_⟩
  refine ⟨by omega, fun h2 => n46 (by unfold tgb; omega), fun h2 => ?_⟩
  refine ⟨by omega, fun h3 => n46 (by unfold tgb; omega), fun h3 => ?_⟩
  exact n42 (by unfold tgb; omega)
theorem x_bTooGreat {r : Nat} (h0 : cl r 4) (hw : (-9223372036854775808 ≤ M (r + 1) 0 ∧ M (r + 1) 0 < 9223372036854775808) ∧ (-9223372036854775808 ≤ M (r + 2) 0 ∧ M (r + 2) 0 < 9223372036854775808)) (hp : (0 ≤ M (r + 1) 1 ∧ M (r + 1) 1 < 10000000000) ∧ (0 ≤ M (r + 2) 1 ∧ M (r + 2) 1 < 10000000000)) (hd : 1 ≤ d) : tC e d 1032 [.inr (.inr (.inl r))] M n (tQi n (fun z M' => ((z = 1 ∧ (tgb M (r + 1) ∨ tgb M (r + 2))) ∨ (z = 0 ∧ ¬ (tgb M (r + 1) ∨ tgb M (r + 2)))) ∧ M' = M)) := by
  have hr := h0.1
  have hm1 := (bxl_1 h0).1
  have hm2 := (bxl_2 h0).1
  refine tst_X2_isTooGreat ?_
  have n25 : ∀ z : Int, ((z = 1 ∧ (tgb M (r + 1) ∨ tgb M (r + 2))) ∨ (z = 0 ∧ ¬ (tgb M (r + 1) ∨ tgb M (r + 2)))) → tT e d 1032 25 [some (.inr (.inr (.inl (r))))] [.inl z] M n (tQi n (fun z M' => ((z = 1 ∧ (tgb M (r + 1) ∨ tgb M (r + 2))) ∨ (z = 0 ∧ ¬ (tgb M (r + 1) ∨ tgb M (r + 2)))) ∧ M' = M)) := by
    intro z hz
    refine tb_X2_isTooGreat_25 (c := false) ?_
    simp only [kb_X2_isTooGreat_25, w_ire, trg, true_and, and_true, Nat.reduceAdd, Nat.reduceSub, eq_self]
    exact ⟨by omega, _, rfl, rfl, hz, rfl⟩
  refine tb_X2_isTooGreat_0 (c := false) ?_
  simp only [kb_X2_isTooGreat_0, w_ald_0, w_gf_4_0, tw_f, w_iv0, tfr_0, tfr_1, tfr_2, tfr_3, tfr_4, w_if_ne, w_gf_4_1, w_if_eq, w_nil, true_and, and_true, Nat.reduceAdd, Nat.reduceSub, eq_self, tyk_4, tcq_4, tyk_3, tcq_3, hr, hm1, hm2]
  refine tc_i (D := 0) (fun d' hd' => x_tooGreat (bxl_1 h0) hw.1 hp.1) (by omega) ?_
  rintro z1 M1 ⟨q1, rfl⟩
  try simp only [kb_X2_isTooGreat_0, w_ald_0, w_gf_4_0, tw_f, w_iv0, tfr_0, tfr_1, tfr_2, tfr_3, tfr_4, w_if_ne, w_gf_4_1, w_if_eq, w_nil, true_and, and_true, Nat.reduceAdd, Nat.reduceSub, eq_self, tyk_4, tcq_4, tyk_3, tcq_3, hr, hm1, hm2]
  have n20 : (tgb M1 (r + 1) ∨ tgb M1 (r + 2)) → tT e d 1032 20 [some (.inr (.inr (.inl (r))))] [] M1 n (tQi n (fun z M' => ((z = 1 ∧ (tgb M1 (r + 1) ∨ tgb M1 (r + 2))) ∨ (z = 0 ∧ ¬ (tgb M1 (r + 1) ∨ tgb M1 (r + 2)))) ∧ M' = M1)) := by
    intro h
    refine tb_X2_isTooGreat_20 (c := false) ?_
    simp only [kb_X2_isTooGreat_20, w_ic, w_goto, true_and, and_true, Nat.reduceAdd, Nat.reduceSub, eq_self]
    exact n25 1 (Or.inl ⟨rfl, h⟩)
  refine ⟨by omega, fun h => n20 (Or.inl (by rcases q1 with q | q; exact q.2; omega)), fun h => ?_⟩
  have k1 : ¬ tgb M1 (r + 1) := by rcases q1 with q | q; omega; exact q.2
  refine tc_i (D := 0) (fun d' hd' => x_tooGreat (bxl_2 h0) hw.2 hp.2) (by omega) ?_
  rintro z2 M2 ⟨q2, rfl⟩
  try simp only [kb_X2_isTooGreat_0, w_ald_0, w_gf_4_0, tw_f, w_iv0, tfr_0, tfr_1, tfr_2, tfr_3, tfr_4, w_if_ne, w_gf_4_1, w_if_eq, w_nil, true_and, and_true, Nat.reduceAdd, Nat.reduceSub, eq_self, tyk_4, tcq_4, tyk_3, tcq_3, hr, hm1, hm2]
  refine ⟨by omega, fun h3 => ?_, fun h3 => n20 (Or.inr (by rcases q2 with q | q; exact q.2; omega))⟩
  have k2 : ¬ tgb M2 (r + 2) := by rcases q2 with q | q; omega; exact q.2
  refine tb_X2_isTooGreat_24 (c := false) ?_
  simp only [kb_X2_isTooGreat_24, w_ic, w_nil, true_and, and_true, Nat.reduceAdd, Nat.reduceSub, eq_self]
  exact n25 0 (Or.inr ⟨rfl, fun q => q.elim k1 k2⟩)
theorem x_against {r x1 : Nat} (h0 : cl r 3) (h1 : cl x1 3) (hw : ((-9223372036854775808 ≤ M r 0 ∧ M r 0 < 9223372036854775808) ∧ (-9223372036854775808 ≤ M x1 0 ∧ M x1 0 < 9223372036854775808)) ∧ ((-9223372036854775808 ≤ M r 1 ∧ M r 1 < 9223372036854775808) ∧ (-9223372036854775808 ≤ M x1 1 ∧ M x1 1 < 9223372036854775808))) (hd : 1 ≤ d) : tC e d 769 [.inr (.inr (.inl r)), .inr (.inr (.inl x1))] M n (tQi n (fun z M' => ((z = 0 ↔ (M r 0 = M x1 0 ∧ M r 1 = M x1 1)) ∧ (-1 ≤ z ∧ z ≤ 1)) ∧ M' = M)) := by
  have hr := h0.1
  have hx := h1.1
  refine tst_X1_against ?_
  have n37 : ∀ z : Int, (z = 0 ↔ (M r 0 = M x1 0 ∧ M r 1 = M x1 1)) → (-1 ≤ z ∧ z ≤ 1) → tT e d 769 37 [some (.inr (.inr (.inl (r)))), some (.inr (.inr (.inl (x1))))] [.inl z] M n (tQi n (fun z M' => ((z = 0 ↔ (M r 0 = M x1 0 ∧ M r 1 = M x1 1)) ∧ (-1 ≤ z ∧ z ≤ 1)) ∧ M' = M)) := by
    intro z hz hz2
    refine tb_X1_against_37 (c := false) ?_
    simp only [kb_X1_against_37, w_ire, trg, true_and, and_true, Nat.reduceAdd, Nat.reduceSub, eq_self]
    exact ⟨_, rfl, rfl, ⟨hz, hz2⟩, rfl⟩
  refine tb_X1_against_0 (c := false) ?_
  simp only [kb_X1_against_0, w_ald_0, w_gf_3_0, tw_f, w_ald_1, w_lcmp, ne_eq, tlc_r, tlc_eq, tlc_lt, tlc_ge, tlc_gt, tlc_le, w_if_eq, w_is2, tfr_0, tfr_1, tfr_2, tfr_3, tfr_4, w_goto, true_and, and_true, Nat.reduceAdd, Nat.reduceSub, eq_self, tyk_4, tcq_4, tyk_3, tcq_3, hr, hx]
  refine ⟨by omega, fun h => ?_, fun h => ?_⟩
  · refine tb_X1_against_26 (c := false) ?_
    simp only [kb_X1_against_26, w_ald_0, w_gf_3_1, tw_f, w_ald_1, w_is2, tfr_0, tfr_1, tfr_2, tfr_3, tfr_4, w_nil, true_and, and_true, Nat.reduceAdd, Nat.reduceSub, eq_self, tyk_4, tcq_4, tyk_3, tcq_3, hr, hx]
    refine tc_i (D := 0) (fun d' hd' => x_cmp (by omega) (by omega)) (by omega) ?_
    rintro z M1 ⟨q, rfl⟩
    try simp only [kb_X1_against_26, w_ald_0, w_gf_3_1, tw_f, w_ald_1, w_is2, tfr_0, tfr_1, tfr_2, tfr_3, tfr_4, w_nil, true_and, and_true, Nat.reduceAdd, Nat.reduceSub, eq_self, tyk_4, tcq_4, tyk_3, tcq_3, hr, hx]
    exact n37 z (by omega) q.2
  refine tc_i (D := 0) (fun d' hd' => x_cmp (by omega) (by omega)) (by omega) ?_
  rintro z M1 ⟨q, rfl⟩
  try simp only [kb_X1_against_0, w_ald_0, w_gf_3_0, tw_f, w_ald_1, w_lcmp, ne_eq, tlc_r, tlc_eq, tlc_lt, tlc_ge, tlc_gt, tlc_le, w_if_eq, w_is2, tfr_0, tfr_1, tfr_2, tfr_3, tfr_4, w_goto, true_and, and_true, Nat.reduceAdd, Nat.reduceSub, eq_self, tyk_4, tcq_4, tyk_3, tcq_3, hr, hx]
  exact n37 z (by omega) q.2
theorem x_isSingle {r : Nat} (h0 : cl r 4) (hw : ((-9223372036854775808 ≤ M (r + 1) 0 ∧ M (r + 1) 0 < 9223372036854775808) ∧ (-9223372036854775808 ≤ M (r + 2) 0 ∧ M (r + 2) 0 < 9223372036854775808)) ∧ ((-9223372036854775808 ≤ M (r + 1) 1 ∧ M (r + 1) 1 < 9223372036854775808) ∧ (-9223372036854775808 ≤ M (r + 2) 1 ∧ M (r + 2) 1 < 9223372036854775808))) (hd : 2 ≤ d) : tC e d 1031 [.inr (.inr (.inl r))] M n (tQi n (fun z M' => ((z = 1 ∧ (M (r + 1) 0 = M (r + 2) 0 ∧ M (r + 1) 1 = M (r + 2) 1)) ∨ (z = 0 ∧ ¬ (M (r + 1) 0 = M (r + 2) 0 ∧ M (r + 1) 1 = M (r + 2) 1))) ∧ M' = M)) := by
  have hr := h0.1
  have hm1 := (bxl_1 h0).1
  have hm2 := (bxl_2 h0).1
  refine tst_X2_isSingle ?_
  have n19 : ∀ z : Int, ((z = 1 ∧ (M (r + 1) 0 = M (r + 2) 0 ∧ M (r + 1) 1 = M (r + 2) 1)) ∨ (z = 0 ∧ ¬ (M (r + 1) 0 = M (r + 2) 0 ∧ M (r + 1) 1 = M (r + 2) 1))) → tT e d 1031 19 [some (.inr (.inr (.inl (r))))] [.inl z] M n (tQi n (fun z M' => ((z = 1 ∧ (M (r + 1) 0 = M (r + 2) 0 ∧ M (r + 1) 1 = M (r + 2) 1)) ∨ (z = 0 ∧ ¬ (M (r + 1) 0 = M (r + 2) 0 ∧ M (r + 1) 1 = M (r + 2) 1))) ∧ M' = M)) := by
    intro z hz
    refine tb_X2_isSingle_19 (c := false) ?_
    simp only [kb_X2_isSingle_19, w_ire, trg, true_and, and_true, Nat.reduceAdd, Nat.reduceSub, eq_self]
    exact ⟨by omega, _, rfl, rfl, hz, rfl⟩
  refine tb_X2_isSingle_0 (c := false) ?_
  simp only [kb_X2_isSingle_0, w_ald_0, w_gf_4_0, tw_f, w_gf_4_1, w_iv1, tfr_0, tfr_1, tfr_2, tfr_3, tfr_4, w_if_ne, w_ic, w_goto, true_and, and_true, Nat.reduceAdd, Nat.reduceSub, eq_self, tyk_4, tcq_4, tyk_3, tcq_3, hr, hm1, hm2]
  refine tc_i (D := 1) (fun d' hd' => x_against (bxl_1 h0) (bxl_2 h0) hw hd') (by omega) ?_
  rintro z M1 ⟨q, rfl⟩
  try simp only [kb_X2_isSingle_0, w_ald_0, w_gf_4_0, tw_f, w_gf_4_1, w_iv1, tfr_0, tfr_1, tfr_2, tfr_3, tfr_4, w_if_ne, w_ic, w_goto, true_and, and_true, Nat.reduceAdd, Nat.reduceSub, eq_self, tyk_4, tcq_4, tyk_3, tcq_3, hr, hm1, hm2]
  refine ⟨by omega, fun h => ?_, fun h => n19 1 (Or.inl ⟨rfl, q.1.mp (by omega)⟩)⟩
  refine tb_X2_isSingle_18 (c := false) ?_
  simp only [kb_X2_isSingle_18, w_ic, w_nil, true_and, and_true, Nat.reduceAdd, Nat.reduceSub, eq_self]
  exact n19 0 (Or.inr ⟨rfl, fun k => h (q.1.mpr k)⟩)
theorem x_tellDown {x1 : Nat} {u : Int} (h1 : cl x1 3) (h80 : x1 ≠ 80) (hu : 1 ≤ u ∧ u ≤ 10000000000) (hp : 0 ≤ M 80 1 ∧ M 80 1 < 10000000000) (hb : HB b x1) (hC : CI M) (hd : 1 ≤ d) : tC e d 2575 [.inr (.inr (.inl 79)), .inr (.inr (.inl x1)), .inr (.inl u)] M n (tQn n (fun M' => (M' x1 0 = M 80 0 ∧ M' x1 1 = M 80 1 - M 80 1 % u) ∧ BD b M M' x1)) := by
  have hx1 := h1.1
  refine tst_X8_tellDown ?_
  refine tb_X8_tellDown_0 (c := false) ?_
  simp only [kb_X8_tellDown_0, w_ald_1, w_ald_0, w_gf_10_0, tw_f, w_iv1, tfr_0, tfr_1, tfr_2, tfr_3, tfr_4, w_lld_2, w_re, true_and, and_true, Nat.reduceAdd, Nat.reduceSub, eq_self, tsh_79, tyk_10, tsh_80, tyk_3, tcq_10, tcq_3, hx1]
  refine tc_n (D := 0) (fun d' hd' => x_copy (b := b) h1 cl_80 hb hC) (by omega) ?_
  rintro M1 ⟨⟨q1, q3⟩, q2⟩
  try simp only [kb_X8_tellDown_0, w_ald_1, w_ald_0, w_gf_10_0, tw_f, w_iv1, tfr_0, tfr_1, tfr_2, tfr_3, tfr_4, w_lld_2, w_re, true_and, and_true, Nat.reduceAdd, Nat.reduceSub, eq_self, tsh_79, tyk_10, tsh_80, tyk_3, tcq_10, tcq_3, hx1]
  refine tc_n (D := 0) (fun d' hd' => x_roundDown (b := b) h1 hu (by rw [q3]; exact hp) hb q2.1) (by omega) ?_
  rintro M2 ⟨⟨q4, q5⟩, q6⟩
  try simp only [kb_X8_tellDown_0, w_ald_1, w_ald_0, w_gf_10_0, tw_f, w_iv1, tfr_0, tfr_1, tfr_2, tfr_3, tfr_4, w_lld_2, w_re, true_and, and_true, Nat.reduceAdd, Nat.reduceSub, eq_self, tsh_79, tyk_10, tsh_80, tyk_3, tcq_10, tcq_3, hx1]
  rw [q3] at q5
  exact ⟨rfl, rfl, ⟨q4.trans q1, q5⟩, BD_tr q2 q6⟩
theorem x_tellUp {x1 : Nat} {u : Int} (h1 : cl x1 3) (h80 : x1 ≠ 80) (hu : 1 ≤ u ∧ u ≤ 10000000000) (hp : 0 ≤ M 80 1 ∧ M 80 1 < 10000000000) (hb : HB b x1) (hC : CI M) (hd : 1 ≤ d) : tC e d 2576 [.inr (.inr (.inl 79)), .inr (.inr (.inl x1)), .inr (.inl u)] M n (tQn n (fun M' => (M' x1 0 * 10000000000 + M' x1 1 = M 80 0 * 10000000000 + M 80 1 + gup u (M 80 1) (M 79 1) ∧ (0 ≤ M' x1 1 ∧ M' x1 1 < 10000000000)) ∧ BD b M M' x1)) := by
  have hx1 := h1.1
  have h79 : x1 ≠ 79 := fun q => by rw [q, tsh_79] at hx1; cases hx1
  refine tst_X8_tellUp ?_
  refine tb_X8_tellUp_0 (c := false) ?_
  simp only [kb_X8_tellUp_0, w_ald_1, w_ald_0, w_gf_10_0, tw_f, w_iv1, tfr_0, tfr_1, tfr_2, tfr_3, tfr_4, w_lld_2, w_gf_10_1, w_iv2, w_re, true_and, and_true, Nat.reduceAdd, Nat.reduceSub, eq_self, tsh_79, tyk_10, tsh_80, tyk_3, tcq_10, tcq_3, hx1]
  refine tc_n (D := 0) (fun d' hd' => x_copy (b := b) h1 cl_80 hb hC) (by omega) ?_
  rintro M1 ⟨⟨q1, q3⟩, q2⟩
  try simp only [kb_X8_tellUp_0, w_ald_1, w_ald_0, w_gf_10_0, tw_f, w_iv1, tfr_0, tfr_1, tfr_2, tfr_3, tfr_4, w_lld_2, w_gf_10_1, w_iv2, w_re, true_and, and_true, Nat.reduceAdd, Nat.reduceSub, eq_self, tsh_79, tyk_10, tsh_80, tyk_3, tcq_10, tcq_3, hx1]
  have e79 : M1 79 1 = M 79 1 := q2.2.2 79 1 (Ne.symm h79)
  have r79 := CI_i (f := 1) hC cl_79 rfl
  rw [e79]
  refine tc_n (D := 0) (fun d' hd' => x_roundUp (b := b) h1 hu r79 (by rw [q3]; exact hp) hb q2.1) (by omega) ?_
  rintro M2 ⟨⟨q4, q5⟩, q6⟩
  try simp only [kb_X8_tellUp_0, w_ald_1, w_ald_0, w_gf_10_0, tw_f, w_iv1, tfr_0, tfr_1, tfr_2, tfr_3, tfr_4, w_lld_2, w_gf_10_1, w_iv2, w_re, true_and, and_true, Nat.reduceAdd, Nat.reduceSub, eq_self, tsh_79, tyk_10, tsh_80, tyk_3, tcq_10, tcq_3, hx1]
  rw [q1, q3] at q4
  exact ⟨rfl, rfl, ⟨q4, q5⟩, BD_tr q2 q6⟩
theorem x_assign {x1 x2 x3 : Int} (h3 : 0 ≤ x3 ∧ x3 ≤ 1) (hb : b < 2) (hC : CI M) : tC e d 2562 [.inr (.inr (.inl 79)), .inr (.inl x1), .inr (.inl x2), .inl x3] M n (tQn n (fun M' => (M' 80 0 = x1 ∧ M' 80 1 = x2 ∧ M' 79 1 = x3) ∧ (CI M' ∧ pE b M M') ∧ ∀ (k : Nat) (i : Int), k ≠ 80 → k ≠ 79 → M' k i = M k i)) := by
  refine tst_X8_assign ?_
  refine tb_X8_assign_0 (c := false) ?_
  simp only [kb_X8_assign_0, w_ald_0, w_gf_10_0, tw_f, w_lld_1, w_pf_3_0, w_lld_3, w_pf_3_1, w_ild5, w_pf_10_1, w_re, true_and, and_true, Nat.reduceAdd, Nat.reduceSub, eq_self, tsh_79, tyk_10, tsh_80, tyk_3, tcq_10, tcq_3]
  have g1 := BD_0 (b := b) (v := x1) hC cl_80 (by omega)
  have g2 := BD_1 (b := b) (v := x2) g1.1 cl_80 (by omega)
  refine ⟨h3, rfl, rfl, ⟨(tU_nk (by decide)).trans ((tU_ni (by decide)).trans (tU_eq ..)), (tU_nk (by decide)).trans (tU_eq ..), tU_eq ..⟩, ⟨?_, ?_⟩, fun k i q1 q2 => (tU_nk q2).trans ((tU_nk q1).trans (tU_nk q1))⟩
  · exact CI_put (s := 10) g2.1 tsh_79 (fun _ => by show 0 ≤ x3 ∧ x3 ≤ 1; exact h3)
  · exact pE_tr (pE_tr g1.2.1 g2.2.1) (pE_put (prt_f (a := 10) (f := 1) (by omega) cl_79 (fun q => absurd q (by decide)) (fun q => absurd q (by decide)) (by decide)))
/-- a box told: what its bounds are then -/
def TB (M M' : tM) (r : Nat) : Prop := (M' (r + 1) 0 = M 80 0 ∧ M' (r + 1) 1 = M 80 1 - M 80 1 % M 78 5) ∧ (M' (r + 2) 0 * 10000000000 + M' (r + 2) 1 = M 80 0 * 10000000000 + M 80 1 + gup (M 78 5) (M 80 1) (M 79 1)) ∧ (0 ≤ M' (r + 2) 1 ∧ M' (r + 2) 1 < 10000000000)
theorem x_told {r : Nat} (h0 : cl r 4) (hu : 1 ≤ M 78 5 ∧ M 78 5 ≤ 10000000000) (hw : -9223372036854775808 ≤ M 80 0 ∧ M 80 0 < 9223372036854775808) (hh : M 80 0 * 10000000000 + M 80 1 + gup (M 78 5) (M 80 1) (M 79 1) < 92233720368547758080000000000) (hp : 0 ≤ M 80 1 ∧ M 80 1 < 10000000000) (hb : b < 2) (hC : CI M) (hd : 2 ≤ d) : tC e d 524 [.inr (.inr (.inl 78)), .inr (.inr (.inl r))] M n (tQi n (fun z M' => ((z = 2 ∧ (tgb M' (r + 1) ∨ tgb M' (r + 2))) ∨ (z = 0 ∧ ¬ (tgb M' (r + 1) ∨ tgb M' (r + 2)))) ∧ TB M M' r ∧ (CI M' ∧ pE b M M') ∧ ∀ (k : Nat) (i : Int), k ≠ r + 1 → k ≠ r + 2 → M' k i = M k i)) := by
  have hr := h0.1
  have hm1 := (bxl_1 h0).1
  have hm2 := (bxl_2 h0).1
  have h80 := bx_80 h0
  have h78 : r + 1 ≠ 78 ∧ r + 2 ≠ 78 := ⟨fun q => (by rw [q, tsh_78] at hm1; cases hm1), fun q => (by rw [q, tsh_78] at hm2; cases hm2)⟩
  have h79 : r + 1 ≠ 79 := fun q => by rw [q, tsh_79] at hm1; cases hm1
  have hg := gup_r (p := M 80 1) (x := M 79 1) hu.1
  have hm1' := Int.emod_nonneg (M 80 1) (show M 78 5 ≠ 0 by omega)
  have hm3 := Int.emod_lt_of_pos (M 80 1) (show 0 < M 78 5 by omega)
  have hm4 : M 80 1 % M 78 5 ≤ M 80 1 := emod_le_self hp.1 (by omega)
  refine tst_X0_told ?_
  refine tb_X0_told_0 (c := false) ?_
  simp only [kb_X0_told_0, w_ald_0, w_gf_2_0, tw_f, w_ald_1, w_gf_4_0, w_gf_2_5, w_iv2, tfr_0, tfr_1, tfr_2, tfr_3, tfr_4, w_gf_4_1, w_iv0, w_if_eq, w_ic, w_goto, true_and, and_true, Nat.reduceAdd, Nat.reduceSub, eq_self, tsh_78, tsh_79, tsh_80, tyk_4, tyk_2, tyk_10, tyk_3, tcq_4, tcq_2, tcq_10, tcq_3, hr, hm1, hm2]
  refine tc_n (D := 1) (fun d' hd' => x_tellDown (b := b) (bxl_1 h0) h80.1 hu hp (Or.inl hb) hC hd') (by omega) ?_
  rintro M1 ⟨⟨q1, q2⟩, q3⟩
  try simp only [kb_X0_told_0, w_ald_0, w_gf_2_0, tw_f, w_ald_1, w_gf_4_0, w_gf_2_5, w_iv2, tfr_0, tfr_1, tfr_2, tfr_3, tfr_4, w_gf_4_1, w_iv0, w_if_eq, w_ic, w_goto, true_and, and_true, Nat.reduceAdd, Nat.reduceSub, eq_self, tsh_78, tsh_79, tsh_80, tyk_4, tyk_2, tyk_10, tyk_3, tcq_4, tcq_2, tcq_10, tcq_3, hr, hm1, hm2]
  have e78 : M1 78 5 = M 78 5 := q3.2.2 78 5 (Ne.symm h78.1)
  have e80 : ∀ i, M1 80 i = M 80 i := fun i => q3.2.2 80 i (Ne.symm h80.1)
  have e79 : M1 79 1 = M 79 1 := q3.2.2 79 1 (Ne.symm h79)
  rw [e78]
  refine tc_n (D := 1) (fun d' hd' => x_tellUp (b := b) (bxl_2 h0) h80.2 hu (by rw [e80]; exact hp) (Or.inl hb) q3.1 hd') (by omega) ?_
  rintro M2 ⟨⟨q4, q5⟩, q6⟩
  try simp only [kb_X0_told_0, w_ald_0, w_gf_2_0, tw_f, w_ald_1, w_gf_4_0, w_gf_2_5, w_iv2, tfr_0, tfr_1, tfr_2, tfr_3, tfr_4, w_gf_4_1, w_iv0, w_if_eq, w_ic, w_goto, true_and, and_true, Nat.reduceAdd, Nat.reduceSub, eq_self, tsh_78, tsh_79, tsh_80, tyk_4, tyk_2, tyk_10, tyk_3, tcq_4, tcq_2, tcq_10, tcq_3, hr, hm1, hm2]
  rw [e80, e80, e79] at q4
  have q7 : ∀ i, M2 (r + 1) i = M1 (r + 1) i := fun i => q6.2.2 _ _ (by omega)
  have tb : TB M M2 r := ⟨⟨(q7 0).trans q1, (q7 1).trans q2⟩, q4, q5⟩
  have fr : ∀ (k : Nat) (i : Int), k ≠ r + 1 → k ≠ r + 2 → M2 k i = M k i := fun k i g1 g2 => (q6.2.2 k i g2).trans (q3.2.2 k i g1)
  have cp : CI M2 ∧ pE b M M2 := ⟨q6.1, pE_tr q3.2.1 q6.2.1⟩
  have w1 := tb.1.1
  have w2 := tb.1.2
  have n42 : ∀ z : Int, ((z = 2 ∧ (tgb M2 (r + 1) ∨ tgb M2 (r + 2))) ∨ (z = 0 ∧ ¬ (tgb M2 (r + 1) ∨ tgb M2 (r + 2)))) → tT e d 524 42 [some (.inr (.inr (.inl (78)))), some (.inr (.inr (.inl (r))))] [.inl z] M2 n (tQi n (fun z M' => ((z = 2 ∧ (tgb M' (r + 1) ∨ tgb M' (r + 2))) ∨ (z = 0 ∧ ¬ (tgb M' (r + 1) ∨ tgb M' (r + 2)))) ∧ TB M M' r ∧ (CI M' ∧ pE b M M') ∧ ∀ (k : Nat) (i : Int), k ≠ r + 1 → k ≠ r + 2 → M' k i = M k i)) := by
    intro z hz
    refine tb_X0_told_42 (c := false) ?_
    simp only [kb_X0_told_42, w_ire, trg, true_and, and_true, Nat.reduceAdd, Nat.reduceSub, eq_self]
    exact ⟨_, rfl, rfl, hz, tb, cp, fr⟩
  refine tc_i (D := 1) (fun d' hd' => x_bTooGreat (M := M2) h0 ⟨by omega, by omega⟩ ⟨by omega, q5⟩ hd') (by omega) ?_
  rintro z1 M3 ⟨q8, rfl⟩
  try simp only [kb_X0_told_0, w_ald_0, w_gf_2_0, tw_f, w_ald_1, w_gf_4_0, w_gf_2_5, w_iv2, tfr_0, tfr_1, tfr_2, tfr_3, tfr_4, w_gf_4_1, w_iv0, w_if_eq, w_ic, w_goto, true_and, and_true, Nat.reduceAdd, Nat.reduceSub, eq_self, tsh_78, tsh_79, tsh_80, tyk_4, tyk_2, tyk_10, tyk_3, tcq_4, tcq_2, tcq_10, tcq_3, hr, hm1, hm2]
  refine ⟨by omega, fun h => ?_, fun h => ?_⟩
  · refine tb_X0_told_41 (c := false) ?_
    simp only [kb_X0_told_41, w_ic, w_nil, true_and, and_true, Nat.reduceAdd, Nat.reduceSub, eq_self]
    exact n42 0 (by rcases q8 with q | q; omega; exact Or.inr ⟨rfl, q.2⟩)
  exact n42 2 (by rcases q8 with q | q; exact Or.inl ⟨rfl, q.2⟩; exact absurd q.1 h)
theorem x_tellConstant {r : Nat} {x2 : Int} (h0 : cl r 4) (h2 : 0 ≤ x2 ∧ x2 ≤ 65535) (hu : 1 ≤ M 78 5 ∧ M 78 5 ≤ 10000000000) (hb : b < 2) (hC : CI M) (hd : 3 ≤ d) : tC e d 521 [.inr (.inr (.inl 78)), .inr (.inr (.inl r)), .inl x2] M n (tQi n (fun z M' => z = 0 ∧ ((M' (r + 1) 0 * 10000000000 + M' (r + 1) 1 < M' (r + 2) 0 * 10000000000 + M' (r + 2) 1) ∧ (-5 ≤ M' (r + 1) 0 ∧ M' (r + 1) 0 ≤ 5) ∧ (-5 ≤ M' (r + 2) 0 ∧ M' (r + 2) 0 ≤ 5) ∧ (0 ≤ M' (r + 1) 1 ∧ M' (r + 1) 1 < 10000000000) ∧ (0 ≤ M' (r + 2) 1 ∧ M' (r + 2) 1 < 10000000000)) ∧ (CI M' ∧ pE b M M') ∧ ∀ (k : Nat) (i : Int), k ≠ 79 → k ≠ 80 → k ≠ r + 1 → k ≠ r + 2 → M' k i = M k i)) := by
  have hr := h0.1
  refine tst_X0_tellConstant ?_
  have n37 : ∀ (M1 : tM) (w p : Int), (M1 80 0 = w ∧ M1 80 1 = p ∧ M1 79 1 = 1) → (2 ≤ w ∧ w ≤ 3) → (0 ≤ p ∧ p < 10000000000) → CI M1 → pE b M M1 → (∀ (k : Nat) (i : Int), k ≠ 80 → k ≠ 79 → M1 k i = M k i) → tT e d 521 37 [some (.inr (.inr (.inl (78)))), some (.inr (.inr (.inl (r)))), some (.inl (x2))] [] M1 n (tQi n (fun z M' => z = 0 ∧ ((M' (r + 1) 0 * 10000000000 + M' (r + 1) 1 < M' (r + 2) 0 * 10000000000 + M' (r + 2) 1) ∧ (-5 ≤ M' (r + 1) 0 ∧ M' (r + 1) 0 ≤ 5) ∧ (-5 ≤ M' (r + 2) 0 ∧ M' (r + 2) 0 ≤ 5) ∧ (0 ≤ M' (r + 1) 1 ∧ M' (r + 1) 1 < 10000000000) ∧ (0 ≤ M' (r + 2) 1 ∧ M' (r + 2) 1 < 10000000000)) ∧ (CI M' ∧ pE b M M') ∧ ∀ (k : Nat) (i : Int), k ≠ 79 → k ≠ 80 → k ≠ r + 1 → k ≠ r + 2 → M' k i = M k i)) := by
    rintro M1 w p ⟨rfl, rfl, q3⟩ hw hp c1 p1 f1
    have e78 : M1 78 5 = M 78 5 := f1 78 5 (by decide) (by decide)
    refine tb_X0_tellConstant_37 (c := false) ?_
    simp only [kb_X0_tellConstant_37, w_ald_0, w_ald_1, w_iv1, tfr_0, tfr_1, tfr_2, tfr_3, tfr_4, w_ire, trg, true_and, and_true, Nat.reduceAdd, Nat.reduceSub, eq_self, tsh_78, tsh_79, tsh_80, tyk_4, tyk_2, tyk_10, tyk_3, tcq_4, tcq_2, tcq_10, tcq_3]
    refine tc_i (D := 2) (fun d' hd' => x_told (b := b) h0 (by rw [e78]; exact hu) (by omega) (by have hg := gup_r (p := M1 80 1) (x := M1 79 1) (show 1 ≤ M1 78 5 by omega); omega) hp hb c1 hd') (by omega) ?_
    rintro z1 M3 ⟨hz, ⟨⟨t1, t2⟩, t3, t4⟩, ⟨c3, p3⟩, f3⟩
    try simp only [kb_X0_tellConstant_37, w_ald_0, w_ald_1, w_iv1, tfr_0, tfr_1, tfr_2, tfr_3, tfr_4, w_ire, trg, true_and, and_true, Nat.reduceAdd, Nat.reduceSub, eq_self, tsh_78, tsh_79, tsh_80, tyk_4, tyk_2, tyk_10, tyk_3, tcq_4, tcq_2, tcq_10, tcq_3]
    rw [q3] at t3
    have hg := gup_r (p := M1 80 1) (x := 1) (show 1 ≤ M1 78 5 by omega)
    have hg1 := gup_1 (p := M1 80 1) (show 1 ≤ M1 78 5 by omega)
    have m1 := Int.emod_nonneg (M1 80 1) (show M1 78 5 ≠ 0 by omega)
    have m2 : M1 80 1 % M1 78 5 ≤ M1 80 1 := emod_le_self hp.1 (by omega)
    have hz0 : z1 = 0 := by
      rcases hz with ⟨_, g⟩ | ⟨g, _⟩
      · unfold tgb at g
        omega
      · exact g
    refine ⟨z1, rfl, rfl, hz0, ⟨by omega, by omega, by omega, by omega, t4⟩, ⟨c3, pE_tr p1 p3⟩, fun k i g1 g2 g3 g4 => (f3 k i g3 g4).trans (f1 k i g2 g1)⟩
  refine tb_X0_tellConstant_0 (c := false) ?_
  simp only [kb_X0_tellConstant_0, w_ild_2, w_bi, w_ic_ne, w_ald_0, w_gf_2_0, tw_f, w_ld2, w_ic, w_iv3, tfr_0, tfr_1, tfr_2, tfr_3, tfr_4, w_goto, true_and, and_true, Nat.reduceAdd, Nat.reduceSub, eq_self, tsh_78, tsh_79, tsh_80, tyk_4, tyk_2, tyk_10, tyk_3, tcq_4, tcq_2, tcq_10, tcq_3]
  refine ⟨by omega, fun h => ?_, fun h => ?_⟩
  · refine tb_X0_tellConstant_23 (c := false) ?_
    simp only [kb_X0_tellConstant_23, w_ald_0, w_gf_2_0, tw_f, w_ld2, w_ic, w_iv3, tfr_0, tfr_1, tfr_2, tfr_3, tfr_4, w_nil, true_and, and_true, Nat.reduceAdd, Nat.reduceSub, eq_self, tsh_78, tsh_79, tsh_80, tyk_4, tyk_2, tyk_10, tyk_3, tcq_4, tcq_2, tcq_10, tcq_3]
    refine tc_n (D := 0) (fun d' hd' => x_assign (b := b) (by omega) hb hC) (by omega) ?_
    rintro M1 ⟨q1, ⟨q2, q3⟩, q4⟩
    try simp only [kb_X0_tellConstant_23, w_ald_0, w_gf_2_0, tw_f, w_ld2, w_ic, w_iv3, tfr_0, tfr_1, tfr_2, tfr_3, tfr_4, w_nil, true_and, and_true, Nat.reduceAdd, Nat.reduceSub, eq_self, tsh_78, tsh_79, tsh_80, tyk_4, tyk_2, tyk_10, tyk_3, tcq_4, tcq_2, tcq_10, tcq_3]
    exact n37 M1 _ _ q1 (by decide) (by decide) q2 q3 q4
  refine tc_n (D := 0) (fun d' hd' => x_assign (b := b) (by omega) hb hC) (by omega) ?_
  rintro M1 ⟨q1, ⟨q2, q3⟩, q4⟩
  try simp only [kb_X0_tellConstant_0, w_ild_2, w_bi, w_ic_ne, w_ald_0, w_gf_2_0, tw_f, w_ld2, w_ic, w_iv3, tfr_0, tfr_1, tfr_2, tfr_3, tfr_4, w_goto, true_and, and_true, Nat.reduceAdd, Nat.reduceSub, eq_self, tsh_78, tsh_79, tsh_80, tyk_4, tyk_2, tyk_10, tyk_3, tcq_4, tcq_2, tcq_10, tcq_3]
  exact n37 M1 _ _ q1 (by decide) (by decide) q2 q3 q4
end HAND
