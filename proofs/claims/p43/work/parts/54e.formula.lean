/-! THE CLASS: a formula's acts and what they are by. -/
theorem tay_7 : tyk 7 = (0, 7, 12) := rfl
theorem tay_42 : tyk 42 = (1, 0, 60) := rfl
theorem tay_43 : tyk 43 = (1, 1, 60) := rfl
theorem tay_28 : tyk 28 = (2, 2, 60) := rfl
theorem tay_15 : tyk 15 = (1, 0, 60) := rfl
theorem tay_8 : tyk 8 = (0, 8, 8) := rfl
theorem ta_7 : ((7 : Nat) : Int) = 7 := rfl
theorem ta_60 : ((60 : Nat) : Int) = 60 := rfl
theorem ta_4 : ((4 : Nat) : Int) = 4 := rfl
theorem ta_8 : ((8 : Nat) : Int) = 8 := rfl
def wth (x : Int) : Int := if x < 0 ∨ 60 ≤ x then 0 else x
theorem wth_in (x : Int) : 0 ≤ wth x ∧ wth x < 60 := by
  unfold wth
  split <;> omega
/-- the last act that waits -/
def lhd (M : tM) (r : Nat) : Int := if M r 8 ≤ 0 then 0 else M (r + 5) (M r 8 - 1)
theorem fm_0 {r : Nat} (h : cl r 7) : cl (r + 1) 42 := (cst_of (a := 7) (f := 0) h (by decide) (by decide) rfl).1
theorem fm_1 {r : Nat} (h : cl r 7) : cl (r + 2) 28 := (cst_of (a := 7) (f := 1) h (by decide) (by decide) rfl).1
theorem fm_2 {r : Nat} (h : cl r 7) : cl (r + 3) 43 := (cst_of (a := 7) (f := 2) h (by decide) (by decide) rfl).1
theorem fm_7 {r : Nat} (h : cl r 7) : cl (r + 5) 15 := (cst_of (a := 7) (f := 7) h (by decide) (by decide) rfl).1
theorem fm_c {M : tM} {r s : Nat} {i lo hi : Int} (hC : CI M) (h : cl r s) (hi0 : 0 ≤ i) (hq : fsp s i.toNat = (0, lo, hi)) : lo ≤ M r i ∧ M r i ≤ hi := by
  have hc := hC.1 r i h.2 hi0
  rw [h.1] at hc
  unfold cok at hc
  rw [hq] at hc
  exact hc
theorem FA_at {M : tM} {r : Nat} {i : Int} (hC : CI M) (h : cl r 7) : M (r + 1) (wth i) = 114 → 2 ≤ M (r + 3) (wth i) ∧ M (r + 3) (wth i) ≤ 9 := fun q => by
  have h2 := hC.2 (r + 1) (wth i) (fm_0 h).1 (wth_in i).1 q
  have h2 : M (r + 3) (wth i) = 2 := h2
  omega
section FORMULA
variable {e : tE} {b d D mi a n : Nat} {M : tM} {o : bO} {vs rest : List tV} {L : tL} {Q : tR → tM → Nat → Prop} {k : tL → List tV → tM → Nat → Prop}
theorem tf_any {Qc : tR → tM → Nat → Prop} (h : ∀ d', D ≤ d' → tC e d' a vs M n Qc) (hd : D + 1 ≤ d) (hk : ∀ v M' n', Qc (.inl v) M' n' → k L (v.toList ++ rest) M' n') (hx : ∀ x M' n', Qc (.inr x) M' n' → False) : tcall e d mi a o vs rest L M n Q k :=
  ⟨d - 1, by omega, _, h (d - 1) (by omega), hk, fun x M' n' q => (hx x M' n' q).elim⟩
theorem e_within {r : Nat} {x1 : Int} (h1 : -2147483648 ≤ x1 ∧ x1 ≤ 2147483647) : tC e d 1814 [.inr (.inr (.inl r)), .inl x1] M n (tQi n (fun z M' => z = wth x1 ∧ M' = M)) := by
  refine tst_X5_within ?_
  have n10 : (x1 < 0 ∨ 60 ≤ x1) → tT e d 1814 10 [some (.inr (.inr (.inl r))), some (.inl x1)] [] M n (tQi n (fun z M' => z = wth x1 ∧ M' = M)) := by
    intro h
    refine tb_X5_within_10 (c := true) ?_
    simp only [kb_X5_within_10, w_ic, w_goto, w64_r, true_and, and_true, Nat.reduceAdd, Nat.reduceSub, eq_self]
    refine tb_X5_within_15 (c := true) ?_
    simp only [kb_X5_within_15, w_ire, trg, w64_r, true_and, and_true, Nat.reduceAdd, Nat.reduceSub, eq_self]
    exact ⟨0, rfl, rfl, by unfold wth; rw [if_pos h], rfl⟩
  refine tb_X5_within_0 (c := true) ?_
  simp only [kb_X5_within_0, w_ild_1, w_if_lt, w_bi, w_ic_lt, w_nil, w64_r, true_and, and_true, Nat.reduceAdd, Nat.reduceSub, eq_self]
  refine ⟨by omega, fun h => n10 (by omega), fun h => ?_⟩
  refine ⟨by omega, fun h2 => ?_, fun h2 => n10 (by omega)⟩
  refine tb_X5_within_14 (c := true) ?_
  simp only [kb_X5_within_14, w_ild_1, w_nil, w64_r, true_and, and_true, Nat.reduceAdd, Nat.reduceSub, eq_self]
  refine tb_X5_within_15 (c := true) ?_
  simp only [kb_X5_within_15, w_ire, trg, w64_r, true_and, and_true, Nat.reduceAdd, Nat.reduceSub, eq_self]
  exact ⟨x1, rfl, rfl, by unfold wth; rw [if_neg (by omega)], rfl⟩
theorem e_actAt {r : Nat} {x1 : Int} (h0 : cl r 7) (h1 : -2147483648 ≤ x1 ∧ x1 ≤ 2147483647) (hC : CI M) (hd : 1 ≤ d) : tC e d 1793 [.inr (.inr (.inl r)), .inl x1] M n (tQi n (fun z M' => z = M (r + 1) (wth x1) ∧ M' = M)) := by
  have hr := h0.1
  have h42 := (fm_0 h0).1
  have hw := wth_in x1
  refine tst_X5_actAt ?_
  refine tb_X5_actAt_0 (c := true) ?_
  simp only [kb_X5_actAt_0, w_ald_0, w_gf_7_0, tw_t, w_ild_1, w_iv1, tfr_0, tfr_1, tfr_2, tfr_3, tfr_4, w_ca, w_ire, trg, w64_r, true_and, and_true, Nat.reduceAdd, Nat.reduceSub, eq_self, hr, h42, tay_7, tay_42, tay_43, tay_28, tay_15, ta_60, ta_4, ta_8, ta_7]
  refine tc_i (D := 0) (fun d' _ => e_within h1) (by omega) ?_
  rintro x M' ⟨rfl, rfl⟩
  try simp only [kb_X5_actAt_0, w_ald_0, w_gf_7_0, tw_t, w_ild_1, w_iv1, tfr_0, tfr_1, tfr_2, tfr_3, tfr_4, w_ca, w_ire, trg, w64_r, true_and, and_true, Nat.reduceAdd, Nat.reduceSub, eq_self, hr, h42, tay_7, tay_42, tay_43, tay_28, tay_15, ta_60, ta_4, ta_8, ta_7]
  have hc := fm_c (lo := 0) (hi := 65535) hC (fm_0 h0) hw.1 rfl
  refine ⟨by omega, ?_⟩
  exact ⟨by omega, _, rfl, rfl, rfl, rfl⟩
theorem e_scaleAt {r : Nat} {x1 : Int} (h0 : cl r 7) (h1 : -2147483648 ≤ x1 ∧ x1 ≤ 2147483647) (hC : CI M) (hd : 1 ≤ d) : tC e d 1807 [.inr (.inr (.inl r)), .inl x1] M n (tQi n (fun z M' => z = M (r + 3) (wth x1) ∧ M' = M)) := by
  have hr := h0.1
  have h43 := (fm_2 h0).1
  have hw := wth_in x1
  refine tst_X5_scaleAt ?_
  refine tb_X5_scaleAt_0 (c := true) ?_
  simp only [kb_X5_scaleAt_0, w_ald_0, w_gf_7_2, tw_t, w_ild_1, w_iv1, tfr_0, tfr_1, tfr_2, tfr_3, tfr_4, w_ia, w_iax, w_ire, trg, w64_r, true_and, and_true, Nat.reduceAdd, Nat.reduceSub, eq_self, hr, h43, tay_7, tay_42, tay_43, tay_28, tay_15, ta_60, ta_4, ta_8, ta_7]
  refine tc_i (D := 0) (fun d' _ => e_within h1) (by omega) ?_
  rintro x M' ⟨rfl, rfl⟩
  try simp only [kb_X5_scaleAt_0, w_ald_0, w_gf_7_2, tw_t, w_ild_1, w_iv1, tfr_0, tfr_1, tfr_2, tfr_3, tfr_4, w_ia, w_iax, w_ire, trg, w64_r, true_and, and_true, Nat.reduceAdd, Nat.reduceSub, eq_self, hr, h43, tay_7, tay_42, tay_43, tay_28, tay_15, ta_60, ta_4, ta_8, ta_7]
  have hc := fm_c (lo := -65536) (hi := 2147483647) hC (fm_2 h0) hw.1 rfl
  refine ⟨by omega, ?_⟩
  exact ⟨_, rfl, rfl, rfl, rfl⟩
theorem e_lastHeld {r : Nat} (h0 : cl r 7) (hC : CI M) : tC e d 1800 [.inr (.inr (.inl r))] M n (tQi n (fun z M' => z = lhd M r ∧ M' = M)) := by
  have hr := h0.1
  have h15 := (fm_7 h0).1
  have hc : 0 ≤ M r 8 ∧ M r 8 ≤ 60 := fm_c hC h0 (by decide) rfl
  refine tst_X5_lastHeld ?_
  refine tb_X5_lastHeld_0 (c := true) ?_
  simp only [kb_X5_lastHeld_0, w_ald_0, w_gf_7_8, tw_t, w_if_le, w_gf_7_7, w_ic, w_isub, w_ca, w_goto, w64_r, true_and, and_true, Nat.reduceAdd, Nat.reduceSub, eq_self, hr, h15, tay_7, tay_42, tay_43, tay_28, tay_15, ta_60, ta_4, ta_8, ta_7]
  refine ⟨by omega, fun h => ?_, fun h => ?_⟩
  · refine tb_X5_lastHeld_21 (c := true) ?_
    simp only [kb_X5_lastHeld_21, w_ic, w_nil, w64_r, true_and, and_true, Nat.reduceAdd, Nat.reduceSub, eq_self]
    refine tb_X5_lastHeld_22 (c := true) ?_
    simp only [kb_X5_lastHeld_22, w_ire, trg, w64_r, true_and, and_true, Nat.reduceAdd, Nat.reduceSub, eq_self]
    exact ⟨by omega, 0, rfl, rfl, by unfold lhd; rw [if_pos h], rfl⟩
  have hv := fm_c (lo := 0) (hi := 65535) hC (fm_7 h0) (i := M r 8 - 1) (by omega) rfl
  refine ⟨by omega, ?_⟩
  refine tb_X5_lastHeld_22 (c := true) ?_
  simp only [kb_X5_lastHeld_22, w_ire, trg, w64_r, true_and, and_true, Nat.reduceAdd, Nat.reduceSub, eq_self]
  exact ⟨by omega, _, rfl, rfl, by unfold lhd; rw [if_neg h], rfl⟩
theorem k_X5_append_w {r : Nat} {x1 x2 x3 : Int} (h0 : cl r 7) (h1 : (0 ≤ x1 ∧ x1 ≤ 65535)) (h2 : (-9223372036854775808 ≤ x2 ∧ x2 < 9223372036854775808)) (h3 : (-65536 ≤ x3 ∧ x3 ≤ 2147483647)) (hq : x1 = 114 → x3 = 2) (hb : b = 0) (_ : 0 ≤ d) : sP e b d 1794 [.inr (.inr (.inl r)), .inl x1, .inr (.inl x2), .inl x3] n (fun _ => True) (fun M rr n' M' => rr = .inl none ∧ n' = n ∧ M' r ((8 : Nat) : Int) = M r ((8 : Nat) : Int)) := by
  subst hb
  intro M hC _
  have hr := h0.1
  have h42 := (fm_0 h0).1
  have h28 := (fm_1 h0).1
  have h43 := (fm_2 h0).1
  have hc : 0 ≤ M r 4 ∧ M r 4 ≤ 60 := fm_c hC h0 (by decide) rfl
  refine tst_X5_append ?_
  refine tb_X5_append_0 (c := true) ?_
  simp only [kb_X5_append_0, w_ald_0, w_gf_7_4, tw_t, w_bi, w_ic_lt, w_re, w64_r, true_and, and_true, Nat.reduceAdd, Nat.reduceSub, eq_self, hr, h42, h43, h28, tay_7, tay_42, tay_43, tay_28, tay_15, ta_60, ta_4, ta_8, ta_7]
  refine ⟨by omega, fun h => ?_, fun h => ⟨⟨hC, pE_refl⟩, rfl, rfl, rfl⟩⟩
  have u1 : ∀ (M : tM) (i v : Int), tU M (r + 1) i v r 4 = M r 4 := fun M i v => tU_nk (by omega)
  have u2 : ∀ (M : tM) (i v : Int), tU M (r + 2) i v r 4 = M r 4 := fun M i v => tU_nk (by omega)
  have u3 : ∀ (M : tM) (i v : Int), tU M (r + 3) i v r 4 = M r 4 := fun M i v => tU_nk (by omega)
  refine tb_X5_append_10 (c := true) ?_
  simp only [kb_X5_append_10, w_ald_0, w_gf_7_0, tw_t, w_gf_7_4, w_ild_1, w_cas, w_gf_7_1, w_lld_2, w_las, w_gf_7_2, w_ild4, w_ias, ne_eq, eq_self, not_true_eq_false, false_implies, w_dupi, w_dupr, w_ic, w_iadd, w_pf_7_4, w_re, w64_r, true_and, and_true, Nat.reduceAdd, Nat.reduceSub, eq_self, hr, h42, h43, h28, tay_7, tay_42, tay_43, tay_28, tay_15, ta_60, ta_4, ta_8, ta_7, u1, u2, u3]
  generalize M r 4 = c at h hc ⊢
  have cC : ∀ {k s : Nat} {i v : Int} {M : tM}, (∀ (k : Nat) (i : Int), k < 664 → 0 ≤ i → cok (tsh k) i.toNat (M k i)) → tsh k = s → cok s i.toNat v → (∀ (k' : Nat) (i' : Int), k' < 664 → 0 ≤ i' → cok (tsh k') i'.toNat (tU M k i v k' i')) := by
    intro k s i v M hM hk hv k' i' hk' hi'
    show cok (tsh k') i'.toNat (if k' = k ∧ i' = i then v else M k' i')
    by_cases h : k' = k ∧ i' = i
    · rw [if_pos h, h.1, h.2, hk]
      exact hv
    · rw [if_neg h]
      exact hM k' i' hk' hi'
  refine ⟨by omega, fun _ => by rw [if_pos trivial]; exact h1, by omega, by omega, ?_⟩
  refine ⟨⟨⟨?_, ?_⟩, ?_⟩, rfl, rfl, ?_⟩
  · exact cC (cC (cC (cC hC.1 h42 (show 0 ≤ x1 ∧ x1 ≤ 65535 from h1)) h28 trivial) h43 (show -65536 ≤ x3 ∧ x3 ≤ 2147483647 from h3)) hr (show 0 ≤ c + 1 ∧ c + 1 ≤ 60 by omega)
  · intro k i hk hi q
    obtain ⟨g1, g2⟩ := sh42 hk
    have n1 : k ≠ r := fun z => by rw [z, hr] at hk; cases hk
    have n2 : k ≠ r + 2 := fun z => by rw [z, h28] at hk; cases hk
    have n3 : k ≠ r + 3 := fun z => by rw [z, h43] at hk; cases hk
    have m1 : k + 2 ≠ r := fun z => by rw [z, hr] at g1; cases g1
    have m2 : k + 2 ≠ r + 2 := fun z => by omega
    have m3 : k + 2 ≠ r + 1 := fun z => by rw [z, h42] at g1; cases g1
    rw [tU_nk n1, tU_nk n3, tU_nk n2] at q
    rw [tU_nk m1]
    by_cases e1 : k = r + 1 ∧ i = c
    · rw [e1.1, e1.2, tU_eq] at q
      rw [e1.1, e1.2, show r + 1 + 2 = r + 3 from rfl, tU_eq]
      exact hq q
    · have q : M k i = 114 := by
        rw [← q]
        exact (if_neg e1).symm
      have q2 := hC.2 k i hk hi q
      rw [← q2]
      have e2 : ¬ (k + 2 = r + 3 ∧ i = c) := fun z => e1 ⟨by omega, z.2⟩
      refine (if_neg e2).trans ?_
      rw [tU_nk m2, tU_nk m3]
  · refine pE_tr (pE_tr (pE_tr (pE_put ?_) (pE_put ?_)) (pE_put ?_)) (pE_put ?_)
    · exact prt_a (t := 0) (by decide) ⟨(fm_0 h0).2, by rw [h42]; rfl, by omega, by rw [h42]; show _ < (60 : Int); omega⟩ (by decide) (fun _ => rfl)
    · exact prt_a (t := 2) (by decide) ⟨(fm_1 h0).2, by rw [h28]; rfl, by omega, by rw [h28]; show _ < (60 : Int); omega⟩ (by decide) (fun _ => rfl)
    · exact prt_a (t := 1) (by decide) ⟨(fm_2 h0).2, by rw [h43]; rfl, by omega, by rw [h43]; show _ < (60 : Int); omega⟩ (by decide) (fun _ => rfl)
    · exact prt_f (a := 7) (f := 4) (Or.inl (by decide)) h0 (by decide) (fun q _ => by cases q) (by decide)
  · show tU _ r 4 _ r 8 = M r 8
    rw [tU_ni (by decide), tU_nk (by omega), tU_nk (by omega), tU_nk (by omega)]
theorem k_X5_append {r : Nat} {x1 x2 x3 : Int} (h0 : cl r 7) (h1 : (0 ≤ x1 ∧ x1 ≤ 65535)) (h2 : (-9223372036854775808 ≤ x2 ∧ x2 < 9223372036854775808)) (h3 : (-65536 ≤ x3 ∧ x3 ≤ 2147483647)) (hq : x1 = 114 → x3 = 2) (hb : b = 0) (hd : 0 ≤ d) : sC e b d 1794 [.inr (.inr (.inl r)), .inl x1, .inr (.inl x2), .inl x3] n (SQn n (True)) :=
  fun M hC _ => tC_mono (k_X5_append_w h0 h1 h2 h3 hq hb hd M hC trivial) (fun v M' n' q => ⟨q.1, q.2.1, q.2.2.1, trivial⟩)
theorem k_X5_release {r : Nat} (h0 : cl r 7) (hb : b = 0) (hd : 1 ≤ d) : sP e b d 1804 [.inr (.inr (.inl r))] n (fun M => 1 ≤ M r ((8 : Nat) : Int)) (fun _ r n' _ => SQn n True r n') := by
  intro M hC hP
  have hP : 1 ≤ M r 8 := hP
  have hr := h0.1
  have hc : 0 ≤ M r 8 ∧ M r 8 ≤ 60 := fm_c hC h0 (by decide) rfl
  have hl : 0 ≤ lhd M r ∧ lhd M r ≤ 65535 := by
    unfold lhd
    split
    · omega
    · exact fm_c (lo := 0) (hi := 65535) hC (fm_7 h0) (i := M r 8 - 1) (by omega) rfl
  refine tst_X5_release ?_
  have n20 : ∀ z : Int, (lhd M r = 114 → z = 2) → (z = 0 ∨ z = 2) → tT e d 1804 20 [some (.inr (.inr (.inl r)))] [.inl z, .inr (.inl 0), .inl (lhd M r), .inr (.inr (.inl r))] M n (sQ b M (fun r n' _ => SQn n True r n')) := by
    intro z h1 h2
    refine tb_X5_release_20 (c := true) ?_
    simp only [kb_X5_release_20, w_iv3, tfr_0, tfr_1, tfr_2, tfr_3, tfr_4, w_ald_0, w_dupi, w_dupr, w_gf_7_8, tw_t, w_ic, w_isub, w_pf_7_8, w_re, w64_r, true_and, and_true, Nat.reduceAdd, Nat.reduceSub, eq_self, hr, tay_7, tay_42, tay_43, tay_28, tay_15, ta_60, ta_4, ta_8, ta_7]
    refine tf_any (D := 0) (fun d' hd' => k_X5_append_w h0 hl (by omega) (by omega) h1 hb hd' M hC trivial) (by omega) ?_ ?_
    rotate_left
    · rintro _ _ _ ⟨-, q1, -⟩
      cases q1
    rintro _ M1 _ ⟨⟨c1, c2⟩, q1, rfl, q2⟩
    cases q1
    have q2 : M1 r 8 = M r 8 := q2
    try simp only [kb_X5_release_20, w_iv3, tfr_0, tfr_1, tfr_2, tfr_3, tfr_4, w_ald_0, w_dupi, w_dupr, w_gf_7_8, tw_t, w_ic, w_isub, w_pf_7_8, w_re, w64_r, true_and, and_true, Nat.reduceAdd, Nat.reduceSub, eq_self, hr, tay_7, tay_42, tay_43, tay_28, tay_15, ta_60, ta_4, ta_8, ta_7, Option.toList_none, List.nil_append, q2]
    refine ⟨⟨CI_put c1 hr (fun _ => ?_), pE_tr c2 (pE_put (prt_f (a := 7) (f := 8) (Or.inl (by omega)) h0 (by decide) (fun q _ => by cases q) (by decide)))⟩, rfl, rfl, trivial⟩
    show 0 ≤ M r 8 - 1 ∧ M r 8 - 1 ≤ 60
    omega
  refine tb_X5_release_0 (c := true) ?_
  simp only [kb_X5_release_0, w_ald_0, w_iv0, tfr_0, tfr_1, tfr_2, tfr_3, tfr_4, w_lc0, w_bi, w_ic_ne, w_ic, w_goto, w64_r, true_and, and_true, Nat.reduceAdd, Nat.reduceSub, eq_self, hr, tay_7, tay_42, tay_43, tay_28, tay_15, ta_60, ta_4, ta_8, ta_7]
  refine tc_i (D := 0) (fun d' _ => e_lastHeld h0 hC) (by omega) ?_
  rintro x M1 ⟨rfl, rfl⟩
  try simp only [kb_X5_release_0, w_ald_0, w_iv0, tfr_0, tfr_1, tfr_2, tfr_3, tfr_4, w_lc0, w_bi, w_ic_ne, w_ic, w_goto, w64_r, true_and, and_true, Nat.reduceAdd, Nat.reduceSub, eq_self, hr, tay_7, tay_42, tay_43, tay_28, tay_15, ta_60, ta_4, ta_8, ta_7]
  refine tc_i (D := 0) (fun d' _ => e_lastHeld h0 hC) (by omega) ?_
  rintro x M1 ⟨rfl, rfl⟩
  try simp only [kb_X5_release_0, w_ald_0, w_iv0, tfr_0, tfr_1, tfr_2, tfr_3, tfr_4, w_lc0, w_bi, w_ic_ne, w_ic, w_goto, w64_r, true_and, and_true, Nat.reduceAdd, Nat.reduceSub, eq_self, hr, tay_7, tay_42, tay_43, tay_28, tay_15, ta_60, ta_4, ta_8, ta_7]
  refine ⟨by omega, fun h => ?_, fun h => ?_⟩
  · refine tb_X5_release_19 (c := true) ?_
    simp only [kb_X5_release_19, w_ic, w_nil, w64_r, true_and, and_true, Nat.reduceAdd, Nat.reduceSub, eq_self]
    exact n20 0 (fun q => absurd q h) (by omega)
  exact n20 2 (fun _ => rfl) (by omega)
end FORMULA
