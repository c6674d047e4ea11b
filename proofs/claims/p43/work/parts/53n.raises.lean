/-! THE MODEL: the exponential read. -/
section MODEL
variable {e : tE} {d n : Nat} {M : tM}
def rBs : Int → Prop := fun r => r = 5 ∨ r = 7 ∨ r = 8 ∨ r = 9
theorem c_needsBase (hK : KI M) (hd : 4 ≤ d) : tC e d 3661 [.inr (.inr (.inl 664))] M n (tQn n (fun M' => M' 664 14 = 1 ∧ Vr M' 13 BSc ∧ qE rBs M M')) := by
  have hK0 := hK
  obtain ⟨⟨k1, k2, k3⟩, k4, k5, k6⟩ := hK
  refine tst_X12_needsBase ?_
  refine tb_X12_needsBase_0 (c := false) ?_
  simp only [kb_X12_needsBase_0, w_ald_0, w_gf_14_14, tw_f, w_if_eq, w_re, true_and, and_true, Nat.reduceAdd, Nat.reduceSub, eq_self, tshm_14, tshm_31, tshm_32, tykm_31, tykm_32, tykm_14, tci_14, tci_15, tci_960, tshm_667, tshm_668, tshm_669, tshm_670, tykm_33, tci_700]
  refine ⟨by omega, fun h => ?_, fun h => ⟨rfl, rfl, by omega, k6 (by omega), qE_refl⟩⟩
  refine tb_X12_needsBase_8 (c := false) ?_
  simp only [kb_X12_needsBase_8, w_ald_0, w_ic, w_pf_14_14, w_bi, w_iv1, tfr_0, tfr_1, tfr_2, tfr_3, tfr_4, w_iv0, w_iv2, w_re, true_and, and_true, Nat.reduceAdd, Nat.reduceSub, eq_self, tshm_14, tshm_31, tshm_32, tykm_31, tykm_32, tykm_14, tci_14, tci_15, tci_960, tshm_667, tshm_668, tshm_669, tshm_670, tykm_33, tci_700]
  refine ⟨by omega, ?_⟩
  have a0 : rKc (fun _ => False) M (tU M 664 14 1) := rKc_f (Or.inr (Or.inr rfl))
  refine tc_n (D := 2) (fun d' hd' => c_unit (row := 9) (by omega) hd') (by omega) ?_
  rintro M1 ⟨p1, a1⟩
  try simp only [kb_X12_needsBase_8, w_ald_0, w_ic, w_pf_14_14, w_bi, w_iv1, tfr_0, tfr_1, tfr_2, tfr_3, tfr_4, w_iv0, w_iv2, w_re, true_and, and_true, Nat.reduceAdd, Nat.reduceSub, eq_self, tshm_14, tshm_31, tshm_32, tykm_31, tykm_32, tykm_14, tci_14, tci_15, tci_960, tshm_667, tshm_668, tshm_669, tshm_670, tykm_33, tci_700]
  refine tc_n (D := 3) (fun d' hd' => c_series (s := U6) (Nat.le_refl _) p1 hd') (by omega) ?_
  rintro M2 ⟨p2, p3, a2⟩
  rw [serv_U] at p2
  try simp only [kb_X12_needsBase_8, w_ald_0, w_ic, w_pf_14_14, w_bi, w_iv1, tfr_0, tfr_1, tfr_2, tfr_3, tfr_4, w_iv0, w_iv2, w_re, true_and, and_true, Nat.reduceAdd, Nat.reduceSub, eq_self, tshm_14, tshm_31, tshm_32, tykm_31, tykm_32, tykm_14, tci_14, tci_15, tci_960, tshm_667, tshm_668, tshm_669, tshm_670, tykm_33, tci_700]
  refine tc_n (D := 1) (fun d' hd' => c_copies (a := 8) (b := 13) (x := BSc) (by omega) (by omega) (by omega) p2 hd') (by omega) ?_
  rintro M5 ⟨p5, a3⟩
  try simp only [kb_X12_needsBase_8, w_ald_0, w_ic, w_pf_14_14, w_bi, w_iv1, tfr_0, tfr_1, tfr_2, tfr_3, tfr_4, w_iv0, w_iv2, w_re, true_and, and_true, Nat.reduceAdd, Nat.reduceSub, eq_self, tshm_14, tshm_31, tshm_32, tykm_31, tykm_32, tykm_14, tci_14, tci_15, tci_960, tshm_667, tshm_668, tshm_669, tshm_670, tykm_33, tci_700]
  have w : rE (fun r => rBs r ∨ r = 13) (tU M 664 14 1) M5 := rE_tr (rE_mono a1 (fun r hr => by unfold rBs; omega)) (rE_tr (rE_mono a2 (fun r hr => by unfold rSe at hr; unfold rBs; omega)) (rE_mono a3 (fun r hr => Or.inr hr)))
  have f12 : M5 664 12 = M 664 12 := (w.1 664 12 (by decide) (by decide)).trans (tU_ni (by decide))
  have f13 : M5 664 13 = M 664 13 := (w.1 664 13 (by decide) (by decide)).trans (tU_ni (by decide))
  have f14 : M5 664 14 = 1 := (w.1 664 14 (by decide) (by decide)).trans (tU_eq ..)
  have w2 : rKc (fun r => rBs r ∨ r = 13) M M5 := rKc_tr (rKc_mono a0 (fun r hr => hr.elim)) (rKc_U (rU_r w))
  refine ⟨rfl, rfl, f14, p5, rKc_mono w2 (fun r hr => hr.elim Or.inl (fun q => Or.inr (Or.inr (Or.inr q)))), fun _ => ⟨by omega, fun q => ?_, fun q => ?_, fun _ => p5⟩, fun q => f12.trans q, fun q => f13.trans q, fun _ => f14⟩
  · exact Vr_K (k4 (by omega)) w2 (by unfold rBs; omega)
  · exact Vr_K (k5 (by omega)) w2 (by unfold rBs; omega)
noncomputable def exb (up : Int) (D : Nat) (z : Int) : Int := if z = 0 then 10000000000 else deepb up D (exF z).toNat 0
theorem BSc_le : BSc ≤ 3 * U6 := by rw [U6_def]; decide
theorem BSc_tn : BSc < tn 55 := Nat.lt_of_le_of_lt BSc_le (by rw [U6_def, tn_def]; decide)
theorem mulB_b (q : Nat) : ∀ v, mulB BSc q v ≤ 3 ^ q * v := by
  induction q with
  | zero => exact fun v => by rw [Nat.pow_zero, Nat.one_mul]; exact Nat.le_refl _
  | succ q ih =>
    intro v
    refine Nat.le_trans (ih (v * BSc / U6)) ?_
    have h1 : v * BSc / U6 ≤ v * 3 := by
      have : v * BSc ≤ v * 3 * U6 := by
        rw [Nat.mul_assoc]
        exact Nat.mul_le_mul_left v BSc_le
      calc v * BSc / U6 ≤ v * 3 * U6 / U6 := Nat.div_le_div_right this
        _ = v * 3 := Nat.mul_div_cancel _ U6_pos
    rw [Nat.pow_succ, Nat.mul_assoc, Nat.mul_comm 3 v]
    exact Nat.mul_le_mul_left _ h1
theorem mulB_tn {q s : Nat} (hq : q ≤ 60) (hs : s ≤ U6) : mulB BSc q (serv s) < tn 100 := by
  have h1 : serv s ≤ 3 * U6 := Nat.le_trans (serv_le hs) (by rw [serv_U]; exact BSc_le)
  have h2 := mulB_b q (serv s)
  have h3 : 3 ^ q ≤ 3 ^ 60 := Nat.pow_le_pow_right (by decide) hq
  have h4 : 3 ^ q * serv s ≤ 3 ^ 60 * (3 * U6) := Nat.mul_le_mul h3 h1
  refine Nat.lt_of_le_of_lt (Nat.le_trans h2 h4) ?_
  rw [U6_def, tn_def]
  decide
def rEx : Int → Prop := fun r => r = 0 ∨ r = 1 ∨ r = 2 ∨ r = 3 ∨ r = 4 ∨ r = 5 ∨ r = 6 ∨ r = 7 ∨ r = 8 ∨ r = 9 ∨ r = 10 ∨ r = 14
theorem qE_rr {S S' : Int → Prop} {M M' : tM} (h : rE S M M') (hs : ∀ r, S r → S' r) (h1 : ¬ S' 11) (h2 : ¬ S' 12) (h3 : ¬ S' 13) : qE S' M M' := qE_r (rE_mono h hs) h1 h2 h3
theorem rEx_n : ¬ rEx 11 ∧ ¬ rEx 12 ∧ ¬ rEx 13 := by unfold rEx; omega
theorem qx {S : Int → Prop} {M M' : tM} (h : rE S M M') (hs : ∀ r, S r → rEx r) : qE rEx M M' := qE_rr h hs rEx_n.1 rEx_n.2.1 rEx_n.2.2
theorem c_raises {u l up : Int} {D : Nat} (hK : KI M) (hdg : M 664 2 = (D : Int)) (hD : D ≤ 10) (hl : 0 ≤ l ∧ l < 1000000000) (hz : -30000000000000000000000 ≤ u * 1000000000 + l ∧ u * 1000000000 + l ≤ 30000000000000000000000) (hup : up = 0 ∨ up = 1) (hd : 5 ≤ d) :
    tC e d 3685 [.inr (.inr (.inl 664)), .inr (.inl u), .inr (.inl l), .inl up] M n (tQi n (fun z M' => (z = 1 ∧ zb M' = exb up D (u * 1000000000 + l) ∧ (-10000000000000000000000 < exb up D (u * 1000000000 + l) ∧ exb up D (u * 1000000000 + l) < 10000000000000000000000) ∧ cb M' ∨ z = 0) ∧ qE rEx M M')) := by
  generalize hZ : u * 1000000000 + l = Z at hz
  refine tst_X12_raises ?_
  have dp : ∀ (M1 : tM) (v : Nat) (zz : Int) (L : List (Option tV)), zz = 0 ∨ zz = 1 → (zz = 1 ∧ zb M1 = deepb up D v 0 ∧ (-10000000000000000000000 < deepb up D v 0 ∧ deepb up D v 0 < 10000000000000000000000) ∧ cb M1 ∨ zz = 0 ∧ 10000000000000000000000 ≤ tlu (v / tn (54 - D)) 1 0 up * tn (10 - D)) → Z ≠ 0 → (exF Z).toNat = v → (zz = 1 ∧ zb M1 = exb up D Z ∧ (-10000000000000000000000 < exb up D Z ∧ exb up D Z < 10000000000000000000000) ∧ cb M1 ∨ zz = 0) := by
    intro M1 v zz L h1 h2 h3 h4
    unfold exb
    rw [if_neg h3, h4]
    rcases h2 with q | q
    · exact Or.inl q
    · exact Or.inr q.1
  have hU2 : U6 * U6 < tn 109 := by
    rw [U6_tn, ← tn_add]
    exact tn_lt (by decide)
  -- the last step
  have n205 : ∀ (M1 : tM) (v : Nat) (v6 v7 v8 : Option tV), Z ≠ 0 → (exF Z).toNat = v → v < tn 400 → Vr M1 8 v → qE rEx M M1 →
      tT e d 3685 205 [some (.inr (.inr (.inl 664))), some (.inr (.inl u)), none, some (.inr (.inl l)), none, some (.inl up), v6, v7, v8] [] M1 n (tQi n (fun z M' => (z = 1 ∧ zb M' = exb up D Z ∧ (-10000000000000000000000 < exb up D Z ∧ exb up D Z < 10000000000000000000000) ∧ cb M' ∨ z = 0) ∧ qE rEx M M')) := by
    intro M1 v v6 v7 v8 hZ0 hv hv4 q1 q2
    refine tb_X12_raises_205 (c := false) ?_
    simp only [kb_X12_raises_205, w_ald_0, w_bi, w_ic, w_ild5, w_iv3, tfr_0, tfr_1, tfr_2, tfr_3, tfr_4, w_ire, trg, true_and, and_true, Nat.reduceAdd, Nat.reduceSub, eq_self, tshm_14, tshm_31, tshm_32, tykm_31, tykm_32, tykm_14, tci_14, tci_15, tci_960, tshm_667, tshm_668, tshm_669, tshm_670, tykm_33, tci_700]
    refine tc_i (D := 4) (fun d' hd' => c_deep (v := v) (D := D) ((qE_d q2).trans hdg) hD (by omega) q1 (Nat.lt_trans hv4 (tn_lt (by decide))) (Or.inl rfl) hup hd') (by omega) ?_
    rintro zz M2 ⟨s1, s2⟩
    try simp only [kb_X12_raises_205, w_ald_0, w_bi, w_ic, w_ild5, w_iv3, tfr_0, tfr_1, tfr_2, tfr_3, tfr_4, w_ire, trg, true_and, and_true, Nat.reduceAdd, Nat.reduceSub, eq_self, tshm_14, tshm_31, tshm_32, tykm_31, tykm_32, tykm_14, tci_14, tci_15, tci_960, tshm_667, tshm_668, tshm_669, tshm_670, tykm_33, tci_700]
    exact ⟨by omega, _, rfl, rfl, dp M2 v zz [] (by omega) s1 hZ0 hv, qE_tr q2 (qE_U (rU_mono s2 (fun r hr => show rEx r by unfold rEx; omega)) rEx_n.1 rEx_n.2.1 rEx_n.2.2)⟩
  have n167 : ∀ (M1 : tM) (v6 v7 v8 : Option tV), Z ≠ 0 → -600000000000 ≤ Z → exS Z.natAbs < tn 100 → Vr M1 8 (exS Z.natAbs) → qE rEx M M1 →
      tT e d 3685 167 [some (.inr (.inr (.inl 664))), some (.inr (.inl u)), none, some (.inr (.inl l)), none, some (.inl up), v6, v7, v8] [] M1 n (tQi n (fun z M' => (z = 1 ∧ zb M' = exb up D Z ∧ (-10000000000000000000000 < exb up D Z ∧ exb up D Z < 10000000000000000000000) ∧ cb M' ∨ z = 0) ∧ qE rEx M M')) := by
    intro M1 v6 v7 v8 hZ0 hZ6 hv4 q1 q2
    refine tb_X12_raises_167 (c := false) ?_
    simp only [kb_X12_raises_167, w_lld_1, w_lc0, w_lcmp, ne_eq, tlc_r, tlc_eq, tlc_lt, tlc_ge, tlc_gt, tlc_le, w_if_ge, w_ald_0, w_ic, w_lc1, w_iv3, tfr_0, tfr_1, tfr_2, tfr_3, tfr_4, w_bi, w_iv2, w_iv0, w_nil, true_and, and_true, Nat.reduceAdd, Nat.reduceSub, eq_self, tshm_14, tshm_31, tshm_32, tykm_31, tykm_32, tykm_14, tci_14, tci_15, tci_960, tshm_667, tshm_668, tshm_669, tshm_670, tykm_33, tci_700]
    have hex := exS_ge Z.natAbs
    have hu6 := U6_pos
    refine ⟨by omega, fun h => ?_, fun h => ?_⟩
    · refine n205 M1 (exS Z.natAbs) _ _ _ hZ0 ?_ (Nat.lt_trans hv4 (tn_lt (by decide))) q1 q2
      unfold exF
      rw [if_neg (by omega), if_neg (by omega)]
      exact Int.toNat_natCast _
    · refine tc_n (D := 1) (fun d' hd' => c_sets (row := 0) (u := 0) (l := 1) (by omega) (by omega) (by omega) hd') (by omega) ?_
      rintro M2 ⟨p1, p2⟩
      try simp only [kb_X12_raises_167, w_lld_1, w_lc0, w_lcmp, ne_eq, tlc_r, tlc_eq, tlc_lt, tlc_ge, tlc_gt, tlc_le, w_if_ge, w_ald_0, w_ic, w_lc1, w_iv3, tfr_0, tfr_1, tfr_2, tfr_3, tfr_4, w_bi, w_iv2, w_iv0, w_nil, true_and, and_true, Nat.reduceAdd, Nat.reduceSub, eq_self, tshm_14, tshm_31, tshm_32, tykm_31, tykm_32, tykm_14, tci_14, tci_15, tci_960, tshm_667, tshm_668, tshm_669, tshm_670, tykm_33, tci_700]
      rw [Nat.zero_mul, Nat.zero_add] at p1
      have e12 : 1 * pw 12 = U6 * U6 := by
        rw [Nat.one_mul, ← pw_6, ← pw_add]
      refine tc_n (D := 1) (fun d' hd' => c_shl (b := 12) (by omega) p1 (by omega) (by rw [Nat.one_mul]; exact pw_lt (by decide)) hd') (by omega) ?_
      rintro M3 ⟨p3, p4⟩
      rw [e12] at p3
      try simp only [kb_X12_raises_167, w_lld_1, w_lc0, w_lcmp, ne_eq, tlc_r, tlc_eq, tlc_lt, tlc_ge, tlc_gt, tlc_le, w_if_ge, w_ald_0, w_ic, w_lc1, w_iv3, tfr_0, tfr_1, tfr_2, tfr_3, tfr_4, w_bi, w_iv2, w_iv0, w_nil, true_and, and_true, Nat.reduceAdd, Nat.reduceSub, eq_self, tshm_14, tshm_31, tshm_32, tykm_31, tykm_32, tykm_14, tci_14, tci_15, tci_960, tshm_667, tshm_668, tshm_669, tshm_670, tykm_33, tci_700]
      have q3 : Vr M3 8 (exS Z.natAbs) := Vr_E (Vr_E q1 p2 (by omega)) p4 (by omega)
      refine tc_n (D := 1) (fun d' hd' => c_copies (a := 8) (b := 1) (x := exS Z.natAbs) (by omega) (by omega) (by omega) q3 hd') (by omega) ?_
      rintro M4 ⟨p5, p6⟩
      try simp only [kb_X12_raises_167, w_lld_1, w_lc0, w_lcmp, ne_eq, tlc_r, tlc_eq, tlc_lt, tlc_ge, tlc_gt, tlc_le, w_if_ge, w_ald_0, w_ic, w_lc1, w_iv3, tfr_0, tfr_1, tfr_2, tfr_3, tfr_4, w_bi, w_iv2, w_iv0, w_nil, true_and, and_true, Nat.reduceAdd, Nat.reduceSub, eq_self, tshm_14, tshm_31, tshm_32, tykm_31, tykm_32, tykm_14, tci_14, tci_15, tci_960, tshm_667, tshm_668, tshm_669, tshm_670, tykm_33, tci_700]
      refine tc_n (D := 2) (fun d' hd' => c_divides (X := U6 * U6) (Y := exS Z.natAbs) (Vr_E p3 p6 (by omega)) p5 (by omega) (Nat.lt_trans hv4 (tn_pw (by decide))) hd') (by omega) ?_
      rintro M5 ⟨p7, -, p8⟩
      try simp only [kb_X12_raises_167, w_lld_1, w_lc0, w_lcmp, ne_eq, tlc_r, tlc_eq, tlc_lt, tlc_ge, tlc_gt, tlc_le, w_if_ge, w_ald_0, w_ic, w_lc1, w_iv3, tfr_0, tfr_1, tfr_2, tfr_3, tfr_4, w_bi, w_iv2, w_iv0, w_nil, true_and, and_true, Nat.reduceAdd, Nat.reduceSub, eq_self, tshm_14, tshm_31, tshm_32, tykm_31, tykm_32, tykm_14, tci_14, tci_15, tci_960, tshm_667, tshm_668, tshm_669, tshm_670, tykm_33, tci_700]
      refine tc_n (D := 1) (fun d' hd' => c_copies (a := 2) (b := 8) (x := U6 * U6 / exS Z.natAbs) (by omega) (by omega) (by omega) p7 hd') (by omega) ?_
      rintro M6 ⟨p9, p10⟩
      try simp only [kb_X12_raises_167, w_lld_1, w_lc0, w_lcmp, ne_eq, tlc_r, tlc_eq, tlc_lt, tlc_ge, tlc_gt, tlc_le, w_if_ge, w_ald_0, w_ic, w_lc1, w_iv3, tfr_0, tfr_1, tfr_2, tfr_3, tfr_4, w_bi, w_iv2, w_iv0, w_nil, true_and, and_true, Nat.reduceAdd, Nat.reduceSub, eq_self, tshm_14, tshm_31, tshm_32, tykm_31, tykm_32, tykm_14, tci_14, tci_15, tci_960, tshm_667, tshm_668, tshm_669, tshm_670, tykm_33, tci_700]
      refine n205 M6 (U6 * U6 / exS Z.natAbs) _ _ _ hZ0 ?_ ?_ p9 (qE_tr q2 (qE_tr (qx p2 (fun r hr => by unfold rEx; omega)) (qE_tr (qx p4 (fun r hr => by unfold rEx; omega)) (qE_tr (qx p6 (fun r hr => by unfold rEx; omega)) (qE_tr (qx p8 (fun r hr => by unfold rEx; omega)) (qx p10 (fun r hr => by unfold rEx; omega)))))))
      · unfold exF
        rw [if_neg (by omega), if_pos (by omega)]
        exact Int.toNat_natCast _
      · exact Nat.lt_of_le_of_lt (Nat.div_le_self _ _) (Nat.lt_trans hU2 (tn_lt (by decide)))
  have l138 : ∀ (q s0 j i : Nat) (M1 : tM) (v6 : Option tV), q ≤ 60 → s0 ≤ U6 → mulB BSc q (serv s0) = exS Z.natAbs → j + i = q → Z ≠ 0 → -600000000000 ≤ Z → Vr M1 8 (mulB BSc i (serv s0)) → Vr M1 13 BSc → qE rEx M M1 →
      tT e d 3685 138 [some (.inr (.inr (.inl 664))), some (.inr (.inl u)), none, some (.inr (.inl l)), none, some (.inl up), v6, some (.inl (q : Int)), some (.inl (i : Int))] [] M1 n (tQi n (fun z M' => (z = 1 ∧ zb M' = exb up D Z ∧ (-10000000000000000000000 < exb up D Z ∧ exb up D Z < 10000000000000000000000) ∧ cb M' ∨ z = 0) ∧ qE rEx M M')) := by
    intro q s0 j
    induction j with
    | zero =>
      intro i M1 v6 h1 h2 h3 h4 h5 h6 q1 q2 q3
      have : i = q := by omega
      subst this
      refine tb_X12_raises_138 (c := false) ?_
      simp only [kb_X12_raises_138, w_ild8, w_ild7, w_ic_ge, w_ald_0, w_bi, w_iv2, tfr_0, tfr_1, tfr_2, tfr_3, tfr_4, w_inc8, tkl_n, tkl_i, tkl_l, tkl_r, w_goto, true_and, and_true, Nat.reduceAdd, Nat.reduceSub, eq_self, tshm_14, tshm_31, tshm_32, tykm_31, tykm_32, tykm_14, tci_14, tci_15, tci_960, tshm_667, tshm_668, tshm_669, tshm_670, tykm_33, tci_700]
      refine ⟨by omega, fun _ => ?_, fun h => by omega⟩
      rw [h3] at q1
      refine n167 M1 _ _ _ h5 h6 ?_ q1 q3
      rw [← h3]
      exact mulB_tn h1 h2
    | succ j ih =>
      intro i M1 v6 h1 h2 h3 h4 h5 h6 q1 q2 q3
      refine tb_X12_raises_138 (c := false) ?_
      simp only [kb_X12_raises_138, w_ild8, w_ild7, w_ic_ge, w_ald_0, w_bi, w_iv2, tfr_0, tfr_1, tfr_2, tfr_3, tfr_4, w_inc8, tkl_n, tkl_i, tkl_l, tkl_r, w_goto, true_and, and_true, Nat.reduceAdd, Nat.reduceSub, eq_self, tshm_14, tshm_31, tshm_32, tykm_31, tykm_32, tykm_14, tci_14, tci_15, tci_960, tshm_667, tshm_668, tshm_669, tshm_670, tykm_33, tci_700]
      refine ⟨by omega, fun h => by omega, fun _ => ?_⟩
      have hb1 : mulB BSc i (serv s0) * BSc < pw 61 := by
        have h7 : mulB BSc i (serv s0) < tn 100 := mulB_tn (by omega) h2
        have h8 : mulB BSc i (serv s0) * BSc ≤ tn 100 * tn 55 := Nat.mul_le_mul (Nat.le_of_lt h7) (Nat.le_of_lt BSc_tn)
        rw [← tn_add] at h8
        exact Nat.lt_of_le_of_lt h8 (tn_pw (by decide))
      refine tc_n (D := 2) (fun d' hd' => c_times (by omega) (by omega) (by omega) (by omega) q1 q2 hb1 hd') (by omega) ?_
      rintro M2 ⟨p1, p2⟩
      try simp only [kb_X12_raises_138, w_ild8, w_ild7, w_ic_ge, w_ald_0, w_bi, w_iv2, tfr_0, tfr_1, tfr_2, tfr_3, tfr_4, w_inc8, tkl_n, tkl_i, tkl_l, tkl_r, w_goto, true_and, and_true, Nat.reduceAdd, Nat.reduceSub, eq_self, tshm_14, tshm_31, tshm_32, tykm_31, tykm_32, tykm_14, tci_14, tci_15, tci_960, tshm_667, tshm_668, tshm_669, tshm_670, tykm_33, tci_700]
      refine tc_n (D := 1) (fun d' hd' => c_shr (b := 6) (by omega) p1 (by omega) hd') (by omega) ?_
      rintro M3 ⟨p3, p4⟩
      rw [pw_6, ← mulB_s] at p3
      try simp only [kb_X12_raises_138, w_ild8, w_ild7, w_ic_ge, w_ald_0, w_bi, w_iv2, tfr_0, tfr_1, tfr_2, tfr_3, tfr_4, w_inc8, tkl_n, tkl_i, tkl_l, tkl_r, w_goto, true_and, and_true, Nat.reduceAdd, Nat.reduceSub, eq_self, tshm_14, tshm_31, tshm_32, tykm_31, tykm_32, tykm_14, tci_14, tci_15, tci_960, tshm_667, tshm_668, tshm_669, tshm_670, tykm_33, tci_700]
      exact ih (i + 1) M3 _ h1 h2 h3 (by omega) h5 h6 p3 (Vr_E (Vr_E q2 p2 (by omega)) p4 (by omega)) (qE_tr q3 (qE_tr (qx p2 (fun r hr => by unfold rEx; omega)) (qx p4 (fun r hr => by unfold rEx; omega))))
  have n63 : Z ≠ 0 → -600000000000 ≤ Z → Z < 280000000000 →
      tT e d 3685 63 [some (.inr (.inr (.inl 664))), some (.inr (.inl u)), none, some (.inr (.inl l)), none, some (.inl up), none, none, none] [] M n (tQi n (fun z M' => (z = 1 ∧ zb M' = exb up D Z ∧ (-10000000000000000000000 < exb up D Z ∧ exb up D Z < 10000000000000000000000) ∧ cb M' ∨ z = 0) ∧ qE rEx M M')) := by
    intro h5 h6 h7
    obtain ⟨a, ha⟩ : ∃ a : Nat, a = Z.natAbs := ⟨_, rfl⟩
    have hsz : (u * 1000000000 + l).natAbs = a := by rw [hZ, ha]
    have ha2 : a ≤ 600000000000 := by omega
    obtain ⟨q, hq⟩ : ∃ q : Nat, q = a / 10000000000 := ⟨_, rfl⟩
    have hq2 : q ≤ 60 := by omega
    have hqa : q * 10000000000 ≤ a := by rw [hq]; exact Nat.div_mul_le_self _ _
    obtain ⟨r, hr⟩ : ∃ r : Nat, r = a % 10000000000 := ⟨_, rfl⟩
    have hr2 : r < 10000000000 := by omega
    have hqr : a - q * 10000000000 = r := by
      rw [hr, hq, Nat.mul_comm]
      exact (Nat.mod_eq_sub ..).symm
    have hr3 : r * U4 ≤ U6 := by
      rw [U6_U4]
      exact Nat.mul_le_mul_right _ (Nat.le_of_lt hr2)
    have hex : mulB BSc q (serv (r * U4)) = exS Z.natAbs := by
      rw [← ha, hq, hr]
      rfl
    refine tb_X12_raises_63 (c := false) ?_
    simp only [kb_X12_raises_63, w_ald_0, w_iv0, tfr_0, tfr_1, tfr_2, tfr_3, tfr_4, w_bi, w_lld_1, w_lld_3, w_iv3, w_iv2, w_ist6, tkl_n, tkl_i, tkl_l, tkl_r, w_ic, w_l2i, w_ist7, w_ist8, w_nil, true_and, and_true, Nat.reduceAdd, Nat.reduceSub, eq_self, tshm_14, tshm_31, tshm_32, tykm_31, tykm_32, tykm_14, tci_14, tci_15, tci_960, tshm_667, tshm_668, tshm_669, tshm_670, tykm_33, tci_700]
    refine tc_n (D := 4) (fun d' hd' => c_needsBase hK hd') (by omega) ?_
    rintro M1 ⟨-, p1, p2⟩
    have w1 : qE rEx M M1 := qE_mono p2 (fun r hr => by unfold rBs at hr; unfold rEx; omega)
    try simp only [kb_X12_raises_63, w_ald_0, w_iv0, tfr_0, tfr_1, tfr_2, tfr_3, tfr_4, w_bi, w_lld_1, w_lld_3, w_iv3, w_iv2, w_ist6, tkl_n, tkl_i, tkl_l, tkl_r, w_ic, w_l2i, w_ist7, w_ist8, w_nil, true_and, and_true, Nat.reduceAdd, Nat.reduceSub, eq_self, tshm_14, tshm_31, tshm_32, tykm_31, tykm_32, tykm_14, tci_14, tci_15, tci_960, tshm_667, tshm_668, tshm_669, tshm_670, tykm_33, tci_700]
    refine tc_n (D := 2) (fun d' hd' => c_size (row := 9) (by omega) hl (by omega) hd') (by omega) ?_
    rintro M2 ⟨p3, p4⟩
    rw [hsz] at p3
    try simp only [kb_X12_raises_63, w_ald_0, w_iv0, tfr_0, tfr_1, tfr_2, tfr_3, tfr_4, w_bi, w_lld_1, w_lld_3, w_iv3, w_iv2, w_ist6, tkl_n, tkl_i, tkl_l, tkl_r, w_ic, w_l2i, w_ist7, w_ist8, w_nil, true_and, and_true, Nat.reduceAdd, Nat.reduceSub, eq_self, tshm_14, tshm_31, tshm_32, tykm_31, tykm_32, tykm_14, tci_14, tci_15, tci_960, tshm_667, tshm_668, tshm_669, tshm_670, tykm_33, tci_700]
    refine tc_n (D := 1) (fun d' hd' => c_copies (a := 9) (b := 6) (x := a) (by omega) (by omega) (by omega) p3 hd') (by omega) ?_
    rintro M3 ⟨p5, p6⟩
    try simp only [kb_X12_raises_63, w_ald_0, w_iv0, tfr_0, tfr_1, tfr_2, tfr_3, tfr_4, w_bi, w_lld_1, w_lld_3, w_iv3, w_iv2, w_ist6, tkl_n, tkl_i, tkl_l, tkl_r, w_ic, w_l2i, w_ist7, w_ist8, w_nil, true_and, and_true, Nat.reduceAdd, Nat.reduceSub, eq_self, tshm_14, tshm_31, tshm_32, tykm_31, tykm_32, tykm_14, tci_14, tci_15, tci_960, tshm_667, tshm_668, tshm_669, tshm_670, tykm_33, tci_700]
    refine tc_i (D := 2) (fun d' hd' => c_tensd (a := 6) (b := 10) (by omega) p5 (by omega) hd') (by omega) ?_
    rintro z4 M4 ⟨-, p7, p8⟩
    rw [tn_10, ← hq] at p7
    try simp only [kb_X12_raises_63, w_ald_0, w_iv0, tfr_0, tfr_1, tfr_2, tfr_3, tfr_4, w_bi, w_lld_1, w_lld_3, w_iv3, w_iv2, w_ist6, tkl_n, tkl_i, tkl_l, tkl_r, w_ic, w_l2i, w_ist7, w_ist8, w_nil, true_and, and_true, Nat.reduceAdd, Nat.reduceSub, eq_self, tshm_14, tshm_31, tshm_32, tykm_31, tykm_32, tykm_14, tci_14, tci_15, tci_960, tshm_667, tshm_668, tshm_669, tshm_670, tykm_33, tci_700]
    obtain ⟨m7, p7d, p7z⟩ := id p7
    refine tc_l (D := 0) (fun d' hd' => c_limb (x := q) (k := 0) (by omega) p7d (by omega)) (by omega) ?_
    rintro z5 _ ⟨hz5, rfl⟩
    have hz5' : z5 = (q : Int) := by
      rw [hz5, dg_def, pw_0]
      omega
    subst hz5'
    clear hz5
    have hw : w32 (q : Int) = (q : Int) := by unfold w32; omega
    try simp only [kb_X12_raises_63, w_ald_0, w_iv0, tfr_0, tfr_1, tfr_2, tfr_3, tfr_4, w_bi, w_lld_1, w_lld_3, w_iv3, w_iv2, w_ist6, tkl_n, tkl_i, tkl_l, tkl_r, w_ic, w_l2i, w_ist7, w_ist8, w_nil, true_and, and_true, Nat.reduceAdd, Nat.reduceSub, eq_self, tshm_14, tshm_31, tshm_32, tykm_31, tykm_32, tykm_14, tci_14, tci_15, tci_960, tshm_667, tshm_668, tshm_669, tshm_670, tykm_33, tci_700, hw]
    refine tc_i (D := 2) (fun d' hd' => c_tens (a := 6) (b := 10) (by omega) p7 (by omega) ?_ hd') (by omega) ?_
    · rw [tn_10]
      exact b60 (Nat.lt_of_le_of_lt (Nat.mul_le_mul_right _ hq2) (by decide))
    rintro z6 M5 ⟨-, p9, p10⟩
    rw [tn_10] at p9
    try simp only [kb_X12_raises_63, w_ald_0, w_iv0, tfr_0, tfr_1, tfr_2, tfr_3, tfr_4, w_bi, w_lld_1, w_lld_3, w_iv3, w_iv2, w_ist6, tkl_n, tkl_i, tkl_l, tkl_r, w_ic, w_l2i, w_ist7, w_ist8, w_nil, true_and, and_true, Nat.reduceAdd, Nat.reduceSub, eq_self, tshm_14, tshm_31, tshm_32, tykm_31, tykm_32, tykm_14, tci_14, tci_15, tci_960, tshm_667, tshm_668, tshm_669, tshm_670, tykm_33, tci_700]
    have p3' : Vr M5 9 a := Vr_E (Vr_E (Vr_E p3 p6 (by omega)) p8 (by omega)) p10 (by omega)
    refine tc_n (D := 1) (fun d' hd' => c_less (by omega) (by omega) (by omega) p3' p9 hqa hd') (by omega) ?_
    rintro M6 ⟨p11, p12⟩
    rw [hqr] at p11
    try simp only [kb_X12_raises_63, w_ald_0, w_iv0, tfr_0, tfr_1, tfr_2, tfr_3, tfr_4, w_bi, w_lld_1, w_lld_3, w_iv3, w_iv2, w_ist6, tkl_n, tkl_i, tkl_l, tkl_r, w_ic, w_l2i, w_ist7, w_ist8, w_nil, true_and, and_true, Nat.reduceAdd, Nat.reduceSub, eq_self, tshm_14, tshm_31, tshm_32, tykm_31, tykm_32, tykm_14, tci_14, tci_15, tci_960, tshm_667, tshm_668, tshm_669, tshm_670, tykm_33, tci_700]
    refine tc_i (D := 2) (fun d' hd' => c_tens (a := 9) (b := 44) (by omega) p11 (by omega) ?_ hd') (by omega) ?_
    · rw [← U4_tn]
      refine b60 (Nat.lt_of_le_of_lt hr3 ?_)
      rw [U6_def]
      decide
    rintro z7 M7 ⟨-, p13, p14⟩
    rw [← U4_tn] at p13
    try simp only [kb_X12_raises_63, w_ald_0, w_iv0, tfr_0, tfr_1, tfr_2, tfr_3, tfr_4, w_bi, w_lld_1, w_lld_3, w_iv3, w_iv2, w_ist6, tkl_n, tkl_i, tkl_l, tkl_r, w_ic, w_l2i, w_ist7, w_ist8, w_nil, true_and, and_true, Nat.reduceAdd, Nat.reduceSub, eq_self, tshm_14, tshm_31, tshm_32, tykm_31, tykm_32, tykm_14, tci_14, tci_15, tci_960, tshm_667, tshm_668, tshm_669, tshm_670, tykm_33, tci_700]
    refine tc_n (D := 3) (fun d' hd' => c_series (s := r * U4) hr3 p13 hd') (by omega) ?_
    rintro M8 ⟨p15, -, p16⟩
    try simp only [kb_X12_raises_63, w_ald_0, w_iv0, tfr_0, tfr_1, tfr_2, tfr_3, tfr_4, w_bi, w_lld_1, w_lld_3, w_iv3, w_iv2, w_ist6, tkl_n, tkl_i, tkl_l, tkl_r, w_ic, w_l2i, w_ist7, w_ist8, w_nil, true_and, and_true, Nat.reduceAdd, Nat.reduceSub, eq_self, tshm_14, tshm_31, tshm_32, tykm_31, tykm_32, tykm_14, tci_14, tci_15, tci_960, tshm_667, tshm_668, tshm_669, tshm_670, tykm_33, tci_700]
    have f13 : Vr M8 13 BSc := Vr_E (Vr_E (Vr_E (Vr_E (Vr_E (Vr_E (Vr_E p1 p4 (by omega)) p6 (by omega)) p8 (by omega)) p10 (by omega)) p12 (by omega)) p14 (by omega)) p16 (by unfold rSe; omega)
    exact l138 q (r * U4) q 0 M8 _ hq2 hr3 hex (by omega) h5 h6 p15 f13 (qE_tr w1 (qE_tr (qx p4 (fun r hr => by unfold rEx; omega)) (qE_tr (qx p6 (fun r hr => by unfold rEx; omega)) (qE_tr (qx p8 (fun r hr => by unfold rEx; omega)) (qE_tr (qx p10 (fun r hr => by unfold rEx; omega)) (qE_tr (qx p12 (fun r hr => by unfold rEx; omega)) (qE_tr (qx p14 (fun r hr => by unfold rEx; omega)) (qx p16 (fun r hr => by unfold rSe at hr; unfold rEx; omega)))))))))
  have n26 : Z ≠ 0 → tT e d 3685 26 [some (.inr (.inr (.inl 664))), some (.inr (.inl u)), none, some (.inr (.inl l)), none, some (.inl up), none, none, none] [] M n (tQi n (fun z M' => (z = 1 ∧ zb M' = exb up D Z ∧ (-10000000000000000000000 < exb up D Z ∧ exb up D Z < 10000000000000000000000) ∧ cb M' ∨ z = 0) ∧ qE rEx M M')) := by
    intro hZ0
    refine tb_X12_raises_26 (c := false) ?_
    simp only [kb_X12_raises_26, w_lld_1, w_ld2, w_lcmp, ne_eq, tlc_r, tlc_eq, tlc_lt, tlc_ge, tlc_gt, tlc_le, w_if_lt, w_ic, w_ire, trg, true_and, and_true, Nat.reduceAdd, Nat.reduceSub, eq_self]
    refine ⟨by omega, fun h => ?_, fun _ => ⟨by omega, _, rfl, rfl, Or.inr rfl, qE_refl⟩⟩
    refine tb_X12_raises_36 (c := false) ?_
    simp only [kb_X12_raises_36, w_lld_1, w_ld2, w_lcmp, ne_eq, tlc_r, tlc_eq, tlc_lt, tlc_ge, tlc_gt, tlc_le, w_if_ge, w_ald_0, w_bi, w_lc0, w_iv3, tfr_0, tfr_1, tfr_2, tfr_3, tfr_4, w_ic, w_ild5, w_iv4, w_ire, trg, true_and, and_true, Nat.reduceAdd, Nat.reduceSub, eq_self, tshm_14, tshm_31, tshm_32, tykm_31, tykm_32, tykm_14, tci_14, tci_15, tci_960, tshm_667, tshm_668, tshm_669, tshm_670, tykm_33, tci_700]
    refine ⟨by omega, fun h6 => ?_, fun h6 => ?_⟩
    · exact n63 hZ0 (by omega) (by omega)
    · refine tc_n (D := 1) (fun d' hd' => c_sets (row := 8) (u := 0) (l := 0) (by omega) (by omega) (by omega) hd') (by omega) ?_
      rintro M1 ⟨p1, p2⟩
      rw [Nat.zero_mul, Nat.zero_add] at p1
      try simp only [kb_X12_raises_36, w_lld_1, w_ld2, w_lcmp, ne_eq, tlc_r, tlc_eq, tlc_lt, tlc_ge, tlc_gt, tlc_le, w_if_ge, w_ald_0, w_bi, w_lc0, w_iv3, tfr_0, tfr_1, tfr_2, tfr_3, tfr_4, w_ic, w_ild5, w_iv4, w_ire, trg, true_and, and_true, Nat.reduceAdd, Nat.reduceSub, eq_self, tshm_14, tshm_31, tshm_32, tykm_31, tykm_32, tykm_14, tci_14, tci_15, tci_960, tshm_667, tshm_668, tshm_669, tshm_670, tykm_33, tci_700]
      have hdg1 : M1 664 2 = (D : Int) := (rE_d p2).trans hdg
      have h0 : 0 / tn (54 - D) = 0 := Nat.zero_div _
      refine tc_i (D := 3) (fun d' hd' => c_tells (t := 0) (D := D) (by omega) p1 hdg1 hD (Or.inr rfl) (Or.inl rfl) hup (by rw [tn_10]; have := pw_60b; omega) hd') (by omega) ?_
      rintro zz M2 ⟨s1, s2⟩
      try simp only [kb_X12_raises_36, w_lld_1, w_ld2, w_lcmp, ne_eq, tlc_r, tlc_eq, tlc_lt, tlc_ge, tlc_gt, tlc_le, w_if_ge, w_ald_0, w_bi, w_lc0, w_iv3, tfr_0, tfr_1, tfr_2, tfr_3, tfr_4, w_ic, w_ild5, w_iv4, w_ire, trg, true_and, and_true, Nat.reduceAdd, Nat.reduceSub, eq_self, tshm_14, tshm_31, tshm_32, tykm_31, tykm_32, tykm_14, tci_14, tci_15, tci_960, tshm_667, tshm_668, tshm_669, tshm_670, tykm_33, tci_700]
      refine ⟨by omega, _, rfl, rfl, dp M2 0 zz [] (by omega) ?_ hZ0 ?_, qE_tr (qx p2 (fun r hr => by unfold rEx; omega)) (qE_U (rU_mono s2 (fun r hr => show rEx r by unfold rEx; omega)) rEx_n.1 rEx_n.2.1 rEx_n.2.2)⟩
      · unfold deepb
        rw [h0, if_neg (by omega)]
        rcases s1 with ⟨s3, s4, s5, s6⟩ | ⟨s3, s4⟩
        · rw [if_neg (by omega)] at s5
          exact Or.inl ⟨s3, s5, by omega, s6⟩
        · exact Or.inr ⟨s3, s4⟩
      · unfold exF
        rw [if_pos (by omega)]
        rfl
  refine tb_X12_raises_0 (c := false) ?_
  simp only [kb_X12_raises_0, w_lld_1, w_lc0, w_lcmp, ne_eq, tlc_r, tlc_eq, tlc_lt, tlc_ge, tlc_gt, tlc_le, w_if_ne, w_lld_3, w_ald_0, w_ld2, w_pf_14_4, w_pf_14_5, w_ic, w_ire, trg, true_and, and_true, Nat.reduceAdd, Nat.reduceSub, eq_self, tshm_14, tshm_31, tshm_32, tykm_31, tykm_32, tykm_14, tci_14, tci_15, tci_960, tshm_667, tshm_668, tshm_669, tshm_670, tykm_33, tci_700]
  refine ⟨by omega, fun h => n26 (by omega), fun h => ?_⟩
  refine ⟨by omega, fun h2 => n26 (by omega), fun h2 => ?_⟩
  have hz0 : Z = 0 := by omega
  have k1 : zb (tU (tU M 664 4 10) 664 5 0) = 10000000000 := by
    unfold zb
    rw [u5_4, u4_4, u5_5]
    rfl
  have k2 : exb up D Z = 10000000000 := by
    unfold exb
    rw [if_pos hz0]
  refine ⟨by omega, _, rfl, rfl, Or.inl ⟨rfl, by rw [k1, k2], by rw [k2]; omega, ?_⟩, qE_U (rU_u (uE_tr uE_4 uE_5)) rEx_n.1 rEx_n.2.1 rEx_n.2.2⟩
  unfold cb
  rw [u5_4, u4_4, u5_5]
  omega
/-- The bounds hold the number in between. -/
theorem exb_in {D : Nat} {z : Int} (hD : D ≤ 10) : exb 0 D z * (U4 : Int) ≤ exF z ∧ exF z ≤ exb 1 D z * (U4 : Int) := by
  unfold exb
  by_cases h : z = 0
  · rw [if_pos h, if_pos h]
    have : exF z = (U6 : Int) := by
      unfold exF
      rw [if_neg (by omega), if_neg (by omega), h]
      show ((exS 0 : Nat) : Int) = _
      rw [exS_0]
    rw [this, U6_U4, Int.natCast_mul]
    exact ⟨Int.le_refl _, Int.le_refl _⟩
  · rw [if_neg h, if_neg h]
    have := deep_in (D := D) (v := (exF z).toNat) (ib := 0) hD (Or.inl rfl)
    rw [if_neg (by omega)] at this
    have hn : 0 ≤ exF z := by
      unfold exF
      split
      · omega
      · split
        · exact Int.natCast_nonneg _
        · exact Int.natCast_nonneg _
    rw [Int.toNat_of_nonneg hn] at this
    exact this
end MODEL
