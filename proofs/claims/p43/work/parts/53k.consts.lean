/-! THE MODEL: the constants, the series. -/
/-- 10^54, opaque. -/
theorem U6_ex : ∃ u : Nat, u = 1000000000000000000000000000000000000000000000000000000 := ⟨_, rfl⟩
noncomputable def U6 : Nat := Classical.choose U6_ex
theorem U6_def : U6 = 1000000000000000000000000000000000000000000000000000000 := Classical.choose_spec U6_ex
theorem pw_6 : pw 6 = U6 := by rw [U6_def, pw_def]
theorem U6_tn : U6 = tn 54 := by rw [← pw_6, pw_tn]
theorem U6_pos : 0 < U6 := by rw [← pw_6]; exact pw_pos 6
/-- A run of odds: what is left, and the sum, if no step goes out of its bounds. -/
def odf (qq : Nat) (alt : Bool) : Nat → Nat → Nat → Nat → Option Nat
  | 0, t, _, acc => if t = 0 then some acc else none
  | f + 1, t, k, acc => if t = 0 then some acc else
    if alt = true ∧ k % 4 = 3 then (if t / qq / k ≤ acc ∧ k ≤ 1000000 then odf qq alt f (t / qq) (k + 2) (acc - t / qq / k) else none)
    else (if acc + t / qq / k < 10000000000000000000000000000000000000000000000000000000000 ∧ k ≤ 1000000 then odf qq alt f (t / qq) (k + 2) (acc + t / qq / k) else none)
theorem Vr_0 {M : tM} {r : Int} {x : Nat} (h : Vr M r x) : 0 ≤ M 666 r ∧ M 666 r ≤ 62 ∧ (M 666 r ≤ 0 ↔ x = 0) := by
  obtain ⟨m, ⟨h1, h2, h3, -⟩, h4⟩ := h
  refine ⟨by omega, by omega, fun q => ?_, fun q => ?_⟩
  · have : m = 0 := by omega
    rw [this, pw_0] at h3
    omega
  · rcases h4 with h4 | h4
    · omega
    · have := pw_pos (m - 1)
      omega
section MODEL
variable {e : tE} {d n : Nat} {M : tM}
theorem c_unit {row : Int} (hr : 0 ≤ row ∧ row < 15) (hd : 2 ≤ d) : tC e d 3730 [.inr (.inr (.inl 664)), .inl row] M n (tQn n (fun M' => Vr M' row U6 ∧ rE (fun r => r = row) M M')) := by
  refine tst_X12_unit ?_
  refine tb_X12_unit_0 (c := false) ?_
  simp only [kb_X12_unit_0, w_ald_0, w_ild_1, w_lc0, w_lc1, w_iv3, tfr_0, tfr_1, tfr_2, tfr_3, tfr_4, w_bi, w_iv2, w_re, true_and, and_true, Nat.reduceAdd, Nat.reduceSub, eq_self, tshm_14, tshm_31, tshm_32, tykm_31, tykm_32, tykm_14, tci_14, tci_15, tci_960, tshm_667, tshm_668, tshm_669, tshm_670, tykm_33, tci_700]
  refine tc_n (D := 1) (fun d' hd' => c_sets (row := row) (u := 0) (l := 1) hr (by omega) (by omega) hd') (by omega) ?_
  rintro M1 ⟨p1, p2⟩
  try simp only [kb_X12_unit_0, w_ald_0, w_ild_1, w_lc0, w_lc1, w_iv3, tfr_0, tfr_1, tfr_2, tfr_3, tfr_4, w_bi, w_iv2, w_re, true_and, and_true, Nat.reduceAdd, Nat.reduceSub, eq_self, tshm_14, tshm_31, tshm_32, tykm_31, tykm_32, tykm_14, tci_14, tci_15, tci_960, tshm_667, tshm_668, tshm_669, tshm_670, tykm_33, tci_700]
  refine tc_n (D := 1) (fun d' hd' => c_shl (b := 6) hr p1 (by omega) ?_ hd') (by omega) ?_
  · rw [Nat.zero_mul, Nat.zero_add, Nat.one_mul]
    exact pw_lt (by decide)
  rintro M2 ⟨p3, p4⟩
  rw [Nat.zero_mul, Nat.zero_add, Nat.one_mul, pw_6] at p3
  try simp only [kb_X12_unit_0, w_ald_0, w_ild_1, w_lc0, w_lc1, w_iv3, tfr_0, tfr_1, tfr_2, tfr_3, tfr_4, w_bi, w_iv2, w_re, true_and, and_true, Nat.reduceAdd, Nat.reduceSub, eq_self, tshm_14, tshm_31, tshm_32, tykm_31, tykm_32, tykm_14, tci_14, tci_15, tci_960, tshm_667, tshm_668, tshm_669, tshm_670, tykm_33, tci_700]
  exact ⟨rfl, rfl, p3, rE_tr p2 p4⟩
def rOd (row : Int) : Int → Prop := fun r => r = row ∨ r = 6 ∨ r = 7
theorem c_odds {row : Int} {q v : Nat} {alt : Bool} (hr : 0 ≤ row ∧ row < 15) (hr6 : row ≠ 6 ∧ row ≠ 7) (hq : 0 < q ∧ q ≤ 30000) {f : Nat} (hv : odf (q * q) alt f (1000000000000000000000000000000000000000000000000000000 / q) 3 (1000000000000000000000000000000000000000000000000000000 / q) = some v) (hd : 3 ≤ d) :
    tC e d 3670 [.inr (.inr (.inl 664)), .inl row, .inr (.inl (q : Int)), .inl (if alt = true then 1 else 0)] M n (tQn n (fun M' => Vr M' row v ∧ rE (rOd row) M M')) := by
  rw [← U6_def] at hv
  have hqq : (q : Int) * (q : Int) = ((q * q : Nat) : Int) := (Int.natCast_mul q q).symm
  have hqq1 : 0 < q * q ∧ q * q ≤ 1000000000 := ⟨Nat.mul_pos hq.1 hq.1, Nat.le_trans (Nat.mul_le_mul hq.2 hq.2) (by decide)⟩
  have bigp : (10000000000000000000000000000000000000000000000000000000000 : Nat) < pw 62 := by
    have := pw_60b
    have := pw_lt (show 60 < 62 by omega)
    omega
  have hl : ∀ (f t k acc : Nat) (M1 : tM) (v5 : Option tV), odf (q * q) alt f t k acc = some v → 0 < k → Vr M1 7 t → Vr M1 row acc → rE (rOd row) M M1 →
      tT e d 3670 27 [some (.inr (.inr (.inl 664))), some (.inl row), some (.inr (.inl (q : Int))), none, some (.inl (if alt = true then 1 else 0)), v5, none, some (.inr (.inl (k : Int))), none] [] M1 n (tQn n (fun M' => Vr M' row v ∧ rE (rOd row) M M')) := by
    intro f
    induction f with
    | zero =>
      intro t k acc M1 v5 h1 hk q1 q2 q3
      unfold odf at h1
      split at h1
      · rename_i h2
        obtain ⟨a1, a2, a3⟩ := Vr_0 q1
        simp only [Option.some.injEq] at h1
        subst h1
        refine tb_X12_odds_27 (c := false) ?_
        simp only [kb_X12_odds_27, w_ald_0, w_gf_14_1, tw_f, w_bi, w_ia, w_iax, w_if_le, w_lld_2, w_lmul, w_iv2, tfr_0, tfr_1, tfr_2, tfr_3, tfr_4, w_lst5, tkl_n, tkl_i, tkl_l, tkl_r, w_lld7, w_ild4, w_if_eq, w_ld2, w_lrem, w_lcmp, ne_eq, tlc_r, tlc_eq, tlc_lt, tlc_ge, tlc_gt, tlc_le, w_if_ne, w_ild_1, w_goto, true_and, and_true, Nat.reduceAdd, Nat.reduceSub, eq_self, tshm_14, tshm_31, tshm_32, tykm_31, tykm_32, tykm_14, tci_14, tci_15, tci_960, tshm_667, tshm_668, tshm_669, tshm_670, tykm_33, tci_700]
        refine ⟨by omega, by omega, fun _ => ?_, fun h => by omega⟩
        refine tb_X12_odds_112 (c := false) ?_
        simp only [kb_X12_odds_112, w_re, true_and, and_true, Nat.reduceAdd, Nat.reduceSub, eq_self]
        exact ⟨rfl, rfl, q2, q3⟩
      · exact absurd h1 (by simp)
    | succ f ih =>
      intro t k acc M1 v5 h1 hk q1 q2 q3
      unfold odf at h1
      obtain ⟨a1, a2, a3⟩ := Vr_0 q1
      by_cases ht : t = 0
      · rw [if_pos ht] at h1
        simp only [Option.some.injEq] at h1
        subst h1
        refine tb_X12_odds_27 (c := false) ?_
        simp only [kb_X12_odds_27, w_ald_0, w_gf_14_1, tw_f, w_bi, w_ia, w_iax, w_if_le, w_lld_2, w_lmul, w_iv2, tfr_0, tfr_1, tfr_2, tfr_3, tfr_4, w_lst5, tkl_n, tkl_i, tkl_l, tkl_r, w_lld7, w_ild4, w_if_eq, w_ld2, w_lrem, w_lcmp, ne_eq, tlc_r, tlc_eq, tlc_lt, tlc_ge, tlc_gt, tlc_le, w_if_ne, w_ild_1, w_goto, true_and, and_true, Nat.reduceAdd, Nat.reduceSub, eq_self, tshm_14, tshm_31, tshm_32, tykm_31, tykm_32, tykm_14, tci_14, tci_15, tci_960, tshm_667, tshm_668, tshm_669, tshm_670, tykm_33, tci_700]
        refine ⟨by omega, by omega, fun _ => ?_, fun h => by omega⟩
        refine tb_X12_odds_112 (c := false) ?_
        simp only [kb_X12_odds_112, w_re, true_and, and_true, Nat.reduceAdd, Nat.reduceSub, eq_self]
        exact ⟨rfl, rfl, q2, q3⟩
      · rw [if_neg ht] at h1
        refine tb_X12_odds_27 (c := false) ?_
        simp only [kb_X12_odds_27, w_ald_0, w_gf_14_1, tw_f, w_bi, w_ia, w_iax, w_if_le, w_lld_2, w_lmul, w_iv2, tfr_0, tfr_1, tfr_2, tfr_3, tfr_4, w_lst5, tkl_n, tkl_i, tkl_l, tkl_r, w_lld7, w_ild4, w_if_eq, w_ld2, w_lrem, w_lcmp, ne_eq, tlc_r, tlc_eq, tlc_lt, tlc_ge, tlc_gt, tlc_le, w_if_ne, w_ild_1, w_goto, true_and, and_true, Nat.reduceAdd, Nat.reduceSub, eq_self, tshm_14, tshm_31, tshm_32, tykm_31, tykm_32, tykm_14, tci_14, tci_15, tci_960, tshm_667, tshm_668, tshm_669, tshm_670, tykm_33, tci_700, hqq]
        refine ⟨by omega, by omega, fun _ => by omega, fun _ => ?_⟩
        refine tc_l (D := 1) (fun d' hd' => c_parts (b := q * q) (by omega) q1 hqq1 hd') (by omega) ?_
        rintro z1 M2 ⟨-, p1, p2⟩
        try simp only [kb_X12_odds_27, w_ald_0, w_gf_14_1, tw_f, w_bi, w_ia, w_iax, w_if_le, w_lld_2, w_lmul, w_iv2, tfr_0, tfr_1, tfr_2, tfr_3, tfr_4, w_lst5, tkl_n, tkl_i, tkl_l, tkl_r, w_lld7, w_ild4, w_if_eq, w_ld2, w_lrem, w_lcmp, ne_eq, tlc_r, tlc_eq, tlc_lt, tlc_ge, tlc_gt, tlc_le, w_if_ne, w_ild_1, w_goto, true_and, and_true, Nat.reduceAdd, Nat.reduceSub, eq_self, tshm_14, tshm_31, tshm_32, tykm_31, tykm_32, tykm_14, tci_14, tci_15, tci_960, tshm_667, tshm_668, tshm_669, tshm_670, tykm_33, tci_700]
        refine tc_n (D := 1) (fun d' hd' => c_copies (a := 7) (b := 6) (x := t / (q * q)) (by omega) (by omega) (by omega) p1 hd') (by omega) ?_
        rintro M3 ⟨p3, p4⟩
        try simp only [kb_X12_odds_27, w_ald_0, w_gf_14_1, tw_f, w_bi, w_ia, w_iax, w_if_le, w_lld_2, w_lmul, w_iv2, tfr_0, tfr_1, tfr_2, tfr_3, tfr_4, w_lst5, tkl_n, tkl_i, tkl_l, tkl_r, w_lld7, w_ild4, w_if_eq, w_ld2, w_lrem, w_lcmp, ne_eq, tlc_r, tlc_eq, tlc_lt, tlc_ge, tlc_gt, tlc_le, w_if_ne, w_ild_1, w_goto, true_and, and_true, Nat.reduceAdd, Nat.reduceSub, eq_self, tshm_14, tshm_31, tshm_32, tykm_31, tykm_32, tykm_14, tci_14, tci_15, tci_960, tshm_667, tshm_668, tshm_669, tshm_670, tykm_33, tci_700]
        have hk6 : k ≤ 1000000 := by
          split at h1
          · split at h1
            · rename_i h2
              exact h2.2
            · exact absurd h1 (by simp)
          · split at h1
            · rename_i h2
              exact h2.2
            · exact absurd h1 (by simp)
        refine tc_l (D := 1) (fun d' hd' => c_parts (b := k) (by omega) p3 (by omega) hd') (by omega) ?_
        rintro z2 M4 ⟨-, p5, p6⟩
        try simp only [kb_X12_odds_27, w_ald_0, w_gf_14_1, tw_f, w_bi, w_ia, w_iax, w_if_le, w_lld_2, w_lmul, w_iv2, tfr_0, tfr_1, tfr_2, tfr_3, tfr_4, w_lst5, tkl_n, tkl_i, tkl_l, tkl_r, w_lld7, w_ild4, w_if_eq, w_ld2, w_lrem, w_lcmp, ne_eq, tlc_r, tlc_eq, tlc_lt, tlc_ge, tlc_gt, tlc_le, w_if_ne, w_ild_1, w_goto, true_and, and_true, Nat.reduceAdd, Nat.reduceSub, eq_self, tshm_14, tshm_31, tshm_32, tykm_31, tykm_32, tykm_14, tci_14, tci_15, tci_960, tshm_667, tshm_668, tshm_669, tshm_670, tykm_33, tci_700]
        have p7 : Vr M4 7 (t / (q * q)) := Vr_E (Vr_E p1 p4 (by omega)) p6 (by omega)
        have p8 : Vr M4 row acc := Vr_E (Vr_E (Vr_E q2 p2 (by omega)) p4 (by omega)) p6 (by omega)
        have p9 : rE (rOd row) M M4 := rE_tr q3 (rE_tr (rE_mono p2 (fun r hr => by unfold rOd; omega)) (rE_tr (rE_mono p4 (fun r hr => by unfold rOd; omega)) (rE_mono p6 (fun r hr => by unfold rOd; omega))))
        have hpl : acc + t / (q * q) / k < 10000000000000000000000000000000000000000000000000000000000 → odf (q * q) alt f (t / (q * q)) (k + 2) (acc + t / (q * q) / k) = some v →
          tT e d 3670 94 [some (.inr (.inr (.inl 664))), some (.inl row), some (.inr (.inl (q : Int))), none, some (.inl (if alt = true then 1 else 0)), some (.inr (.inl z2)), none, some (.inr (.inl (k : Int))), none] [] M4 n (tQn n (fun M' => Vr M' row v ∧ rE (rOd row) M M')) := by
          intro hb ho
          refine tb_X12_odds_94 (c := false) ?_
          simp only [kb_X12_odds_94, w_ald_0, w_ild_1, w_bi, w_iv2, tfr_0, tfr_1, tfr_2, tfr_3, tfr_4, w_nil, true_and, and_true, Nat.reduceAdd, Nat.reduceSub, eq_self, tshm_14, tshm_31, tshm_32, tykm_31, tykm_32, tykm_14, tci_14, tci_15, tci_960, tshm_667, tshm_668, tshm_669, tshm_670, tykm_33, tci_700]
          refine tc_n (D := 1) (fun d' hd' => c_plus hr (by omega) (by omega) p8 p5 (by omega) hd') (by omega) ?_
          rintro M5 ⟨s1, s2⟩
          try simp only [kb_X12_odds_94, w_ald_0, w_ild_1, w_bi, w_iv2, tfr_0, tfr_1, tfr_2, tfr_3, tfr_4, w_nil, true_and, and_true, Nat.reduceAdd, Nat.reduceSub, eq_self, tshm_14, tshm_31, tshm_32, tykm_31, tykm_32, tykm_14, tci_14, tci_15, tci_960, tshm_667, tshm_668, tshm_669, tshm_670, tykm_33, tci_700]
          refine tb_X12_odds_101 (c := false) ?_
          simp only [kb_X12_odds_101, w_lld7, w_ld2, w_ladd, tw_f, w_lst7, tkl_n, tkl_i, tkl_l, tkl_r, w_goto, true_and, and_true, Nat.reduceAdd, Nat.reduceSub, eq_self]
          exact ih _ (k + 2) _ M5 _ ho (by omega) (Vr_E p7 s2 (by omega)) s1 (rE_tr p9 (rE_mono s2 (fun r hr => by unfold rOd; omega)))
        have t4 : ((k : Int)).tmod 4 = ((k % 4 : Nat) : Int) := tmod_n
        cases alt with
        | false =>
          refine ⟨by decide, fun _ => ?_, fun h => absurd rfl h⟩
          rw [if_neg (fun h => absurd h.1 (by decide))] at h1
          split at h1
          · rename_i h2
            exact hpl h2.1 h1
          · exact absurd h1 (by simp)
        | true =>
          refine ⟨by decide, fun h => absurd h (by decide), fun _ => ?_⟩
          rw [t4]
          refine ⟨by omega, by omega, fun h => ?_, fun h => ?_⟩
          · rw [if_neg (by omega)] at h1
            split at h1
            · rename_i h2
              exact hpl h2.1 h1
            · exact absurd h1 (by simp)
          · rw [if_pos ⟨rfl, by omega⟩] at h1
            split at h1
            · rename_i h2
              refine tc_n (D := 1) (fun d' hd' => c_less hr (by omega) (by omega) p8 p5 h2.1 hd') (by omega) ?_
              rintro M5 ⟨s1, s2⟩
              try simp only [kb_X12_odds_27, w_ald_0, w_gf_14_1, tw_f, w_bi, w_ia, w_iax, w_if_le, w_lld_2, w_lmul, w_iv2, tfr_0, tfr_1, tfr_2, tfr_3, tfr_4, w_lst5, tkl_n, tkl_i, tkl_l, tkl_r, w_lld7, w_ild4, w_if_eq, w_ld2, w_lrem, w_lcmp, ne_eq, tlc_r, tlc_eq, tlc_lt, tlc_ge, tlc_gt, tlc_le, w_if_ne, w_ild_1, w_goto, true_and, and_true, Nat.reduceAdd, Nat.reduceSub, eq_self, tshm_14, tshm_31, tshm_32, tykm_31, tykm_32, tykm_14, tci_14, tci_15, tci_960, tshm_667, tshm_668, tshm_669, tshm_670, tykm_33, tci_700]
              refine tb_X12_odds_101 (c := false) ?_
              simp only [kb_X12_odds_101, w_lld7, w_ld2, w_ladd, tw_f, w_lst7, tkl_n, tkl_i, tkl_l, tkl_r, w_goto, true_and, and_true, Nat.reduceAdd, Nat.reduceSub, eq_self]
              exact ih _ (k + 2) _ M5 _ h1 (by omega) (Vr_E p7 s2 (by omega)) s1 (rE_tr p9 (rE_mono s2 (fun r hr => by unfold rOd; omega)))
            · exact absurd h1 (by simp)
  refine tst_X12_odds ?_
  refine tb_X12_odds_0 (c := false) ?_
  simp only [kb_X12_odds_0, w_ald_0, w_bi, w_iv1, tfr_0, tfr_1, tfr_2, tfr_3, tfr_4, w_lld_2, w_iv2, w_lst5, tkl_n, tkl_i, tkl_l, tkl_r, w_ild_1, w_ld2, w_lst7, w_nil, true_and, and_true, Nat.reduceAdd, Nat.reduceSub, eq_self, tshm_14, tshm_31, tshm_32, tykm_31, tykm_32, tykm_14, tci_14, tci_15, tci_960, tshm_667, tshm_668, tshm_669, tshm_670, tykm_33, tci_700]
  refine tc_n (D := 2) (fun d' hd' => c_unit (by omega) hd') (by omega) ?_
  rintro M1 ⟨p1, p2⟩
  try simp only [kb_X12_odds_0, w_ald_0, w_bi, w_iv1, tfr_0, tfr_1, tfr_2, tfr_3, tfr_4, w_lld_2, w_iv2, w_lst5, tkl_n, tkl_i, tkl_l, tkl_r, w_ild_1, w_ld2, w_lst7, w_nil, true_and, and_true, Nat.reduceAdd, Nat.reduceSub, eq_self, tshm_14, tshm_31, tshm_32, tykm_31, tykm_32, tykm_14, tci_14, tci_15, tci_960, tshm_667, tshm_668, tshm_669, tshm_670, tykm_33, tci_700]
  refine tc_l (D := 1) (fun d' hd' => c_parts (b := q) (by omega) p1 (by omega) hd') (by omega) ?_
  rintro z2 M2 ⟨-, p3, p4⟩
  try simp only [kb_X12_odds_0, w_ald_0, w_bi, w_iv1, tfr_0, tfr_1, tfr_2, tfr_3, tfr_4, w_lld_2, w_iv2, w_lst5, tkl_n, tkl_i, tkl_l, tkl_r, w_ild_1, w_ld2, w_lst7, w_nil, true_and, and_true, Nat.reduceAdd, Nat.reduceSub, eq_self, tshm_14, tshm_31, tshm_32, tykm_31, tykm_32, tykm_14, tci_14, tci_15, tci_960, tshm_667, tshm_668, tshm_669, tshm_670, tykm_33, tci_700]
  refine tc_n (D := 1) (fun d' hd' => c_copies (a := 7) (b := row) (x := U6 / q) (by omega) (by omega) (by omega) p3 hd') (by omega) ?_
  rintro M3 ⟨p5, p6⟩
  try simp only [kb_X12_odds_0, w_ald_0, w_bi, w_iv1, tfr_0, tfr_1, tfr_2, tfr_3, tfr_4, w_lld_2, w_iv2, w_lst5, tkl_n, tkl_i, tkl_l, tkl_r, w_ild_1, w_ld2, w_lst7, w_nil, true_and, and_true, Nat.reduceAdd, Nat.reduceSub, eq_self, tshm_14, tshm_31, tshm_32, tykm_31, tykm_32, tykm_14, tci_14, tci_15, tci_960, tshm_667, tshm_668, tshm_669, tshm_670, tykm_33, tci_700]
  exact hl f _ 3 _ M3 _ hv (by omega) (Vr_E p3 p6 (by omega)) p5 (rE_tr (rE_mono p2 (fun r hr => by unfold rOd; omega)) (rE_tr (rE_mono p4 (fun r hr => by unfold rOd; omega)) (rE_mono p6 (fun r hr => by unfold rOd; omega))))
theorem pi5 : odf (5 * 5) true 60 (1000000000000000000000000000000000000000000000000000000 / 5) 3 (1000000000000000000000000000000000000000000000000000000 / 5) = some 197395559849880758370049765194790293447585103787852103 := by decide +kernel
theorem pi239 : odf (239 * 239) true 60 (1000000000000000000000000000000000000000000000000000000 / 239) 3 (1000000000000000000000000000000000000000000000000000000 / 239) = some 4184076002074723864538214959285452741048065307631951 := by decide +kernel
theorem log3 : odf (3 * 3) false 60 (1000000000000000000000000000000000000000000000000000000 / 3) 3 (1000000000000000000000000000000000000000000000000000000 / 3) = some 346573590279972654708616060729088284037750067180127601 := by decide +kernel
theorem b60 {x : Nat} (h : x < 10000000000000000000000000000000000000000000000000000000000) : x < pw 62 := by
  have := pw_60b
  have := pw_lt (show 60 < 62 by omega)
  omega
/-- What the constants leave of other rows. -/
def rKc (S : Int → Prop) (M M' : tM) : Prop := (∀ (k : Nat) (i : Int), k ≠ 665 → k ≠ 666 → ¬ (k = 664 ∧ (i = 4 ∨ i = 5 ∨ i = 12 ∨ i = 13 ∨ i = 14)) → M' k i = M k i) ∧ (∀ r : Int, ¬ S r → M' 666 r = M 666 r) ∧ (∀ r j : Int, ¬ S r → 0 ≤ j → j < 64 → M' 665 (64 * r + j) = M 665 (64 * r + j))
theorem rKc_refl {S : Int → Prop} {M : tM} : rKc S M M := ⟨fun _ _ _ _ _ => rfl, fun _ _ => rfl, fun _ _ _ _ _ => rfl⟩
theorem rKc_tr {S : Int → Prop} {M M1 M2 : tM} (h1 : rKc S M M1) (h2 : rKc S M1 M2) : rKc S M M2 :=
  ⟨fun k i a b c => (h2.1 k i a b c).trans (h1.1 k i a b c), fun r a => (h2.2.1 r a).trans (h1.2.1 r a), fun r j a b c => (h2.2.2 r j a b c).trans (h1.2.2 r j a b c)⟩
theorem rKc_mono {S S' : Int → Prop} {M M' : tM} (h : rKc S M M') (hs : ∀ r, S r → S' r) : rKc S' M M' :=
  ⟨h.1, fun r a => h.2.1 r (fun q => a (hs r q)), fun r j a => h.2.2 r j (fun q => a (hs r q))⟩
theorem rKc_U {S : Int → Prop} {M M' : tM} (h : rU S M M') : rKc S M M' := ⟨fun k i a b c => h.1 k i a b (fun q => c ⟨q.1, by omega⟩), h.2.1, h.2.2⟩
theorem rKc_f {S : Int → Prop} {M : tM} {i v : Int} (hi : i = 12 ∨ i = 13 ∨ i = 14) : rKc S M (tU M 664 i v) :=
  ⟨fun k j _ _ c => by
    by_cases h : k = 664
    · subst h
      exact tU_ni (fun q => c ⟨rfl, by omega⟩)
    · exact tU_nk h, fun r _ => tU_nk (by decide), fun r j _ _ _ => tU_nk (by decide)⟩
theorem Vr_K {S : Int → Prop} {M M' : tM} {r : Int} {x : Nat} (h : Vr M r x) (he : rKc S M M') (hs : ¬ S r) : Vr M' r x := by
  obtain ⟨m, ⟨h1, h2, h3, h4⟩, h5⟩ := h
  exact ⟨m, ⟨(he.2.1 r hs).trans h1, h2, h3, fun i hi => (he.2.2 r i hs (by omega) (by omega)).trans (h4 i hi)⟩, h5⟩
/-- Rows of S, the bound and the constants' rows change; the constants stay good. -/
def qE (S : Int → Prop) (M M' : tM) : Prop := rKc (fun r => S r ∨ r = 11 ∨ r = 12 ∨ r = 13) M M' ∧ (KI M → KI M') ∧ (M 664 12 = 1 → M' 664 12 = 1) ∧ (M 664 13 = 1 → M' 664 13 = 1) ∧ (M 664 14 = 1 → M' 664 14 = 1)
theorem qE_refl {S : Int → Prop} {M : tM} : qE S M M := ⟨rKc_refl, id, id, id, id⟩
theorem qE_tr {S : Int → Prop} {M M1 M2 : tM} (h1 : qE S M M1) (h2 : qE S M1 M2) : qE S M M2 :=
  ⟨rKc_tr h1.1 h2.1, fun q => h2.2.1 (h1.2.1 q), fun q => h2.2.2.1 (h1.2.2.1 q), fun q => h2.2.2.2.1 (h1.2.2.2.1 q), fun q => h2.2.2.2.2 (h1.2.2.2.2 q)⟩
theorem qE_mono {S S' : Int → Prop} {M M' : tM} (h : qE S M M') (hs : ∀ r, S r → S' r) : qE S' M M' :=
  ⟨rKc_mono h.1 (fun r q => q.elim (fun a => Or.inl (hs r a)) Or.inr), h.2⟩
theorem KI_K {S : Int → Prop} {M M' : tM} (he : rKc S M M') (h1 : ¬ S 11) (h2 : ¬ S 12) (h3 : ¬ S 13) (f1 : M' 664 12 = M 664 12) (f2 : M' 664 13 = M 664 13) (f3 : M' 664 14 = M 664 14) (h : KI M) : KI M' := by
  obtain ⟨k1, k4, k5, k6⟩ := h
  refine ⟨?_, fun q => Vr_K (k4 (f1.symm.trans q)) he h1, fun q => Vr_K (k5 (f2.symm.trans q)) he h2, fun q => Vr_K (k6 (f3.symm.trans q)) he h3⟩
  rw [f1, f2, f3]
  exact k1
theorem qE_U {S : Int → Prop} {M M' : tM} (h : rU S M M') (h1 : ¬ S 11) (h2 : ¬ S 12) (h3 : ¬ S 13) : qE S M M' := by
  have f1 : M' 664 12 = M 664 12 := h.1 664 12 (by decide) (by decide) (by decide)
  have f2 : M' 664 13 = M 664 13 := h.1 664 13 (by decide) (by decide) (by decide)
  have f3 : M' 664 14 = M 664 14 := h.1 664 14 (by decide) (by decide) (by decide)
  exact ⟨rKc_mono (rKc_U h) (fun r q => Or.inl q), KI_K (rKc_U h) h1 h2 h3 f1 f2 f3, fun q => f1.trans q, fun q => f2.trans q, fun q => f3.trans q⟩
theorem qE_r {S : Int → Prop} {M M' : tM} (h : rE S M M') (h1 : ¬ S 11) (h2 : ¬ S 12) (h3 : ¬ S 13) : qE S M M' := qE_U (rU_r h) h1 h2 h3
theorem Vr_Q {S : Int → Prop} {M M' : tM} {r : Int} {x : Nat} (h : Vr M r x) (he : qE S M M') (hs : ¬ (S r ∨ r = 11 ∨ r = 12 ∨ r = 13)) : Vr M' r x := Vr_K h he.1 hs
theorem qE_d {S : Int → Prop} {M M' : tM} (h : qE S M M') : M' 664 2 = M 664 2 := h.1.1 664 2 (by decide) (by decide) (by decide)
theorem qE_yE {S T : Int → Prop} {M M' : tM} (h : qE S M M') : yE T M M' := by
  refine ⟨fun k i a b c _ => h.1.1 k i a b (fun q => c ⟨q.1, by omega⟩), h.2.1, fun hB b h0 h7 => ?_⟩
  have := hB b h0 h7
  unfold bcan at this ⊢
  rw [h.1.1 667 b (by decide) (by decide) (by omega), h.1.1 668 b (by decide) (by decide) (by omega), h.1.1 669 b (by decide) (by decide) (by omega), h.1.1 670 b (by decide) (by decide) (by omega)]
  exact this
theorem qE_xE {S T : Int → Prop} {M M' : tM} (h : qE S M M') : xE T M M' := ⟨qE_yE h, h.1.1 664 11 (by decide) (by decide) (by decide)⟩
theorem c_odds1 {row : Int} {q v : Nat} (hr : 0 ≤ row ∧ row < 15) (hr6 : row ≠ 6 ∧ row ≠ 7) (hq : 0 < q ∧ q ≤ 30000) {f : Nat} (hv : odf (q * q) true f (1000000000000000000000000000000000000000000000000000000 / q) 3 (1000000000000000000000000000000000000000000000000000000 / q) = some v) (hd : 3 ≤ d) :
    tC e d 3670 [.inr (.inr (.inl 664)), .inl row, .inr (.inl (q : Int)), .inl 1] M n (tQn n (fun M' => Vr M' row v ∧ rE (rOd row) M M')) := c_odds (alt := true) hr hr6 hq hv hd
theorem c_odds0 {row : Int} {q v : Nat} (hr : 0 ≤ row ∧ row < 15) (hr6 : row ≠ 6 ∧ row ≠ 7) (hq : 0 < q ∧ q ≤ 30000) {f : Nat} (hv : odf (q * q) false f (1000000000000000000000000000000000000000000000000000000 / q) 3 (1000000000000000000000000000000000000000000000000000000 / q) = some v) (hd : 3 ≤ d) :
    tC e d 3670 [.inr (.inr (.inl 664)), .inl row, .inr (.inl (q : Int)), .inl 0] M n (tQn n (fun M' => Vr M' row v ∧ rE (rOd row) M M')) := c_odds (alt := false) hr hr6 hq hv hd
def rPi : Int → Prop := fun r => r = 6 ∨ r = 7 ∨ r = 8
theorem c_needsPi (hK : KI M) (hd : 4 ≤ d) : tC e d 3663 [.inr (.inr (.inl 664))] M n (tQn n (fun M' => M' 664 12 = 1 ∧ Vr M' 11 PIc ∧ qE rPi M M')) := by
  have hK0 := hK
  obtain ⟨⟨k1, k2, k3⟩, k4, k5, k6⟩ := hK
  refine tst_X12_needsPi ?_
  refine tb_X12_needsPi_0 (c := false) ?_
  simp only [kb_X12_needsPi_0, w_ald_0, w_gf_14_12, tw_f, w_if_eq, w_re, true_and, and_true, Nat.reduceAdd, Nat.reduceSub, eq_self, tshm_14, tshm_31, tshm_32, tykm_31, tykm_32, tykm_14, tci_14, tci_15, tci_960, tshm_667, tshm_668, tshm_669, tshm_670, tykm_33, tci_700]
  refine ⟨by omega, fun h => ?_, fun h => ⟨rfl, rfl, by omega, k4 (by omega), qE_refl⟩⟩
  refine tb_X12_needsPi_8 (c := false) ?_
  simp only [kb_X12_needsPi_8, w_ald_0, w_ic, w_pf_14_12, w_bi, w_ld2, w_iv3, tfr_0, tfr_1, tfr_2, tfr_3, tfr_4, w_iv2, w_re, true_and, and_true, Nat.reduceAdd, Nat.reduceSub, eq_self, tshm_14, tshm_31, tshm_32, tykm_31, tykm_32, tykm_14, tci_14, tci_15, tci_960, tshm_667, tshm_668, tshm_669, tshm_670, tykm_33, tci_700]
  refine ⟨by omega, ?_⟩
  have a0 : rKc (fun _ => False) M (tU M 664 12 1) := rKc_f (Or.inl rfl)
  refine tc_n (D := 3) (fun d' hd' => c_odds1 (row := 11) (q := 5) (by omega) (by omega) (by omega) pi5 hd') (by omega) ?_
  rintro M1 ⟨p1, a1⟩
  try simp only [kb_X12_needsPi_8, w_ald_0, w_ic, w_pf_14_12, w_bi, w_ld2, w_iv3, tfr_0, tfr_1, tfr_2, tfr_3, tfr_4, w_iv2, w_re, true_and, and_true, Nat.reduceAdd, Nat.reduceSub, eq_self, tshm_14, tshm_31, tshm_32, tykm_31, tykm_32, tykm_14, tci_14, tci_15, tci_960, tshm_667, tshm_668, tshm_669, tshm_670, tykm_33, tci_700]
  refine tc_n (D := 1) (fun d' hd' => c_scales (b := 16) (by omega) p1 (by omega) (b60 (by decide)) hd') (by omega) ?_
  rintro M2 ⟨p2, a2⟩
  try simp only [kb_X12_needsPi_8, w_ald_0, w_ic, w_pf_14_12, w_bi, w_ld2, w_iv3, tfr_0, tfr_1, tfr_2, tfr_3, tfr_4, w_iv2, w_re, true_and, and_true, Nat.reduceAdd, Nat.reduceSub, eq_self, tshm_14, tshm_31, tshm_32, tykm_31, tykm_32, tykm_14, tci_14, tci_15, tci_960, tshm_667, tshm_668, tshm_669, tshm_670, tykm_33, tci_700]
  refine tc_n (D := 3) (fun d' hd' => c_odds1 (row := 8) (q := 239) (by omega) (by omega) (by omega) pi239 hd') (by omega) ?_
  rintro M3 ⟨p3, a3⟩
  try simp only [kb_X12_needsPi_8, w_ald_0, w_ic, w_pf_14_12, w_bi, w_ld2, w_iv3, tfr_0, tfr_1, tfr_2, tfr_3, tfr_4, w_iv2, w_re, true_and, and_true, Nat.reduceAdd, Nat.reduceSub, eq_self, tshm_14, tshm_31, tshm_32, tykm_31, tykm_32, tykm_14, tci_14, tci_15, tci_960, tshm_667, tshm_668, tshm_669, tshm_670, tykm_33, tci_700]
  refine tc_n (D := 1) (fun d' hd' => c_scales (b := 4) (by omega) p3 (by omega) (b60 (by decide)) hd') (by omega) ?_
  rintro M4 ⟨p4, a4⟩
  try simp only [kb_X12_needsPi_8, w_ald_0, w_ic, w_pf_14_12, w_bi, w_ld2, w_iv3, tfr_0, tfr_1, tfr_2, tfr_3, tfr_4, w_iv2, w_re, true_and, and_true, Nat.reduceAdd, Nat.reduceSub, eq_self, tshm_14, tshm_31, tshm_32, tykm_31, tykm_32, tykm_14, tci_14, tci_15, tci_960, tshm_667, tshm_668, tshm_669, tshm_670, tykm_33, tci_700]
  refine tc_n (D := 1) (fun d' hd' => c_less (by omega) (by omega) (by omega) (Vr_E (Vr_E p2 a3 (by unfold rOd; omega)) a4 (by omega)) p4 (by decide) hd') (by omega) ?_
  rintro M5 ⟨p5, a5⟩
  try simp only [kb_X12_needsPi_8, w_ald_0, w_ic, w_pf_14_12, w_bi, w_ld2, w_iv3, tfr_0, tfr_1, tfr_2, tfr_3, tfr_4, w_iv2, w_re, true_and, and_true, Nat.reduceAdd, Nat.reduceSub, eq_self, tshm_14, tshm_31, tshm_32, tykm_31, tykm_32, tykm_14, tci_14, tci_15, tci_960, tshm_667, tshm_668, tshm_669, tshm_670, tykm_33, tci_700]
  have w : rE (fun r => rPi r ∨ r = 11) (tU M 664 12 1) M5 := rE_tr (rE_mono a1 (fun r hr => by unfold rOd at hr; unfold rPi; omega)) (rE_tr (rE_mono a2 (fun r hr => by omega)) (rE_tr (rE_mono a3 (fun r hr => by unfold rOd at hr; unfold rPi; omega)) (rE_tr (rE_mono a4 (fun r hr => by unfold rPi; omega)) (rE_mono a5 (fun r hr => by omega)))))
  have f12 : M5 664 12 = 1 := (w.1 664 12 (by decide) (by decide)).trans (tU_eq ..)
  have f13 : M5 664 13 = M 664 13 := (w.1 664 13 (by decide) (by decide)).trans (tU_ni (by decide))
  have f14 : M5 664 14 = M 664 14 := (w.1 664 14 (by decide) (by decide)).trans (tU_ni (by decide))
  have w2 : rKc (fun r => rPi r ∨ r = 11) M M5 := rKc_tr (rKc_mono a0 (fun r hr => hr.elim)) (rKc_U (rU_r w))
  refine ⟨rfl, rfl, f12, p5, rKc_mono w2 (fun r hr => hr.elim Or.inl (fun q => Or.inr (Or.inl q))), fun _ => ⟨by omega, fun _ => p5, fun q => ?_, fun q => ?_⟩, fun _ => f12, fun q => f13.trans q, fun q => f14.trans q⟩
  · exact Vr_K (k5 (by omega)) w2 (by unfold rPi; omega)
  · exact Vr_K (k6 (by omega)) w2 (by unfold rPi; omega)
theorem c_needsLog (hK : KI M) (hd : 4 ≤ d) : tC e d 3662 [.inr (.inr (.inl 664))] M n (tQn n (fun M' => M' 664 13 = 1 ∧ Vr M' 12 LGc ∧ qE rPi M M')) := by
  have hK0 := hK
  obtain ⟨⟨k1, k2, k3⟩, k4, k5, k6⟩ := hK
  refine tst_X12_needsLog ?_
  refine tb_X12_needsLog_0 (c := false) ?_
  simp only [kb_X12_needsLog_0, w_ald_0, w_gf_14_13, tw_f, w_if_eq, w_re, true_and, and_true, Nat.reduceAdd, Nat.reduceSub, eq_self, tshm_14, tshm_31, tshm_32, tykm_31, tykm_32, tykm_14, tci_14, tci_15, tci_960, tshm_667, tshm_668, tshm_669, tshm_670, tykm_33, tci_700]
  refine ⟨by omega, fun h => ?_, fun h => ⟨rfl, rfl, by omega, k5 (by omega), qE_refl⟩⟩
  refine tb_X12_needsLog_8 (c := false) ?_
  simp only [kb_X12_needsLog_8, w_ald_0, w_ic, w_pf_14_13, w_bi, w_ld2, w_iv3, tfr_0, tfr_1, tfr_2, tfr_3, tfr_4, w_iv2, w_re, true_and, and_true, Nat.reduceAdd, Nat.reduceSub, eq_self, tshm_14, tshm_31, tshm_32, tykm_31, tykm_32, tykm_14, tci_14, tci_15, tci_960, tshm_667, tshm_668, tshm_669, tshm_670, tykm_33, tci_700]
  refine ⟨by omega, ?_⟩
  have a0 : rKc (fun _ => False) M (tU M 664 13 1) := rKc_f (Or.inr (Or.inl rfl))
  refine tc_n (D := 3) (fun d' hd' => c_odds0 (row := 12) (q := 3) (by omega) (by omega) (by omega) log3 hd') (by omega) ?_
  rintro M1 ⟨p1, a1⟩
  try simp only [kb_X12_needsLog_8, w_ald_0, w_ic, w_pf_14_13, w_bi, w_ld2, w_iv3, tfr_0, tfr_1, tfr_2, tfr_3, tfr_4, w_iv2, w_re, true_and, and_true, Nat.reduceAdd, Nat.reduceSub, eq_self, tshm_14, tshm_31, tshm_32, tykm_31, tykm_32, tykm_14, tci_14, tci_15, tci_960, tshm_667, tshm_668, tshm_669, tshm_670, tykm_33, tci_700]
  refine tc_n (D := 1) (fun d' hd' => c_scales (b := 2) (by omega) p1 (by omega) (b60 (by decide)) hd') (by omega) ?_
  rintro M5 ⟨p5, a2⟩
  try simp only [kb_X12_needsLog_8, w_ald_0, w_ic, w_pf_14_13, w_bi, w_ld2, w_iv3, tfr_0, tfr_1, tfr_2, tfr_3, tfr_4, w_iv2, w_re, true_and, and_true, Nat.reduceAdd, Nat.reduceSub, eq_self, tshm_14, tshm_31, tshm_32, tykm_31, tykm_32, tykm_14, tci_14, tci_15, tci_960, tshm_667, tshm_668, tshm_669, tshm_670, tykm_33, tci_700]
  have w : rE (fun r => rPi r ∨ r = 12) (tU M 664 13 1) M5 := rE_tr (rE_mono a1 (fun r hr => by unfold rOd at hr; unfold rPi; omega)) (rE_mono a2 (fun r hr => by omega))
  have f12 : M5 664 12 = M 664 12 := (w.1 664 12 (by decide) (by decide)).trans (tU_ni (by decide))
  have f13 : M5 664 13 = 1 := (w.1 664 13 (by decide) (by decide)).trans (tU_eq ..)
  have f14 : M5 664 14 = M 664 14 := (w.1 664 14 (by decide) (by decide)).trans (tU_ni (by decide))
  have w2 : rKc (fun r => rPi r ∨ r = 12) M M5 := rKc_tr (rKc_mono a0 (fun r hr => hr.elim)) (rKc_U (rU_r w))
  refine ⟨rfl, rfl, f13, p5, rKc_mono w2 (fun r hr => hr.elim Or.inl (fun q => Or.inr (Or.inr (Or.inl q)))), fun _ => ⟨by omega, fun q => ?_, fun _ => p5, fun q => ?_⟩, fun q => f12.trans q, fun _ => f13, fun q => f14.trans q⟩
  · exact Vr_K (k4 (by omega)) w2 (by unfold rPi; omega)
  · exact Vr_K (k6 (by omega)) w2 (by unfold rPi; omega)
/-- The exponential series in steps. -/
noncomputable def serf (s : Nat) : Nat → Nat → Nat → Nat → Nat
  | 0, _, _, acc => acc
  | f + 1, t, k, acc => if t = 0 then acc else serf s f (t * s / U6 / k) (k + 1) (acc + t * s / U6 / k)
def serc (s : Nat) : Nat → Nat → Nat → Nat → Nat
  | 0, _, _, acc => acc
  | f + 1, t, k, acc => if t = 0 then acc else serc s f (t * s / 1000000000000000000000000000000000000000000000000000000 / k) (k + 1) (acc + t * s / 1000000000000000000000000000000000000000000000000000000 / k)
theorem serf_c (s f : Nat) : ∀ t k acc, serf s f t k acc = serc s f t k acc := by
  induction f with
  | zero => exact fun _ _ _ => rfl
  | succ f ih =>
    intro t k acc
    unfold serf serc
    rw [U6_def, ih]
noncomputable def serv (s : Nat) : Nat := serf s 60 U6 1 U6
theorem serv_U : serv U6 = BSc := by
  unfold serv
  rw [serf_c, U6_def]
  decide +kernel
theorem serf_ge (s f : Nat) : ∀ t k acc, acc ≤ serf s f t k acc := by
  induction f with
  | zero => exact fun _ _ _ => Nat.le_refl _
  | succ f ih =>
    intro t k acc
    unfold serf
    split
    · exact Nat.le_refl _
    · exact Nat.le_trans (Nat.le_add_right _ _) (ih _ _ _)
theorem serf_le {s s' : Nat} (h : s ≤ s') (f : Nat) : ∀ t t' k acc acc', t ≤ t' → acc ≤ acc' → serf s f t k acc ≤ serf s' f t' k acc' := by
  induction f with
  | zero => exact fun _ _ _ _ _ _ h => h
  | succ f ih =>
    intro t t' k acc acc' h1 h2
    by_cases h0 : t = 0
    · have : serf s (f + 1) t k acc = acc := by unfold serf; rw [if_pos h0]
      rw [this]
      exact Nat.le_trans h2 (serf_ge _ _ _ _ _)
    · unfold serf
      rw [if_neg h0, if_neg (by omega)]
      have hm : t * s / U6 / k ≤ t' * s' / U6 / k := Nat.div_le_div_right (Nat.div_le_div_right (Nat.mul_le_mul h1 h))
      exact ih _ _ _ _ _ hm (by omega)
theorem serv_le {s s' : Nat} (h : s ≤ s') : serv s ≤ serv s' := serf_le h 60 _ _ _ _ _ (Nat.le_refl _) (Nat.le_refl _)
end MODEL
