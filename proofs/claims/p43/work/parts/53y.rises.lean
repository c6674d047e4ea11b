/-! THE MODEL: rising functions of boxes. -/
noncomputable def fnb (c up : Int) (D : Nat) (z : Int) : Int := if c = 101 then exb up D z else if c = 108 then lgb up D z.toNat else atb up D z
theorem fnb_le {c : Int} {D : Nat} {a b : Int} (hD : D ≤ 10) (h : a ≤ b) (ha : -30000000000000000000000 ≤ a) (hb : b ≤ 30000000000000000000000) (hl : c = 108 → 0 < a) : fnb c 0 D a ≤ fnb c 1 D b := by
  have key : ∀ x y f g : Int, x * (U4 : Int) ≤ f → f ≤ g → g ≤ y * (U4 : Int) → x ≤ y := by
    intro x y f g h1 h2 h3
    have hu := U4_pos
    exact Int.le_of_mul_le_mul_right (Int.le_trans h1 (Int.le_trans h2 h3)) (by omega)
  unfold fnb
  by_cases h1 : c = 101
  · rw [if_pos h1, if_pos h1]
    exact key _ _ _ _ (exb_in hD).1 (exF_le h) (exb_in hD).2
  · rw [if_neg h1, if_neg h1]
    by_cases h2 : c = 108
    · rw [if_pos h2, if_pos h2]
      have := hl h2
      exact key _ _ _ _ (lgb_in hD (by omega)).1 (lgF_le (by omega) (by omega) (by omega)) (lgb_in hD (by omega)).2
    · rw [if_neg h2, if_neg h2]
      exact key _ _ _ _ (atb_in hD).1 (atG_le h ha hb) (atb_in hD).2
section MODEL
variable {e : tE} {d n : Nat} {M : tM}
theorem c_rises {c u l up : Int} {D : Nat} (hK : KI M) (hdg : M 664 2 = (D : Int)) (hD : D ≤ 10) (hc : 0 ≤ c ∧ c < 65536) (hl : 0 ≤ l ∧ l < 1000000000) (hz : -30000000000000000000000 ≤ u * 1000000000 + l ∧ u * 1000000000 + l ≤ 30000000000000000000000) (hp : c = 108 → 0 < u * 1000000000 + l) (hup : up = 0 ∨ up = 1) (hd : 6 ≤ d) :
    tC e d 3692 [.inr (.inr (.inl 664)), .inl c, .inr (.inl u), .inr (.inl l), .inl up] M n (tQi n (fun zz M' => (zz = 1 ∧ zb M' = fnb c up D (u * 1000000000 + l) ∧ (-10000000000000000000000 < fnb c up D (u * 1000000000 + l) ∧ fnb c up D (u * 1000000000 + l) < 10000000000000000000000) ∧ cb M' ∨ zz = 0) ∧ qE rEx M M')) := by
  refine tst_X12_rises ?_
  by_cases h1 : c = 101
  · have e1 : fnb c up D (u * 1000000000 + l) = exb up D (u * 1000000000 + l) := if_pos h1
    rw [e1]
    refine tb_X12_rises_0 (c := false) ?_
    simp only [kb_X12_rises_0, w_ild_1, w_bi, w_ic_ne, w_ald_0, w_lld_2, w_lld4, w_ild6, w_iv3, tfr_0, tfr_1, tfr_2, tfr_3, tfr_4, w_goto, true_and, and_true, Nat.reduceAdd, Nat.reduceSub, eq_self, tshm_14, tshm_31, tshm_32, tykm_31, tykm_32, tykm_14, tci_14, tci_15, tci_960, tshm_667, tshm_668, tshm_669, tshm_670, tykm_33, tci_700]
    refine ⟨by omega, fun h => by omega, fun _ => ?_⟩
    refine tc_i (D := 5) (fun d' hd' => c_raises hK hdg hD hl hz hup hd') (by omega) ?_
    rintro zz M1 ⟨s1, s2⟩
    try simp only [kb_X12_rises_0, w_ild_1, w_bi, w_ic_ne, w_ald_0, w_lld_2, w_lld4, w_ild6, w_iv3, tfr_0, tfr_1, tfr_2, tfr_3, tfr_4, w_goto, true_and, and_true, Nat.reduceAdd, Nat.reduceSub, eq_self, tshm_14, tshm_31, tshm_32, tykm_31, tykm_32, tykm_14, tci_14, tci_15, tci_960, tshm_667, tshm_668, tshm_669, tshm_670, tykm_33, tci_700]
    refine tb_X12_rises_45 (c := false) ?_
    simp only [kb_X12_rises_45, w_ire, trg, true_and, and_true, Nat.reduceAdd, Nat.reduceSub, eq_self]
    exact ⟨by omega, _, rfl, rfl, s1, s2⟩
  · by_cases h2 : c = 108
    · have e1 : fnb c up D (u * 1000000000 + l) = lgb up D (u * 1000000000 + l).toNat := by
        unfold fnb
        rw [if_neg h1, if_pos h2]
      rw [e1]
      have := hp h2
      refine tb_X12_rises_0 (c := false) ?_
      simp only [kb_X12_rises_0, w_ild_1, w_bi, w_ic_ne, w_ald_0, w_lld_2, w_lld4, w_ild6, w_iv3, tfr_0, tfr_1, tfr_2, tfr_3, tfr_4, w_goto, true_and, and_true, Nat.reduceAdd, Nat.reduceSub, eq_self, tshm_14, tshm_31, tshm_32, tykm_31, tykm_32, tykm_14, tci_14, tci_15, tci_960, tshm_667, tshm_668, tshm_669, tshm_670, tykm_33, tci_700]
      refine ⟨by omega, fun _ => ?_, fun h => by omega⟩
      refine tb_X12_rises_18 (c := false) ?_
      simp only [kb_X12_rises_18, w_ild_1, w_bi, w_ic_ne, w_ald_0, w_lld_2, w_lld4, w_ild6, w_iv3, tfr_0, tfr_1, tfr_2, tfr_3, tfr_4, w_goto, true_and, and_true, Nat.reduceAdd, Nat.reduceSub, eq_self, tshm_14, tshm_31, tshm_32, tykm_31, tykm_32, tykm_14, tci_14, tci_15, tci_960, tshm_667, tshm_668, tshm_669, tshm_670, tykm_33, tci_700]
      refine ⟨by omega, fun h => by omega, fun _ => ?_⟩
      refine tc_i (D := 5) (fun d' hd' => c_logs (z := (u * 1000000000 + l).toNat) hK hdg hD hl (by omega) (by omega) hup hd') (by omega) ?_
      rintro zz M1 ⟨s1, s2⟩
      try simp only [kb_X12_rises_18, w_ild_1, w_bi, w_ic_ne, w_ald_0, w_lld_2, w_lld4, w_ild6, w_iv3, tfr_0, tfr_1, tfr_2, tfr_3, tfr_4, w_goto, true_and, and_true, Nat.reduceAdd, Nat.reduceSub, eq_self, tshm_14, tshm_31, tshm_32, tykm_31, tykm_32, tykm_14, tci_14, tci_15, tci_960, tshm_667, tshm_668, tshm_669, tshm_670, tykm_33, tci_700]
      refine tb_X12_rises_45 (c := false) ?_
      simp only [kb_X12_rises_45, w_ire, trg, true_and, and_true, Nat.reduceAdd, Nat.reduceSub, eq_self]
      exact ⟨by omega, _, rfl, rfl, s1, s2⟩
    · have e1 : fnb c up D (u * 1000000000 + l) = atb up D (u * 1000000000 + l) := by
        unfold fnb
        rw [if_neg h1, if_neg h2]
      rw [e1]
      refine tb_X12_rises_0 (c := false) ?_
      simp only [kb_X12_rises_0, w_ild_1, w_bi, w_ic_ne, w_ald_0, w_lld_2, w_lld4, w_ild6, w_iv3, tfr_0, tfr_1, tfr_2, tfr_3, tfr_4, w_goto, true_and, and_true, Nat.reduceAdd, Nat.reduceSub, eq_self, tshm_14, tshm_31, tshm_32, tykm_31, tykm_32, tykm_14, tci_14, tci_15, tci_960, tshm_667, tshm_668, tshm_669, tshm_670, tykm_33, tci_700]
      refine ⟨by omega, fun _ => ?_, fun h => by omega⟩
      refine tb_X12_rises_18 (c := false) ?_
      simp only [kb_X12_rises_18, w_ild_1, w_bi, w_ic_ne, w_ald_0, w_lld_2, w_lld4, w_ild6, w_iv3, tfr_0, tfr_1, tfr_2, tfr_3, tfr_4, w_goto, true_and, and_true, Nat.reduceAdd, Nat.reduceSub, eq_self, tshm_14, tshm_31, tshm_32, tykm_31, tykm_32, tykm_14, tci_14, tci_15, tci_960, tshm_667, tshm_668, tshm_669, tshm_670, tykm_33, tci_700]
      refine ⟨by omega, fun _ => ?_, fun h => by omega⟩
      refine tb_X12_rises_36 (c := false) ?_
      simp only [kb_X12_rises_36, w_ald_0, w_lld_2, w_lld4, w_ild6, w_iv3, tfr_0, tfr_1, tfr_2, tfr_3, tfr_4, w_nil, true_and, and_true, Nat.reduceAdd, Nat.reduceSub, eq_self, tshm_14, tshm_31, tshm_32, tykm_31, tykm_32, tykm_14, tci_14, tci_15, tci_960, tshm_667, tshm_668, tshm_669, tshm_670, tykm_33, tci_700]
      refine tc_i (D := 5) (fun d' hd' => c_arcs hK hdg hD hl hz hup hd') (by omega) ?_
      rintro zz M1 ⟨s1, s2⟩
      try simp only [kb_X12_rises_36, w_ald_0, w_lld_2, w_lld4, w_ild6, w_iv3, tfr_0, tfr_1, tfr_2, tfr_3, tfr_4, w_nil, true_and, and_true, Nat.reduceAdd, Nat.reduceSub, eq_self, tshm_14, tshm_31, tshm_32, tykm_31, tykm_32, tykm_14, tci_14, tci_15, tci_960, tshm_667, tshm_668, tshm_669, tshm_670, tykm_33, tci_700]
      refine tb_X12_rises_45 (c := false) ?_
      simp only [kb_X12_rises_45, w_ire, trg, true_and, and_true, Nat.reduceAdd, Nat.reduceSub, eq_self]
      exact ⟨by omega, _, rfl, rfl, s1, s2⟩
end MODEL
