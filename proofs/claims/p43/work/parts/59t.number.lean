/-! THE MODEL: formulas read. -/

def sg (M : tM) : Int := if M 664 34 < M 664 17 then M 672 (M 664 34) else 32
/-- between steps of reading: the text, the place, how many parts there are, the parts -/
def DI (M : tM) : Prop := TX M ∧ (0 ≤ M 664 34 ∧ M 664 34 ≤ M 664 17) ∧ (0 ≤ M 686 4 ∧ M 686 4 ≤ M 664 34) ∧ (-1 ≤ M 664 36 ∧ M 664 36 ≤ 60) ∧ ∀ j : Int, 256 ≤ j → j < 256 + M 686 4 → FN M 256 j
def dE (M M' : tM) : Prop := ∀ (k : Nat) (i : Int), ¬ (k = 664 ∧ (i = 34 ∨ i = 35 ∨ i = 36)) → ¬ (k = 686 ∧ i = 4) → ¬ ((680 ≤ k ∧ k ≤ 684) ∧ 256 ≤ i) → M' k i = M k i
theorem dE_refl {M : tM} : dE M M := fun _ _ _ _ _ => rfl
theorem dE_tr {M M1 M2 : tM} (h1 : dE M M1) (h2 : dE M1 M2) : dE M M2 := fun k i a b c => (h2 k i a b c).trans (h1 k i a b c)
theorem dE_U {M : tM} {c : Nat} {j v : Int} (h : (c = 664 ∧ (j = 34 ∨ j = 35 ∨ j = 36)) ∨ (c = 686 ∧ j = 4) ∨ ((680 ≤ c ∧ c ≤ 684) ∧ 256 ≤ j)) : dE M (tU M c j v) := fun k i h1 h2 h3 => if_neg (fun q => by obtain ⟨q1, q2⟩ := q; subst q1; subst q2; rcases h with h | h | h; exact h1 h; exact h2 h; exact h3 h)
/-- a step of reading: so many signs are left over -/
def RP (c : Int) (M M' : tM) : Prop := DI M' ∧ dE M M' ∧ M 686 4 ≤ M' 686 4 ∧ M' 686 4 - M 686 4 + c ≤ M' 664 34 - M 664 34
theorem RP_tr {a b : Int} {M M1 M2 : tM} (h1 : RP a M M1) (h2 : RP b M1 M2) : RP (a + b) M M2 := by
  obtain ⟨a1, a2, a3, a4⟩ := h1
  obtain ⟨b1, b2, b3, b4⟩ := h2
  exact ⟨b1, dE_tr a2 b2, by omega, by omega⟩
theorem RP_le {a b : Int} {M M1 : tM} (h : RP a M M1) (hb : b ≤ a) : RP b M M1 := by
  obtain ⟨a1, a2, a3, a4⟩ := h
  exact ⟨a1, a2, a3, by omega⟩
theorem RP_refl {M : tM} (h : DI M) : RP 0 M M := ⟨h, dE_refl, Int.le_refl _, by omega⟩
theorem RP_len {c : Int} {M M1 : tM} (h : RP c M M1) : M1 664 17 = M 664 17 := h.2.1 664 17 (by decide) (by decide) (by decide)
theorem DI_same {M M' : tM} (h : DI M) (hk : ∀ (k : Nat) (i : Int), (k = 664 ∧ i = 17) ∨ k = 672 ∨ k = 673 ∨ (680 ≤ k ∧ k ≤ 684) ∨ (k = 686 ∧ i = 4) → M' k i = M k i) (h1 : 0 ≤ M' 664 34 ∧ M' 664 34 ≤ M 664 17) (h2 : M 686 4 ≤ M' 664 34) (h3 : -1 ≤ M' 664 36 ∧ M' 664 36 ≤ 60) : DI M' := by
  obtain ⟨a1, a2, a3, a4, a5⟩ := h
  have e1 := hk 664 17 (by omega)
  have e2 := hk 686 4 (by omega)
  refine ⟨TX_same (fun k i g => hk k i (by omega)) a1, by omega, by omega, h3, fun j j1 j2 => FN_same (fun c hc => hk c j (by omega)) (a5 j j1 (by omega))⟩
theorem RP_at {M : tM} (h : DI M) (hl : M 664 34 < M 664 17) : RP 1 M (tU M 664 34 (M 664 34 + 1)) := by
  obtain ⟨a1, a2, a3, a4, a5⟩ := id h
  refine ⟨DI_same h (fun k i g => if_neg (by omega)) (by rw [tU_eq]; omega) (by rw [tU_eq]; omega) (by rw [tU_ni (by decide)]; exact a4), dE_U (by omega), by rw [tU_nk (by decide)]; omega, by rw [tU_nk (by decide), tU_eq]; omega⟩
theorem RP_parts {M : tM} {v : Int} (h : DI M) : RP 0 M (tU M 664 35 v) := by
  obtain ⟨a1, a2, a3, a4, a5⟩ := id h
  refine ⟨DI_same h (fun k i g => if_neg (by omega)) (by rw [tU_ni (by decide)]; exact a2) (by rw [tU_ni (by decide)]; omega) (by rw [tU_ni (by decide)]; exact a4), dE_U (by omega), by rw [tU_nk (by decide)]; omega, by rw [tU_nk (by decide), tU_ni (by decide)]; omega⟩
theorem RP_fault {M : tM} {v : Int} (h : DI M) (hv : -1 ≤ v ∧ v ≤ 60) : RP 0 M (tU M 664 36 v) := by
  obtain ⟨a1, a2, a3, a4, a5⟩ := id h
  refine ⟨DI_same h (fun k i g => if_neg (by omega)) (by rw [tU_ni (by decide)]; exact a2) (by rw [tU_ni (by decide)]; omega) (by rw [tU_eq]; exact hv), dE_U (by omega), by rw [tU_nk (by decide)]; omega, by rw [tU_nk (by decide), tU_ni (by decide)]; omega⟩
/-- a part more -/
def PM (M : tM) (k l r : Int) : tM := tU (tU (tU (tU M 686 4 (M 686 4 + 1)) 680 (256 + M 686 4) k) 681 (256 + M 686 4) l) 682 (256 + M 686 4) r
theorem PM_k {M : tM} {k l r : Int} {c : Nat} {i : Int} (h1 : ¬ (c = 686 ∧ i = 4)) (h2 : ¬ ((680 ≤ c ∧ c ≤ 682) ∧ i = 256 + M 686 4)) : PM M k l r c i = M c i := by
  unfold PM tU
  rw [if_neg (by omega), if_neg (by omega), if_neg (by omega), if_neg (by omega)]
theorem PM_v {M : tM} {k l r : Int} : PM M k l r 686 4 = M 686 4 + 1 ∧ PM M k l r 680 (256 + M 686 4) = k ∧ PM M k l r 681 (256 + M 686 4) = l ∧ PM M k l r 682 (256 + M 686 4) = r := by
  unfold PM
  simp (disch := decide) only [tU_nk, tU_eq, and_self]
theorem PM_dE {M : tM} {k l r : Int} (h : 0 ≤ M 686 4) : dE M (PM M k l r) := fun c i h1 h2 h3 => PM_k h2 (by omega)
theorem RP_part {M : tM} {k l r : Int} (h : DI M) (hs : M 686 4 < M 664 34) (hF : FN (PM M k l r) 256 (256 + M 686 4)) : RP (-1) M (PM M k l r) := by
  obtain ⟨a1, a2, a3, a4, a5⟩ := id h
  have e1 : PM M k l r 664 17 = M 664 17 := PM_k (by decide) (by omega)
  have e2 : PM M k l r 664 34 = M 664 34 := PM_k (by decide) (by omega)
  have e3 : PM M k l r 664 36 = M 664 36 := PM_k (by decide) (by omega)
  have e4 := (PM_v (M := M) (k := k) (l := l) (r := r)).1
  refine ⟨⟨TX_same (fun c i g => PM_k (by omega) (by omega)) a1, by omega, by omega, by omega, fun j j1 j2 => ?_⟩, PM_dE a3.1, by omega, by omega⟩
  by_cases hj : j = 256 + M 686 4
  · rw [hj]; exact hF
  · exact FN_same (fun c hc => PM_k (by omega) (by omega)) (a5 j j1 (by omega))
/-- kinds without numbers -/
theorem FN_part {M : tM} {k l r : Int} (hs : 0 ≤ M 686 4) (h : (k = 112 ∨ k = 120 ∨ k = 121) ∨ (k = 94 ∧ (256 ≤ l ∧ l < 256 + M 686 4) ∧ (0 ≤ r ∧ r ≤ 9)) ∨ ((k = 110 ∨ k = 114 ∨ k = 101 ∨ k = 108 ∨ k = 97) ∧ (256 ≤ l ∧ l < 256 + M 686 4)) ∨ ((k = 43 ∨ k = 45 ∨ k = 42 ∨ k = 47) ∧ (256 ≤ l ∧ l < 256 + M 686 4) ∧ (256 ≤ r ∧ r < 256 + M 686 4))) : FN (PM M k l r) 256 (256 + M 686 4) := by
  obtain ⟨e1, e2, e3, e4⟩ := PM_v (M := M) (k := k) (l := l) (r := r)
  unfold FN
  rw [e2, e3, e4]
  exact Or.inr h
section MODEL
variable {e : tE} {d n : Nat} {M : tM}
theorem o_sg (h : DI M) : tC e d 3704 [.inr (.inr (.inl 664))] M n (tQi n (fun z M' => ((z = sg M ∧ (0 ≤ z ∧ z ≤ 65535)) ∧ (z ≠ 32 → M 664 34 < M 664 17)) ∧ M' = M)) := by
  obtain ⟨a1, a2, a3, a4, a5⟩ := h
  refine tst_X12_sign ?_
  have h17 := a1.1
  have n25 : ∀ z : Int, z = sg M → (0 ≤ z ∧ z ≤ 65535) → (z ≠ 32 → M 664 34 < M 664 17) → tT e d 3704 25 [some (.inr (.inr (.inl 664)))] [.inl z] M n (tQi n (fun z M' => ((z = sg M ∧ (0 ≤ z ∧ z ≤ 65535)) ∧ (z ≠ 32 → M 664 34 < M 664 17)) ∧ M' = M)) := by
    intro z hz hz2 hz3
    refine tb_X12_sign_25 (c := false) ?_
    simp only [kb_X12_sign_25, w_ire, trg, true_and, and_true, Nat.reduceAdd, Nat.reduceSub, eq_self]
    exact ⟨hz2, z, rfl, rfl, ⟨⟨hz, hz2⟩, hz3⟩, rfl⟩
  refine tb_X12_sign_0 (c := false) ?_
  simp only [kb_X12_sign_0, w_ald_0, w_gf_14_34, tw_f, w_gf_14_17, w_ic_ge, w_gf_14_15, w_ca, w_goto, true_and, and_true, Nat.reduceAdd, Nat.reduceSub, eq_self, tshm_14, tshm_31, tshm_32, tykm_31, tykm_32, tci_15, tci_960, tykm_14, tci_14, tshm_667, tshm_668, tshm_669, tshm_670, tykm_33, tci_700, tsn_671, tyn_17, tcn_10, tzs_672, tzs_673, tzs_680, tzs_681, tzs_682, tzs_683, tzs_684, tzs_685, tzs_686, tzs_687, tzs_688, tzs_689, tzy_15, tzy_35, tzy_36, tzy_37, tzy_38, tzy_39, tzy_40, tzc_60, tzc_320, tzc_5, tzc_4, tzc_8]
  refine ⟨by omega, fun h => ?_, fun h => ⟨by omega, n25 _ (by unfold sg; rw [if_pos (by omega)]) (a1.2.1 _ (by omega) (by omega)) (fun _ => by omega)⟩⟩
  refine tb_X12_sign_23 (c := false) ?_
  simp only [kb_X12_sign_23, w_bi, w_nil, true_and, and_true, Nat.reduceAdd, Nat.reduceSub, eq_self]
  exact n25 32 (by unfold sg; rw [if_neg (by omega)]) (by omega) (fun q => absurd rfl q)
theorem o_faults (h : DI M) : tC e d 3615 [.inr (.inr (.inl 664))] M n (tQi n (fun z M' => z = -1 ∧ RP 0 M M')) := by
  have hh := h
  obtain ⟨a1, a2, a3, a4, a5⟩ := h
  have h17 := a1.1
  refine tst_X12_faults ?_
  refine tb_X12_faults_0 (c := false) ?_
  simp only [kb_X12_faults_0, w_ald_0, w_gf_14_36, tw_f, w_if_ge, w_gf_14_34, w_pf_14_36, w_nil, true_and, and_true, Nat.reduceAdd, Nat.reduceSub, eq_self, tshm_14, tshm_31, tshm_32, tykm_31, tykm_32, tci_15, tci_960, tykm_14, tci_14, tshm_667, tshm_668, tshm_669, tshm_670, tykm_33, tci_700, tsn_671, tyn_17, tcn_10, tzs_672, tzs_673, tzs_680, tzs_681, tzs_682, tzs_683, tzs_684, tzs_685, tzs_686, tzs_687, tzs_688, tzs_689, tzy_15, tzy_35, tzy_36, tzy_37, tzy_38, tzy_39, tzy_40, tzc_60, tzc_320, tzc_5, tzc_4, tzc_8]
  refine ⟨by omega, fun q => ?_, fun q => ?_⟩
  · refine tb_X12_faults_15 (c := false) ?_
    simp only [kb_X12_faults_15, w_ic, w_ire, trg, true_and, and_true, Nat.reduceAdd, Nat.reduceSub, eq_self]
    exact ⟨-1, rfl, rfl, rfl, RP_refl hh⟩
  · refine tb_X12_faults_15 (c := false) ?_
    simp only [kb_X12_faults_15, w_ic, w_ire, trg, true_and, and_true, Nat.reduceAdd, Nat.reduceSub, eq_self]
    exact ⟨-1, rfl, rfl, rfl, RP_fault hh (by omega)⟩
theorem o_part {k l r : Int} (h : DI M) (hk : 0 ≤ k ∧ k ≤ 65535) : tC e d 3675 [.inr (.inr (.inl 664)), .inl k, .inl l, .inl r] M n (tQi n (fun z M' => z = 256 + M 686 4 ∧ M' = PM M k l r)) := by
  obtain ⟨a1, a2, a3, a4, a5⟩ := h
  have h17 := a1.1
  refine tst_X12_part ?_
  refine tb_X12_part_0 (c := false) ?_
  simp (disch := decide) only [kb_X12_part_0, w_si, w_ald_0, w_gf_14_32, tw_f, w_ic, w_ia, w_iax, w_iadd, w_ist4, tkl_n, tkl_i, tkl_l, tkl_r, w_dup2l, w_dup2a, w_ias, ne_eq, eq_self, not_true_eq_false, false_implies, w_gf_14_26, w_ild4, w_ild_1, w_casz, w_gf_14_27, w_ild_2, w_gf_14_28, w_ild_3, w_ire, trg, true_and, and_true, Nat.reduceAdd, Nat.reduceSub, eq_self, tshm_14, tshm_31, tshm_32, tykm_31, tykm_32, tci_15, tci_960, tykm_14, tci_14, tshm_667, tshm_668, tshm_669, tshm_670, tykm_33, tci_700, tsn_671, tyn_17, tcn_10, tzs_672, tzs_673, tzs_680, tzs_681, tzs_682, tzs_683, tzs_684, tzs_685, tzs_686, tzs_687, tzs_688, tzs_689, tzy_15, tzy_35, tzy_36, tzy_37, tzy_38, tzy_39, tzy_40, tzc_60, tzc_320, tzc_5, tzc_4, tzc_8, tU_nk, tU_ni, tU_eq]
  refine ⟨by omega, by omega, by omega, by omega, ?_⟩
  refine ⟨by omega, by omega, by omega, _, rfl, rfl, rfl, ?_⟩
  unfold PM
  rfl
/-- what a reading leaves -/
def RQ (M M' : tM) (z : Int) : Prop := RP 0 M M' ∧ (z = -1 ∨ (256 ≤ z ∧ z < 256 + M' 686 4) ∧ M 664 34 < M' 664 34)
theorem o_readNumber (h : DI M) (hs : 48 ≤ sg M ∧ sg M ≤ 57) (hd : 2 ≤ d) : tC e d 3688 [.inr (.inr (.inl 664))] M n (tQi n (fun z M' => RQ M M' z)) := by
  refine tst_X12_readNumber ?_
  have hl0 : M 664 34 < M 664 17 := by
    unfold sg at hs
    split at hs
    · assumption
    · omega
  have n113 : ∀ (M1 : tM) (p : Nat) (b v g : Int), RP (p : Int) M M1 → 1 ≤ p → p ≤ 12 → (-1 ≤ b ∧ b ≤ 12) → (0 ≤ v ∧ v < ((tn p : Nat) : Int)) → tT e d 3688 113 [some (.inr (.inr (.inl 664))), some (.inl ((p : Int))), some (.inl (b)), some (.inr (.inl (v))), none, some (.inl (g)), none] [] M1 n (tQi n (fun z M' => RQ M M' z)) := by
    intro M1 p b v g h1 h2 h3 h4 h5
    have t12 : ((tn p : Nat) : Int) ≤ 1000000000000 := by
      have e12 : tn 12 = 1000000000000 := (tn_def 12).trans (by decide)
      have := tn_mono (show p ≤ 12 by omega)
      omega
    refine tb_X12_readNumber_113 (c := false) ?_
    simp only [kb_X12_readNumber_113, w_ild_2, w_if_ne, w_ald_0, w_iv0, tfr_0, tfr_1, tfr_2, tfr_3, tfr_4, w_ire, trg, true_and, and_true, Nat.reduceAdd, Nat.reduceSub, eq_self, tshm_14, tshm_31, tshm_32, tykm_31, tykm_32, tci_15, tci_960, tykm_14, tci_14, tshm_667, tshm_668, tshm_669, tshm_670, tykm_33, tci_700, tsn_671, tyn_17, tcn_10, tzs_672, tzs_673, tzs_680, tzs_681, tzs_682, tzs_683, tzs_684, tzs_685, tzs_686, tzs_687, tzs_688, tzs_689, tzy_15, tzy_35, tzy_36, tzy_37, tzy_38, tzy_39, tzy_40, tzc_60, tzc_320, tzc_5, tzc_4, tzc_8]
    refine ⟨by omega, fun q => ?_, fun q => ?_⟩
    · have r2 := RP_tr h1 (RP_parts (v := M1 664 35 + 1) h1.1)
      have D2 := r2.1
      refine tb_X12_readNumber_122 (c := false) ?_
      simp only [kb_X12_readNumber_122, w_ald_0, w_dupi, w_dupr, w_gf_14_35, tw_f, w_ic, w_iadd, w_pf_14_35, w_bi, w_iv3, tfr_0, tfr_1, tfr_2, tfr_3, tfr_4, w_ist6, tkl_n, tkl_i, tkl_l, tkl_r, w_gf_14_30, w_ild6, w_lld_3, w_las, w_gf_14_29, w_ild_2, w_if_ge, w_goto, true_and, and_true, Nat.reduceAdd, Nat.reduceSub, eq_self, tshm_14, tshm_31, tshm_32, tykm_31, tykm_32, tci_15, tci_960, tykm_14, tci_14, tshm_667, tshm_668, tshm_669, tshm_670, tykm_33, tci_700, tsn_671, tyn_17, tcn_10, tzs_672, tzs_673, tzs_680, tzs_681, tzs_682, tzs_683, tzs_684, tzs_685, tzs_686, tzs_687, tzs_688, tzs_689, tzy_15, tzy_35, tzy_36, tzy_37, tzy_38, tzy_39, tzy_40, tzc_60, tzc_320, tzc_5, tzc_4, tzc_8]
      generalize tU M1 664 35 (M1 664 35 + 1) = M2 at r2 D2 ⊢
      refine tc_i (D := 0) (fun d' hd' => o_part D2 (by omega)) (by omega) ?_
      rintro z M3 ⟨rfl, rfl⟩
      obtain ⟨e1, e2, e3, e4⟩ := PM_v (M := M2) (k := 49) (l := 0) (r := 0)
      have s2 := D2.2.2.1
      have at2 := D2.2.1
      have l2 := D2.1.1
      have q3 := r2.2.2.2
      have s0 := h.2.2.1
      have n165 : ∀ w : Int, (0 ≤ w ∧ w ≤ 12) → tT e d 3688 165 [some (.inr (.inr (.inl 664))), some (.inl ((p : Int))), some (.inl (b)), some (.inr (.inl (v))), none, some (.inl (g)), some (.inl (256 + M2 686 4))] [.inl w, .inl (256 + M2 686 4), .inr (.inr (.inl 683))] (tU (PM M2 49 0 0) 684 (256 + M2 686 4) v) n (tQi n (fun z M' => RQ M M' z)) := by
        intro w hw
        have hn : ∀ (c : Nat) (i : Int), c ≠ 683 → c ≠ 684 → tU (tU (PM M2 49 0 0) 684 (256 + M2 686 4) v) 683 (256 + M2 686 4) w c i = PM M2 49 0 0 c i := fun c i g1 g2 => by unfold tU; rw [if_neg (by omega), if_neg (by omega)]
        have hn2 : ∀ (c : Nat) (i : Int), i ≠ 256 + M2 686 4 → tU (tU (PM M2 49 0 0) 684 (256 + M2 686 4) v) 683 (256 + M2 686 4) w c i = PM M2 49 0 0 c i := fun c i g1 => by unfold tU; rw [if_neg (by omega), if_neg (by omega)]
        have v3 : tU (tU (PM M2 49 0 0) 684 (256 + M2 686 4) v) 683 (256 + M2 686 4) w 683 (256 + M2 686 4) = w := tU_eq ..
        have v4 : tU (tU (PM M2 49 0 0) 684 (256 + M2 686 4) v) 683 (256 + M2 686 4) w 684 (256 + M2 686 4) = v := (tU_nk (by decide)).trans (tU_eq ..)
        refine tb_X12_readNumber_165 (c := false) ?_
        simp only [kb_X12_readNumber_165, w_ias, ne_eq, eq_self, not_true_eq_false, false_implies, w_ild6, w_ire, trg, true_and, and_true, Nat.reduceAdd, Nat.reduceSub, eq_self, tshm_14, tshm_31, tshm_32, tykm_31, tykm_32, tci_15, tci_960, tykm_14, tci_14, tshm_667, tshm_668, tshm_669, tshm_670, tykm_33, tci_700, tsn_671, tyn_17, tcn_10, tzs_672, tzs_673, tzs_680, tzs_681, tzs_682, tzs_683, tzs_684, tzs_685, tzs_686, tzs_687, tzs_688, tzs_689, tzy_15, tzy_35, tzy_36, tzy_37, tzy_38, tzy_39, tzy_40, tzc_60, tzc_320, tzc_5, tzc_4, tzc_8]
        refine ⟨by omega, _, rfl, rfl, ?_⟩
        generalize tU (tU (PM M2 49 0 0) 684 (256 + M2 686 4) v) 683 (256 + M2 686 4) w = M4 at hn hn2 v3 v4 ⊢
        have f1 : M4 664 17 = M2 664 17 := (hn 664 17 (by decide) (by decide)).trans (PM_k (by decide) (by omega))
        have f2 : M4 664 34 = M2 664 34 := (hn 664 34 (by decide) (by decide)).trans (PM_k (by decide) (by omega))
        have f3 : M4 664 36 = M2 664 36 := (hn 664 36 (by decide) (by decide)).trans (PM_k (by decide) (by omega))
        have f4 : M4 686 4 = M2 686 4 + 1 := (hn 686 4 (by decide) (by decide)).trans e1
        have f5 := D2.2.2.2.1
        have q4 := r2.2.2.1
        refine ⟨⟨⟨TX_same (fun c i g => (hn c i (by omega) (by omega)).trans (PM_k (by omega) (by omega))) D2.1, by omega, by omega, by omega, fun j j1 j2 => ?_⟩, dE_tr r2.2.1 (dE_tr (PM_dE (k := 49) (l := 0) (r := 0) s2.1) (fun c i g1 g2 g3 => ?_)), by have := r2.2.2.1; omega, by omega⟩, Or.inr ⟨by omega, by omega⟩⟩
        · by_cases hj : j = 256 + M2 686 4
          · unfold FN
            rw [hj, v3, v4, hn 680 _ (by decide) (by decide), e2]
            exact Or.inl ⟨rfl, by omega, hw⟩
          · exact FN_same (fun c hc => (hn2 c j hj).trans (PM_k (by omega) (by omega))) (D2.2.2.2.2 j j1 (by omega))
        · by_cases hi : i = 256 + M2 686 4
          · exact hn c i (by omega) (by omega)
          · exact hn2 c i hi
      try simp only [kb_X12_readNumber_122, w_ald_0, w_dupi, w_dupr, w_gf_14_35, tw_f, w_ic, w_iadd, w_pf_14_35, w_bi, w_iv3, tfr_0, tfr_1, tfr_2, tfr_3, tfr_4, w_ist6, tkl_n, tkl_i, tkl_l, tkl_r, w_gf_14_30, w_ild6, w_lld_3, w_las, w_gf_14_29, w_ild_2, w_if_ge, w_goto, true_and, and_true, Nat.reduceAdd, Nat.reduceSub, eq_self, tshm_14, tshm_31, tshm_32, tykm_31, tykm_32, tci_15, tci_960, tykm_14, tci_14, tshm_667, tshm_668, tshm_669, tshm_670, tykm_33, tci_700, tsn_671, tyn_17, tcn_10, tzs_672, tzs_673, tzs_680, tzs_681, tzs_682, tzs_683, tzs_684, tzs_685, tzs_686, tzs_687, tzs_688, tzs_689, tzy_15, tzy_35, tzy_36, tzy_37, tzy_38, tzy_39, tzy_40, tzc_60, tzc_320, tzc_5, tzc_4, tzc_8]
      refine ⟨by omega, by omega, fun q2 => ?_, fun q2 => ?_⟩
      · refine tb_X12_readNumber_164 (c := false) ?_
        simp only [kb_X12_readNumber_164, w_ild_2, w_nil, true_and, and_true, Nat.reduceAdd, Nat.reduceSub, eq_self]
        exact n165 b (by omega)
      · exact n165 0 (by omega)
    · refine tc_i (D := 0) (fun d' hd' => o_faults h1.1) (by omega) ?_
      rintro z M2 ⟨rfl, r2⟩
      try simp only [kb_X12_readNumber_113, w_ild_2, w_if_ne, w_ald_0, w_iv0, tfr_0, tfr_1, tfr_2, tfr_3, tfr_4, w_ire, trg, true_and, and_true, Nat.reduceAdd, Nat.reduceSub, eq_self, tshm_14, tshm_31, tshm_32, tykm_31, tykm_32, tci_15, tci_960, tykm_14, tci_14, tshm_667, tshm_668, tshm_669, tshm_670, tykm_33, tci_700, tsn_671, tyn_17, tcn_10, tzs_672, tzs_673, tzs_680, tzs_681, tzs_682, tzs_683, tzs_684, tzs_685, tzs_686, tzs_687, tzs_688, tzs_689, tzy_15, tzy_35, tzy_36, tzy_37, tzy_38, tzy_39, tzy_40, tzc_60, tzc_320, tzc_5, tzc_4, tzc_8]
      exact ⟨-1, rfl, rfl, RP_le (RP_tr h1 r2) (by omega), Or.inl rfl⟩
  have n9 : ∀ (fu : Nat) (M1 : tM) (p : Nat) (b v g : Int), RP (p : Int) M M1 → (p = 0 → (48 ≤ sg M1 ∧ sg M1 ≤ 57) ∧ g = 1) → p ≤ 12 → (-1 ≤ b ∧ b ≤ (p : Int)) → (0 ≤ v ∧ v < ((tn p : Nat) : Int)) → (g = 0 ∨ g = 1) → M1 664 17 - M1 664 34 + g < (fu : Int) → tT e d 3688 9 [some (.inr (.inr (.inl 664))), some (.inl ((p : Int))), some (.inl (b)), some (.inr (.inl (v))), none, some (.inl (g)), none] [] M1 n (tQi n (fun z M' => RQ M M' z)) := by
    intro fu
    induction fu with
    | zero =>
      intro M1 p b v g h1 h2 h3 h4 h5 h6 h7
      have := h1.1.2.1
      exfalso; omega
    | succ fu ih =>
      intro M1 p b v g h1 h2 h3 h4 h5 h6 h7
      have D1 := h1.1
      have at1 := D1.2.1
      have n107 : g = 1 → 1 ≤ p → tT e d 3688 107 [some (.inr (.inr (.inl 664))), some (.inl ((p : Int))), some (.inl (b)), some (.inr (.inl (v))), none, some (.inl (g)), none] [] M1 n (tQi n (fun z M' => RQ M M' z)) := by
        intro hg hp
        refine tb_X12_readNumber_107 (c := false) ?_
        simp only [kb_X12_readNumber_107, w_ic, w_ist5, tkl_n, tkl_i, tkl_l, tkl_r, w_goto, true_and, and_true, Nat.reduceAdd, Nat.reduceSub, eq_self]
        exact ih M1 p b v 0 h1 (fun q => by omega) h3 h4 h5 (Or.inl rfl) (by omega)
      refine tb_X12_readNumber_9 (c := false) ?_
      simp only [kb_X12_readNumber_9, w_ild5, w_if_eq, w_ald_0, w_iv0, tfr_0, tfr_1, tfr_2, tfr_3, tfr_4, w_is1, w_ild_1, w_bi, w_ic_ne, w_ire, trg, true_and, and_true, Nat.reduceAdd, Nat.reduceSub, eq_self, tshm_14, tshm_31, tshm_32, tykm_31, tykm_32, tci_15, tci_960, tykm_14, tci_14, tshm_667, tshm_668, tshm_669, tshm_670, tykm_33, tci_700, tsn_671, tyn_17, tcn_10, tzs_672, tzs_673, tzs_680, tzs_681, tzs_682, tzs_683, tzs_684, tzs_685, tzs_686, tzs_687, tzs_688, tzs_689, tzy_15, tzy_35, tzy_36, tzy_37, tzy_38, tzy_39, tzy_40, tzc_60, tzc_320, tzc_5, tzc_4, tzc_8]
      refine ⟨by omega, fun q => n113 M1 p b v g h1 (by omega) h3 (by omega) h5, fun q => ?_⟩
      have hg : g = 1 := by omega
      refine tc_i (D := 0) (fun d' hd' => o_sg D1) (by omega) ?_
      rintro z M2 ⟨⟨⟨q1, q2⟩, q3⟩, rfl⟩
      try simp only [kb_X12_readNumber_9, w_ild5, w_if_eq, w_ald_0, w_iv0, tfr_0, tfr_1, tfr_2, tfr_3, tfr_4, w_is1, w_ild_1, w_bi, w_ic_ne, w_ire, trg, true_and, and_true, Nat.reduceAdd, Nat.reduceSub, eq_self, tshm_14, tshm_31, tshm_32, tykm_31, tykm_32, tci_15, tci_960, tykm_14, tci_14, tshm_667, tshm_668, tshm_669, tshm_670, tykm_33, tci_700, tsn_671, tyn_17, tcn_10, tzs_672, tzs_673, tzs_680, tzs_681, tzs_682, tzs_683, tzs_684, tzs_685, tzs_686, tzs_687, tzs_688, tzs_689, tzy_15, tzy_35, tzy_36, tzy_37, tzy_38, tzy_39, tzy_40, tzc_60, tzc_320, tzc_5, tzc_4, tzc_8]
      refine tc_i (D := 0) (fun d' hd' => o_isDigit q2) (by omega) ?_
      rintro z2 M3 ⟨q4, rfl⟩
      try simp only [kb_X12_readNumber_9, w_ild5, w_if_eq, w_ald_0, w_iv0, tfr_0, tfr_1, tfr_2, tfr_3, tfr_4, w_is1, w_ild_1, w_bi, w_ic_ne, w_ire, trg, true_and, and_true, Nat.reduceAdd, Nat.reduceSub, eq_self, tshm_14, tshm_31, tshm_32, tykm_31, tykm_32, tci_15, tci_960, tykm_14, tci_14, tshm_667, tshm_668, tshm_669, tshm_670, tykm_33, tci_700, tsn_671, tyn_17, tcn_10, tzs_672, tzs_673, tzs_680, tzs_681, tzs_682, tzs_683, tzs_684, tzs_685, tzs_686, tzs_687, tzs_688, tzs_689, tzy_15, tzy_35, tzy_36, tzy_37, tzy_38, tzy_39, tzy_40, tzc_60, tzc_320, tzc_5, tzc_4, tzc_8]
      refine ⟨by omega, fun w => ?_, fun w => ⟨by omega, fun w2 => ?_, fun w2 => ?_⟩⟩
      · have hp : 1 ≤ p := by
          rcases Nat.eq_zero_or_pos p with h0 | h0
          · have := (h2 h0).1; omega
          · exact h0
        refine tb_X12_readNumber_79 (c := false) ?_
        simp only [kb_X12_readNumber_79, w_ald_0, w_iv0, tfr_0, tfr_1, tfr_2, tfr_3, tfr_4, w_bi, w_ic_ne, w_ild_2, w_if_ge, w_ic, w_ist_2, tkl_n, tkl_i, tkl_l, tkl_r, w_dupi, w_dupr, w_gf_14_34, tw_f, w_iadd, w_pf_14_34, w_goto, true_and, and_true, Nat.reduceAdd, Nat.reduceSub, eq_self, tshm_14, tshm_31, tshm_32, tykm_31, tykm_32, tci_15, tci_960, tykm_14, tci_14, tshm_667, tshm_668, tshm_669, tshm_670, tykm_33, tci_700, tsn_671, tyn_17, tcn_10, tzs_672, tzs_673, tzs_680, tzs_681, tzs_682, tzs_683, tzs_684, tzs_685, tzs_686, tzs_687, tzs_688, tzs_689, tzy_15, tzy_35, tzy_36, tzy_37, tzy_38, tzy_39, tzy_40, tzc_60, tzc_320, tzc_5, tzc_4, tzc_8]
        refine tc_i (D := 0) (fun d' hd' => o_sg D1) (by omega) ?_
        rintro z5 M5 ⟨⟨⟨r1, r2⟩, r3⟩, rfl⟩
        try simp only [kb_X12_readNumber_79, w_ald_0, w_iv0, tfr_0, tfr_1, tfr_2, tfr_3, tfr_4, w_bi, w_ic_ne, w_ild_2, w_if_ge, w_ic, w_ist_2, tkl_n, tkl_i, tkl_l, tkl_r, w_dupi, w_dupr, w_gf_14_34, tw_f, w_iadd, w_pf_14_34, w_goto, true_and, and_true, Nat.reduceAdd, Nat.reduceSub, eq_self, tshm_14, tshm_31, tshm_32, tykm_31, tykm_32, tci_15, tci_960, tykm_14, tci_14, tshm_667, tshm_668, tshm_669, tshm_670, tykm_33, tci_700, tsn_671, tyn_17, tcn_10, tzs_672, tzs_673, tzs_680, tzs_681, tzs_682, tzs_683, tzs_684, tzs_685, tzs_686, tzs_687, tzs_688, tzs_689, tzy_15, tzy_35, tzy_36, tzy_37, tzy_38, tzy_39, tzy_40, tzc_60, tzc_320, tzc_5, tzc_4, tzc_8]
        refine ⟨by omega, fun w3 => n107 hg hp, fun w3 => ⟨by omega, fun w4 => n107 hg hp, fun w4 => ?_⟩⟩
        have ra := RP_at D1 (r3 (by omega))
        have rb := RP_le (RP_tr h1 ra) (show (p : Int) ≤ (p : Int) + 1 by omega)
        exact ih _ p 0 v g rb (fun q => by omega) h3 (by omega) h5 h6 (by rw [tU_eq, tU_ni (by decide)]; omega)
      · refine tb_X12_readNumber_35 (c := false) ?_
        simp only [kb_X12_readNumber_35, w_ld2, w_lld_3, w_lmul, tw_f, w_ald_0, w_iv0, tfr_0, tfr_1, tfr_2, tfr_3, tfr_4, w_i2l, w_ladd, w_lsub, w_lst_3, tkl_n, tkl_i, tkl_l, tkl_r, w_inc1, w_ild_2, w_if_ge, w_ic, w_goto, true_and, and_true, Nat.reduceAdd, Nat.reduceSub, eq_self, tshm_14, tshm_31, tshm_32, tykm_31, tykm_32, tci_15, tci_960, tykm_14, tci_14, tshm_667, tshm_668, tshm_669, tshm_670, tykm_33, tci_700, tsn_671, tyn_17, tcn_10, tzs_672, tzs_673, tzs_680, tzs_681, tzs_682, tzs_683, tzs_684, tzs_685, tzs_686, tzs_687, tzs_688, tzs_689, tzy_15, tzy_35, tzy_36, tzy_37, tzy_38, tzy_39, tzy_40, tzc_60, tzc_320, tzc_5, tzc_4, tzc_8]
        refine tc_i (D := 0) (fun d' hd' => o_sg D1) (by omega) ?_
        rintro z5 M5 ⟨⟨⟨r1, r2⟩, r3⟩, rfl⟩
        try simp only [kb_X12_readNumber_35, w_ld2, w_lld_3, w_lmul, tw_f, w_ald_0, w_iv0, tfr_0, tfr_1, tfr_2, tfr_3, tfr_4, w_i2l, w_ladd, w_lsub, w_lst_3, tkl_n, tkl_i, tkl_l, tkl_r, w_inc1, w_ild_2, w_if_ge, w_ic, w_goto, true_and, and_true, Nat.reduceAdd, Nat.reduceSub, eq_self, tshm_14, tshm_31, tshm_32, tykm_31, tykm_32, tci_15, tci_960, tykm_14, tci_14, tshm_667, tshm_668, tshm_669, tshm_670, tykm_33, tci_700, tsn_671, tyn_17, tcn_10, tzs_672, tzs_673, tzs_680, tzs_681, tzs_682, tzs_683, tzs_684, tzs_685, tzs_686, tzs_687, tzs_688, tzs_689, tzy_15, tzy_35, tzy_36, tzy_37, tzy_38, tzy_39, tzy_40, tzc_60, tzc_320, tzc_5, tzc_4, tzc_8]
        have hz5 : 48 ≤ z5 ∧ z5 ≤ 57 := by omega
        have ra := RP_at D1 (r3 (by omega))
        have rb := RP_tr h1 ra
        have ep : ((p : Nat) : Int) + 1 = ((p + 1 : Nat) : Int) := by omega
        rw [ep] at rb ⊢
        have tp : tn (p + 1) = tn p * 10 := tn_s p
        have n64 : ∀ w : Int, (w = 0 ∨ w = 1) → tT e d 3688 64 [some (.inr (.inr (.inl 664))), some (.inl ((((p + 1 : Nat)) : Int))), some (.inl (b)), some (.inr (.inl (10 * v + z5 - 48))), none, some (.inl (g)), none] [.inl w, .inl b] M5 n (tQi n (fun z M' => RQ M M' z)) := by
          intro w hw
          refine tb_X12_readNumber_64 (c := false) ?_
          simp only [kb_X12_readNumber_64, w_iadd, w_ist_2, tkl_n, tkl_i, tkl_l, tkl_r, w_ald_0, w_dupi, w_dupr, w_gf_14_34, tw_f, w_ic, w_pf_14_34, w_goto, true_and, and_true, Nat.reduceAdd, Nat.reduceSub, eq_self, tshm_14, tshm_31, tshm_32, tykm_31, tykm_32, tci_15, tci_960, tykm_14, tci_14, tshm_667, tshm_668, tshm_669, tshm_670, tykm_33, tci_700, tsn_671, tyn_17, tcn_10, tzs_672, tzs_673, tzs_680, tzs_681, tzs_682, tzs_683, tzs_684, tzs_685, tzs_686, tzs_687, tzs_688, tzs_689, tzy_15, tzy_35, tzy_36, tzy_37, tzy_38, tzy_39, tzy_40, tzc_60, tzc_320, tzc_5, tzc_4, tzc_8]
          exact ih _ (p + 1) (b + w) _ g rb (fun q => by omega) (by omega) (by omega) (by omega) h6 (by rw [tU_eq, tU_ni (by decide)]; omega)
        refine ⟨by omega, by omega, fun w3 => ?_, fun w3 => n64 0 (Or.inl rfl)⟩
        refine tb_X12_readNumber_63 (c := false) ?_
        simp only [kb_X12_readNumber_63, w_ic, w_nil, true_and, and_true, Nat.reduceAdd, Nat.reduceSub, eq_self]
        exact n64 1 (Or.inr rfl)
      · refine tc_i (D := 0) (fun d' hd' => o_faults D1) (by omega) ?_
        rintro z5 M5 ⟨rfl, r2⟩
        try simp only [kb_X12_readNumber_9, w_ild5, w_if_eq, w_ald_0, w_iv0, tfr_0, tfr_1, tfr_2, tfr_3, tfr_4, w_is1, w_ild_1, w_bi, w_ic_ne, w_ire, trg, true_and, and_true, Nat.reduceAdd, Nat.reduceSub, eq_self, tshm_14, tshm_31, tshm_32, tykm_31, tykm_32, tci_15, tci_960, tykm_14, tci_14, tshm_667, tshm_668, tshm_669, tshm_670, tykm_33, tci_700, tsn_671, tyn_17, tcn_10, tzs_672, tzs_673, tzs_680, tzs_681, tzs_682, tzs_683, tzs_684, tzs_685, tzs_686, tzs_687, tzs_688, tzs_689, tzy_15, tzy_35, tzy_36, tzy_37, tzy_38, tzy_39, tzy_40, tzc_60, tzc_320, tzc_5, tzc_4, tzc_8]
        exact ⟨-1, rfl, rfl, RP_le (RP_tr h1 r2) (by omega), Or.inl rfl⟩
  refine tb_X12_readNumber_0 (c := false) ?_
  simp only [kb_X12_readNumber_0, w_ic, w_ist_1, tkl_n, tkl_i, tkl_l, tkl_r, w_ist_2, w_lc0, w_lst_3, w_ist5, w_nil, true_and, and_true, Nat.reduceAdd, Nat.reduceSub, eq_self]
  have h17 := h.1.1
  have hat := h.2.1
  exact n9 62 M 0 (-1) 0 1 (RP_refl h) (fun _ => ⟨hs, rfl⟩) (by omega) (by omega) (by have := tn_pos 0; omega) (Or.inr rfl) (by omega)
end MODEL
