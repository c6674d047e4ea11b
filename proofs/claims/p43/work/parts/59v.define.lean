/-! THE MODEL: formulas defined. -/

theorem FI_at {M M' : tM} (h1 : ∀ (k : Nat) (i : Int), k = 685 ∨ k = 686 ∨ k = 687 → 0 ≤ i → i < 4 → M' k i = M k i) (h2 : ∀ (k : Nat) (i : Int), 680 ≤ k ∧ k ≤ 684 → 0 ≤ i → i < 256 → M' k i = M k i) (h : FI M) : FI M' := by
  intro f f1 f2
  have g := h f f1 f2
  rw [h1 687 f (by omega) f1 f2, h1 686 f (by omega) f1 f2, h1 685 f (by omega) f1 f2]
  exact ⟨g.1, g.2.1, fun q => ⟨(g.2.2 q).1, fun k k1 k2 => FN_same (fun c hc => h2 c k (by omega) (by omega) (by omega)) ((g.2.2 q).2 k k1 k2)⟩⟩
/-- a part copied -/
theorem FN_cp {M M' : tM} {b j : Int} (h : FN M 256 (256 + j)) (h0 : M' 680 (b + j) = M 680 (256 + j)) (h1 : M' 681 (b + j) = M 681 (256 + j) - 256 + b) (h2 : M' 682 (b + j) = (if M 680 (256 + j) = 94 then M 682 (256 + j) else M 682 (256 + j) - 256 + b)) (h3 : M' 683 (b + j) = M 683 (256 + j)) (h4 : M' 684 (b + j) = M 684 (256 + j)) : FN M' b (b + j) := by
  unfold FN at h ⊢
  rw [h0, h1, h2, h3, h4]
  rcases h with h | h | ⟨k1, k2, k3⟩ | ⟨k1, k2⟩ | ⟨k1, k2, k3⟩
  · exact Or.inl h
  · exact Or.inr (Or.inl h)
  · rw [if_pos k1]
    exact Or.inr (Or.inr (Or.inl ⟨k1, by omega, k3⟩))
  · exact Or.inr (Or.inr (Or.inr (Or.inl ⟨k1, by omega⟩)))
  · rw [if_neg (by omega)]
    exact Or.inr (Or.inr (Or.inr (Or.inr ⟨k1, by omega, by omega⟩)))
section MODEL
variable {e : tE} {d n D : Nat} {M : tM}
theorem o_define {f : Int} (hP : MF M D) (hf : (-2147483648 ≤ f ∧ f < 2147483648)) (hd : 252 ≤ d) : tC e d 3606 [.inr (.inr (.inl 664)), .inl f] M n (tQi n (fun _ M' => MF M' D ∧ MC M M')) := by
  refine tst_X12_define ?_
  have n21 : ∀ M1 : tM, MF M1 D → MC M M1 → (0 ≤ f ∧ f ≤ 3) → tT e d 3606 21 [some (.inr (.inr (.inl 664))), some (.inl (f)), none, none, none, none] [] M1 n (tQi n (fun _ M' => MF M' D ∧ MC M M')) := by
    intro M1 q1 q2 g1
    -- from where the reading is over
    have n68 : ∀ (M3 : tM) (z : Int), dE M1 M3 → DI M3 → (z = -1 ∨ 256 ≤ z ∧ z < 256 + M3 686 4) → tT e d 3606 68 [some (.inr (.inr (.inl 664))), some (.inl (f)), some (.inl (z)), none, none, none] [] M3 n (tQi n (fun _ M' => MF M' D ∧ MC M M')) := by
      intro M3 z h1 h2 h3
      have T4 : TX (tU M3 664 17 0) := TX_l h2.1 (by omega)
      have hk4 : ∀ (k : Nat) (i : Int), ¬ (k = 664 ∧ i = 17) → tU M3 664 17 0 k i = M3 k i := fun k i g => if_neg g
      have dM : ∀ (k : Nat) (i : Int), ¬ (k = 664 ∧ (i = 17 ∨ i = 34 ∨ i = 35 ∨ i = 36)) → ¬ (k = 686 ∧ i = 4) → ¬ ((680 ≤ k ∧ k ≤ 684) ∧ 256 ≤ i) → tU M3 664 17 0 k i = M1 k i := fun k i a b c => (hk4 k i (by omega)).trans (h1 k i (by omega) b c)
      have s4 : tU M3 664 17 0 686 4 = M3 686 4 := hk4 _ _ (by decide)
      have N4 : ∀ j : Int, 256 ≤ j → j < 256 + M3 686 4 → FN (tU M3 664 17 0) 256 j := fun j j1 j2 => FN_same (fun c hc => hk4 c j (by omega)) (h2.2.2.2.2 j j1 j2)
      have hs := h2.2.2.1
      have hl := h2.1.1
      have ha := h2.2.1
      have hfl := h2.2.2.2.1
      have hzr : -1 ≤ z ∧ z ≤ 400 := by omega
      refine tb_X12_define_68 (c := false) ?_
      simp only [kb_X12_define_68, w_ald_0, w_ic, w_pf_14_17, w_ild_2, w_if_ge, w_gf_14_36, tw_f, w_isub, w_ire, trg, true_and, and_true, Nat.reduceAdd, Nat.reduceSub, eq_self, tshm_14, tshm_31, tshm_32, tykm_31, tykm_32, tci_15, tci_960, tykm_14, tci_14, tshm_667, tshm_668, tshm_669, tshm_670, tykm_33, tci_700, tsn_671, tyn_17, tcn_10, tzs_672, tzs_673, tzs_680, tzs_681, tzs_682, tzs_683, tzs_684, tzs_685, tzs_686, tzs_687, tzs_688, tzs_689, tzy_15, tzy_35, tzy_36, tzy_37, tzy_38, tzy_39, tzy_40, tzc_60, tzc_320, tzc_5, tzc_4, tzc_8]
      have e36 : tU M3 664 17 0 664 36 = M3 664 36 := hk4 _ _ (by decide)
      generalize tU M3 664 17 0 = M4 at T4 dM s4 N4 e36 ⊢
      have mf : ∀ M' : tM, (∀ (k : Nat) (i : Int), k ≤ 679 ∨ 688 ≤ k → M' k i = M4 k i) → FI M' → MF M' D ∧ MC M1 M' := fun M' a b =>
        ⟨⟨MP_same (fun k i g => (a k i (by omega)).trans (dM k i (by omega) (by omega) (by omega))) q1.1, TX_same (fun k i g => a k i (by omega)) T4, b, PJ_same (fun k i g => (a k i (by omega)).trans (dM k i (by omega) (by omega) (by omega))) q1.2.2.2⟩, fun k i g => (a k i (by omega)).trans (dM k i (by omega) (by omega) (by omega))⟩
      have F4 : FI M4 := FI_at (fun k i g a b => dM k i (by omega) (by omega) (by omega)) (fun k i g a b => dM k i (by omega) (by omega) (by omega)) q1.2.2.1
      refine ⟨by omega, fun q => ?_, fun q => ?_⟩
      · have n97 : ∀ (fu : Nat) (M5 : tM) (k : Int), (∀ (c : Nat) (i : Int), ¬ ((680 ≤ c ∧ c ≤ 684) ∧ (64 * f ≤ i ∧ i < 64 * f + 64)) → M5 c i = M4 c i) → (0 ≤ k ∧ k ≤ M3 686 4) → (∀ j : Int, 0 ≤ j → j < k → FN M5 (64 * f) (64 * f + j)) → M3 686 4 - k < (fu : Int) → tT e d 3606 97 [some (.inr (.inr (.inl 664))), some (.inl (f)), some (.inl (z)), some (.inl (256)), some (.inl (64 * f)), some (.inl (k))] [] M5 n (tQi n (fun _ M' => MF M' D ∧ MC M M')) := by
          intro fu
          induction fu with
          | zero => intro M5 k a1 a2 a3 a4; exfalso; omega
          | succ fu ih =>
            intro M5 k a1 a2 a3 a4
            have s5 : M5 686 4 = M3 686 4 := (a1 686 4 (by omega)).trans s4
            have N5 : k < M3 686 4 → FN M5 256 (256 + k) := fun hk => FN_same (fun c hc => a1 c _ (by omega)) (N4 (256 + k) (by omega) (by omega))
            have kr : k < M3 686 4 → 0 ≤ M5 680 (256 + k) ∧ M5 680 (256 + k) ≤ 65535 := fun hk => by
              have := N5 hk
              unfold FN at this
              omega
            have e80 : ∀ v : Int, tU M5 680 (64 * f + k) v 680 (256 + k) = M5 680 (256 + k) := fun v => tU_ni (by omega)
            have n200 : ∀ v : Int, k < M3 686 4 → v = (if M5 680 (256 + k) = 94 then M5 682 (256 + k) else M5 682 (256 + k) - 256 + 64 * f) → tT e d 3606 200 [some (.inr (.inr (.inl 664))), some (.inl (f)), some (.inl (z)), some (.inl (256)), some (.inl (64 * f)), some (.inl (k))] [.inl v, .inl (64 * f + k), .inr (.inr (.inl 682))] (tU (tU M5 680 (64 * f + k) (M5 680 (256 + k))) 681 (64 * f + k) (M5 681 (256 + k) - 256 + 64 * f)) n (tQi n (fun _ M' => MF M' D ∧ MC M M')) := by
              intro v hk hv
              refine tb_X12_define_200 (c := false) ?_
              simp (disch := decide) only [kb_X12_define_200, w_ias, ne_eq, eq_self, not_true_eq_false, false_implies, w_ald_0, w_gf_14_30, tw_f, w_ild4, w_ild5, w_iadd, w_ild_3, w_la, w_lax, w_las, w_gf_14_29, w_ia, w_iax, w_inc5, tkl_n, tkl_i, tkl_l, tkl_r, w_goto, true_and, and_true, Nat.reduceAdd, Nat.reduceSub, eq_self, tshm_14, tshm_31, tshm_32, tykm_31, tykm_32, tci_15, tci_960, tykm_14, tci_14, tshm_667, tshm_668, tshm_669, tshm_670, tykm_33, tci_700, tsn_671, tyn_17, tcn_10, tzs_672, tzs_673, tzs_680, tzs_681, tzs_682, tzs_683, tzs_684, tzs_685, tzs_686, tzs_687, tzs_688, tzs_689, tzy_15, tzy_35, tzy_36, tzy_37, tzy_38, tzy_39, tzy_40, tzc_60, tzc_320, tzc_5, tzc_4, tzc_8, tU_nk, tU_ni, tU_eq]
              refine ⟨by omega, by omega, by omega, by omega, by omega, ?_⟩
              have hn : ∀ (c : Nat) (i : Int), ¬ ((680 ≤ c ∧ c ≤ 684) ∧ i = 64 * f + k) → tU (tU (tU (tU (tU M5 680 (64 * f + k) (M5 680 (256 + k))) 681 (64 * f + k) (M5 681 (256 + k) - 256 + 64 * f)) 682 (64 * f + k) v) 684 (64 * f + k) (M5 684 (256 + k))) 683 (64 * f + k) (M5 683 (256 + k)) c i = M5 c i := fun c i g => by
                unfold tU
                rw [if_neg (by omega), if_neg (by omega), if_neg (by omega), if_neg (by omega), if_neg (by omega)]
              have w0 : tU (tU (tU (tU (tU M5 680 (64 * f + k) (M5 680 (256 + k))) 681 (64 * f + k) (M5 681 (256 + k) - 256 + 64 * f)) 682 (64 * f + k) v) 684 (64 * f + k) (M5 684 (256 + k))) 683 (64 * f + k) (M5 683 (256 + k)) 680 (64 * f + k) = M5 680 (256 + k) := by simp (disch := decide) only [tU_nk, tU_eq]
              have w1 : tU (tU (tU (tU (tU M5 680 (64 * f + k) (M5 680 (256 + k))) 681 (64 * f + k) (M5 681 (256 + k) - 256 + 64 * f)) 682 (64 * f + k) v) 684 (64 * f + k) (M5 684 (256 + k))) 683 (64 * f + k) (M5 683 (256 + k)) 681 (64 * f + k) = M5 681 (256 + k) - 256 + 64 * f := by simp (disch := decide) only [tU_nk, tU_eq]
              have w2 : tU (tU (tU (tU (tU M5 680 (64 * f + k) (M5 680 (256 + k))) 681 (64 * f + k) (M5 681 (256 + k) - 256 + 64 * f)) 682 (64 * f + k) v) 684 (64 * f + k) (M5 684 (256 + k))) 683 (64 * f + k) (M5 683 (256 + k)) 682 (64 * f + k) = v := by simp (disch := decide) only [tU_nk, tU_eq]
              have w4 : tU (tU (tU (tU (tU M5 680 (64 * f + k) (M5 680 (256 + k))) 681 (64 * f + k) (M5 681 (256 + k) - 256 + 64 * f)) 682 (64 * f + k) v) 684 (64 * f + k) (M5 684 (256 + k))) 683 (64 * f + k) (M5 683 (256 + k)) 684 (64 * f + k) = M5 684 (256 + k) := by simp (disch := decide) only [tU_nk, tU_eq]
              have w3 : tU (tU (tU (tU (tU M5 680 (64 * f + k) (M5 680 (256 + k))) 681 (64 * f + k) (M5 681 (256 + k) - 256 + 64 * f)) 682 (64 * f + k) v) 684 (64 * f + k) (M5 684 (256 + k))) 683 (64 * f + k) (M5 683 (256 + k)) 683 (64 * f + k) = M5 683 (256 + k) := tU_eq ..
              generalize tU (tU (tU (tU (tU M5 680 (64 * f + k) (M5 680 (256 + k))) 681 (64 * f + k) (M5 681 (256 + k) - 256 + 64 * f)) 682 (64 * f + k) v) 684 (64 * f + k) (M5 684 (256 + k))) 683 (64 * f + k) (M5 683 (256 + k)) = M6 at hn w0 w1 w2 w3 w4 ⊢
              refine ih M6 (k + 1) (fun c i g => (hn c i (by omega)).trans (a1 c i g)) (by omega) (fun j j1 j2 => ?_) (by omega)
              by_cases hj : j = k
              · rw [hj]
                exact FN_cp (N5 hk) w0 w1 (w2.trans hv) w3 w4
              · exact FN_same (fun c hc => hn c _ (by omega)) (a3 j j1 (by omega))
            by_cases hk : k < M3 686 4
            · have kr := kr hk
              refine tb_X12_define_97 (c := false) ?_
              simp (disch := decide) only [kb_X12_define_97, w_ild5, w_ald_0, w_gf_14_32, tw_f, w_ic, w_ia, w_iax, w_ic_ge, w_gf_14_26, w_ild4, w_iadd, w_ild_3, w_ca, w_casz, w_gf_14_27, w_isub, w_ias, ne_eq, eq_self, not_true_eq_false, false_implies, w_gf_14_28, w_bi, w_ic_ne, w_goto, true_and, and_true, Nat.reduceAdd, Nat.reduceSub, eq_self, tshm_14, tshm_31, tshm_32, tykm_31, tykm_32, tci_15, tci_960, tykm_14, tci_14, tshm_667, tshm_668, tshm_669, tshm_670, tykm_33, tci_700, tsn_671, tyn_17, tcn_10, tzs_672, tzs_673, tzs_680, tzs_681, tzs_682, tzs_683, tzs_684, tzs_685, tzs_686, tzs_687, tzs_688, tzs_689, tzy_15, tzy_35, tzy_36, tzy_37, tzy_38, tzy_39, tzy_40, tzc_60, tzc_320, tzc_5, tzc_4, tzc_8, e80, s5, tU_nk, tU_ni, tU_eq]
              refine ⟨by omega, by omega, fun q => by exfalso; omega, fun q => ⟨by omega, by omega, kr, by omega, by omega, by omega, by omega, fun q => ?_, fun q => ⟨by omega, ?_⟩⟩⟩
              · refine tb_X12_define_186 (c := false) ?_
                simp (disch := decide) only [kb_X12_define_186, w_ald_0, w_gf_14_28, tw_f, w_ild_3, w_ild5, w_iadd, w_ia, w_iax, w_isub, w_ild4, w_nil, true_and, and_true, Nat.reduceAdd, Nat.reduceSub, eq_self, tshm_14, tshm_31, tshm_32, tykm_31, tykm_32, tci_15, tci_960, tykm_14, tci_14, tshm_667, tshm_668, tshm_669, tshm_670, tykm_33, tci_700, tsn_671, tyn_17, tcn_10, tzs_672, tzs_673, tzs_680, tzs_681, tzs_682, tzs_683, tzs_684, tzs_685, tzs_686, tzs_687, tzs_688, tzs_689, tzy_15, tzy_35, tzy_36, tzy_37, tzy_38, tzy_39, tzy_40, tzc_60, tzc_320, tzc_5, tzc_4, tzc_8, tU_nk, tU_ni, tU_eq]
                refine ⟨by omega, ?_⟩
                exact n200 _ hk (by rw [if_neg q])
              · exact n200 _ hk (by rw [if_pos (by omega)])
            · refine tb_X12_define_97 (c := false) ?_
              simp only [kb_X12_define_97, w_ild5, w_ald_0, w_gf_14_32, tw_f, w_ic, w_ia, w_iax, w_ic_ge, w_gf_14_26, w_ild4, w_iadd, w_ild_3, w_ca, w_casz, w_gf_14_27, w_isub, w_ias, ne_eq, eq_self, not_true_eq_false, false_implies, w_gf_14_28, w_bi, w_ic_ne, w_goto, true_and, and_true, Nat.reduceAdd, Nat.reduceSub, eq_self, tshm_14, tshm_31, tshm_32, tykm_31, tykm_32, tci_15, tci_960, tykm_14, tci_14, tshm_667, tshm_668, tshm_669, tshm_670, tykm_33, tci_700, tsn_671, tyn_17, tcn_10, tzs_672, tzs_673, tzs_680, tzs_681, tzs_682, tzs_683, tzs_684, tzs_685, tzs_686, tzs_687, tzs_688, tzs_689, tzy_15, tzy_35, tzy_36, tzy_37, tzy_38, tzy_39, tzy_40, tzc_60, tzc_320, tzc_5, tzc_4, tzc_8, s5]
              refine ⟨by omega, by omega, fun q => ?_, fun q => by exfalso; omega⟩
              refine tb_X12_define_245 (c := false) ?_
              simp (disch := decide) only [kb_X12_define_245, w_ald_0, w_gf_14_32, tw_f, w_ild_1, w_ic, w_ia, w_iax, w_ias, ne_eq, eq_self, not_true_eq_false, false_implies, w_gf_14_31, w_ild_2, w_ild_3, w_isub, w_ild4, w_iadd, w_gf_14_33, w_basz, w_gf_14_35, w_ire, trg, true_and, and_true, Nat.reduceAdd, Nat.reduceSub, eq_self, tshm_14, tshm_31, tshm_32, tykm_31, tykm_32, tci_15, tci_960, tykm_14, tci_14, tshm_667, tshm_668, tshm_669, tshm_670, tykm_33, tci_700, tsn_671, tyn_17, tcn_10, tzs_672, tzs_673, tzs_680, tzs_681, tzs_682, tzs_683, tzs_684, tzs_685, tzs_686, tzs_687, tzs_688, tzs_689, tzy_15, tzy_35, tzy_36, tzy_37, tzy_38, tzy_39, tzy_40, tzc_60, tzc_320, tzc_5, tzc_4, tzc_8, s5, tU_nk, tU_ni, tU_eq]
              refine ⟨by omega, by omega, by omega, by omega, by omega, ?_⟩
              have hn : ∀ (c : Nat) (i : Int), ¬ (685 ≤ c ∧ c ≤ 687) ∨ i ≠ f → tU (tU (tU M5 686 f (M3 686 4)) 685 f (z - 256 + 64 * f)) 687 f 1 c i = M5 c i := fun c i g => by
                unfold tU
                rw [if_neg (by omega), if_neg (by omega), if_neg (by omega)]
              have w5 : tU (tU (tU M5 686 f (M3 686 4)) 685 f (z - 256 + 64 * f)) 687 f 1 685 f = z - 256 + 64 * f := by simp (disch := decide) only [tU_nk, tU_eq]
              have w6 : tU (tU (tU M5 686 f (M3 686 4)) 685 f (z - 256 + 64 * f)) 687 f 1 686 f = M3 686 4 := by simp (disch := decide) only [tU_nk, tU_eq]
              have w7 : tU (tU (tU M5 686 f (M3 686 4)) 685 f (z - 256 + 64 * f)) 687 f 1 687 f = 1 := tU_eq ..
              generalize tU (tU (tU M5 686 f (M3 686 4)) 685 f (z - 256 + 64 * f)) 687 f 1 = M7 at hn w5 w6 w7 ⊢
              have F7 : FI M7 := by
                intro f' b1 b2
                by_cases hff : f' = f
                · rw [hff, w5, w6, w7]
                  refine ⟨by omega, by omega, fun _ => ⟨by omega, fun j j1 j2 => FN_same (M := M5) (fun c hc => hn c j (by omega)) ?_⟩⟩
                  have := a3 (j - 64 * f) (by omega) (by omega)
                  rw [show 64 * f + (j - 64 * f) = j by omega] at this
                  exact this
                · have g := F4 f' b1 b2
                  rw [hn 687 f' (by omega), hn 686 f' (by omega), hn 685 f' (by omega), a1 687 f' (by omega), a1 686 f' (by omega), a1 685 f' (by omega)]
                  exact ⟨g.1, g.2.1, fun q => ⟨(g.2.2 q).1, fun j j1 j2 => FN_same (fun c hc => (hn c j (by omega)).trans (a1 c j (by omega))) ((g.2.2 q).2 j j1 j2)⟩⟩
              have m := mf M7 (fun c i g => (hn c i (by omega)).trans (a1 c i (by omega))) F7
              exact ⟨_, rfl, rfl, m.1, MC_tr q2 m.2⟩
        refine tb_X12_define_84 (c := false) ?_
        simp only [kb_X12_define_84, w_si, w_ist_3, tkl_n, tkl_i, tkl_l, tkl_r, w_bi, w_ild_1, w_imul, w_ist4, w_ic, w_ist5, w_nil, true_and, and_true, Nat.reduceAdd, Nat.reduceSub, eq_self]
        exact n97 61 M4 0 (fun _ _ _ => rfl) (by omega) (fun j j1 j2 => by exfalso; omega) (by omega)
      · have m := mf M4 (fun _ _ _ => rfl) F4
        exact ⟨_, rfl, rfl, m.1, MC_tr q2 m.2⟩
    have h17 := q1.2.1.1
    have d2 : dE M1 (tU (tU (tU (tU M1 664 34 0) 664 35 0) 664 36 (-1)) 686 4 0) := dE_tr (dE_tr (dE_tr (dE_U (by omega)) (dE_U (by omega))) (dE_U (by omega))) (dE_U (by omega))
    have D2 : DI (tU (tU (tU (tU M1 664 34 0) 664 35 0) 664 36 (-1)) 686 4 0) := by
      have e34 : tU (tU (tU (tU M1 664 34 0) 664 35 0) 664 36 (-1)) 686 4 0 664 34 = 0 := by simp (disch := decide) only [tU_nk, tU_ni, tU_eq]
      have e36 : tU (tU (tU (tU M1 664 34 0) 664 35 0) 664 36 (-1)) 686 4 0 664 36 = -1 := by simp (disch := decide) only [tU_nk, tU_ni, tU_eq]
      have e4 : tU (tU (tU (tU M1 664 34 0) 664 35 0) 664 36 (-1)) 686 4 0 686 4 = 0 := tU_eq ..
      have e17 : tU (tU (tU (tU M1 664 34 0) 664 35 0) 664 36 (-1)) 686 4 0 664 17 = M1 664 17 := by simp (disch := decide) only [tU_nk, tU_ni]
      unfold DI
      rw [e34, e36, e4, e17]
      exact ⟨TX_same (fun k i g => d2 k i (by omega) (by omega) (by omega)) q1.2.1, by omega, by omega, by omega, fun j j1 j2 => by exfalso; omega⟩
    have hl2 : tU (tU (tU (tU M1 664 34 0) 664 35 0) 664 36 (-1)) 686 4 0 664 17 - tU (tU (tU (tU M1 664 34 0) 664 35 0) 664 36 (-1)) 686 4 0 664 34 ≤ 60 := by
      have := D2.1.1
      have := D2.2.1
      omega
    refine tb_X12_define_21 (c := false) ?_
    simp only [kb_X12_define_21, w_ald_0, w_ic, w_pf_14_34, w_pf_14_35, w_pf_14_36, w_gf_14_32, tw_f, w_ias, ne_eq, eq_self, not_true_eq_false, false_implies, w_iv0, tfr_0, tfr_1, tfr_2, tfr_3, tfr_4, w_ist_2, tkl_n, tkl_i, tkl_l, tkl_r, w_ild_2, w_if_lt, w_gf_14_34, w_gf_14_17, w_ic_ge, w_nil, true_and, and_true, Nat.reduceAdd, Nat.reduceSub, eq_self, tshm_14, tshm_31, tshm_32, tykm_31, tykm_32, tci_15, tci_960, tykm_14, tci_14, tshm_667, tshm_668, tshm_669, tshm_670, tykm_33, tci_700, tsn_671, tyn_17, tcn_10, tzs_672, tzs_673, tzs_680, tzs_681, tzs_682, tzs_683, tzs_684, tzs_685, tzs_686, tzs_687, tzs_688, tzs_689, tzy_15, tzy_35, tzy_36, tzy_37, tzy_38, tzy_39, tzy_40, tzc_60, tzc_320, tzc_5, tzc_4, tzc_8]
    refine ⟨by omega, ?_⟩
    generalize tU (tU (tU (tU M1 664 34 0) 664 35 0) 664 36 (-1)) 686 4 0 = M2 at d2 D2 hl2 ⊢
    refine tc_i (D := 4 * 60 + 9) (fun d' hd' => o_readSum (o_readAtom 60) D2 hl2 hd') (by omega) ?_
    rintro z M3 ⟨r1, r2⟩
    have d3 := dE_tr d2 r1.2.1
    have D3 := r1.1
    have s3 := D3.2.2.1
    have a3 := D3.2.1
    have l3 := D3.1.1
    have hzr : -1 ≤ z ∧ z ≤ 400 := by omega
    try simp only [kb_X12_define_21, w_ald_0, w_ic, w_pf_14_34, w_pf_14_35, w_pf_14_36, w_gf_14_32, tw_f, w_ias, ne_eq, eq_self, not_true_eq_false, false_implies, w_iv0, tfr_0, tfr_1, tfr_2, tfr_3, tfr_4, w_ist_2, tkl_n, tkl_i, tkl_l, tkl_r, w_ild_2, w_if_lt, w_gf_14_34, w_gf_14_17, w_ic_ge, w_nil, true_and, and_true, Nat.reduceAdd, Nat.reduceSub, eq_self, tshm_14, tshm_31, tshm_32, tykm_31, tykm_32, tci_15, tci_960, tykm_14, tci_14, tshm_667, tshm_668, tshm_669, tshm_670, tykm_33, tci_700, tsn_671, tyn_17, tcn_10, tzs_672, tzs_673, tzs_680, tzs_681, tzs_682, tzs_683, tzs_684, tzs_685, tzs_686, tzs_687, tzs_688, tzs_689, tzy_15, tzy_35, tzy_36, tzy_37, tzy_38, tzy_39, tzy_40, tzc_60, tzc_320, tzc_5, tzc_4, tzc_8]
    refine ⟨by omega, fun q => n68 M3 z d3 D3 (by omega), fun q => ⟨by omega, fun q2 => n68 M3 z d3 D3 (by omega), fun q2 => ?_⟩⟩
    refine tc_i (D := 0) (fun d' hd' => o_faults D3) (by omega) ?_
    rintro z2 M4 ⟨rfl, w1⟩
    try simp only [kb_X12_define_21, w_ald_0, w_ic, w_pf_14_34, w_pf_14_35, w_pf_14_36, w_gf_14_32, tw_f, w_ias, ne_eq, eq_self, not_true_eq_false, false_implies, w_iv0, tfr_0, tfr_1, tfr_2, tfr_3, tfr_4, w_ist_2, tkl_n, tkl_i, tkl_l, tkl_r, w_ild_2, w_if_lt, w_gf_14_34, w_gf_14_17, w_ic_ge, w_nil, true_and, and_true, Nat.reduceAdd, Nat.reduceSub, eq_self, tshm_14, tshm_31, tshm_32, tykm_31, tykm_32, tci_15, tci_960, tykm_14, tci_14, tshm_667, tshm_668, tshm_669, tshm_670, tykm_33, tci_700, tsn_671, tyn_17, tcn_10, tzs_672, tzs_673, tzs_680, tzs_681, tzs_682, tzs_683, tzs_684, tzs_685, tzs_686, tzs_687, tzs_688, tzs_689, tzy_15, tzy_35, tzy_36, tzy_37, tzy_38, tzy_39, tzy_40, tzc_60, tzc_320, tzc_5, tzc_4, tzc_8]
    exact n68 M4 (-1) (dE_tr d3 w1.2.1) w1.1 (Or.inl rfl)
  have n13 : ∀ v : Int, (v = 0 ∧ (0 ≤ f ∧ f ≤ 3) ∨ v = 1) → tT e d 3606 13 [some (.inr (.inr (.inl 664))), some (.inl (f)), none, none, none, none] [.inl v, .inr (.inr (.inl 664))] M n (tQi n (fun _ M' => MF M' D ∧ MC M M')) := by
    intro v hv
    refine tb_X12_define_13 (c := false) ?_
    simp only [kb_X12_define_13, w_iv1, tfr_0, tfr_1, tfr_2, tfr_3, tfr_4, w_if_eq, w_ic, w_ire, trg, true_and, and_true, Nat.reduceAdd, Nat.reduceSub, eq_self, tshm_14, tshm_31, tshm_32, tykm_31, tykm_32, tci_15, tci_960, tykm_14, tci_14, tshm_667, tshm_668, tshm_669, tshm_670, tykm_33, tci_700, tsn_671, tyn_17, tcn_10, tzs_672, tzs_673, tzs_680, tzs_681, tzs_682, tzs_683, tzs_684, tzs_685, tzs_686, tzs_687, tzs_688, tzs_689, tzy_15, tzy_35, tzy_36, tzy_37, tzy_38, tzy_39, tzy_40, tzc_60, tzc_320, tzc_5, tzc_4, tzc_8]
    refine tc_i (D := 0) (fun d' hd' => o_fails (by omega)) (by omega) ?_
    rintro z M2 ⟨q2, rfl⟩
    try simp only [kb_X12_define_13, w_iv1, tfr_0, tfr_1, tfr_2, tfr_3, tfr_4, w_if_eq, w_ic, w_ire, trg, true_and, and_true, Nat.reduceAdd, Nat.reduceSub, eq_self, tshm_14, tshm_31, tshm_32, tykm_31, tykm_32, tci_15, tci_960, tykm_14, tci_14, tshm_667, tshm_668, tshm_669, tshm_670, tykm_33, tci_700, tsn_671, tyn_17, tcn_10, tzs_672, tzs_673, tzs_680, tzs_681, tzs_682, tzs_683, tzs_684, tzs_685, tzs_686, tzs_687, tzs_688, tzs_689, tzy_15, tzy_35, tzy_36, tzy_37, tzy_38, tzy_39, tzy_40, tzc_60, tzc_320, tzc_5, tzc_4, tzc_8]
    have h4 := MF_3 (v := v) hP
    exact ⟨by omega, fun q => n21 _ h4.1 h4.2 (by omega), fun q => ⟨0, rfl, rfl, h4⟩⟩
  refine tb_X12_define_0 (c := false) ?_
  simp only [kb_X12_define_0, w_ald_0, w_ild_1, w_is1, tfr_0, tfr_1, tfr_2, tfr_3, tfr_4, w_if_eq, w_ic, w_goto, true_and, and_true, Nat.reduceAdd, Nat.reduceSub, eq_self]
  refine tc_i (D := 1) (fun d' hd' => o_isFormula hf hd') (by omega) ?_
  rintro z1 M1 ⟨q1, rfl⟩
  try simp only [kb_X12_define_0, w_ald_0, w_ild_1, w_is1, tfr_0, tfr_1, tfr_2, tfr_3, tfr_4, w_if_eq, w_ic, w_goto, true_and, and_true, Nat.reduceAdd, Nat.reduceSub, eq_self]
  refine ⟨by omega, fun q => ?_, fun q => n13 0 (by omega)⟩
  refine tb_X12_define_12 (c := false) ?_
  simp only [kb_X12_define_12, w_ic, w_nil, true_and, and_true, Nat.reduceAdd, Nat.reduceSub, eq_self]
  exact n13 1 (by omega)
end MODEL
