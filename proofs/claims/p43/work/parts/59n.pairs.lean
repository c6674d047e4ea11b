/-! THE MODEL: pairs, narrow, decide, solve. -/

def AO (M : tM) : Prop := ∀ b : Int, 0 ≤ b → b < 60 → OB M b
theorem AO_c {o f : Int} {M M1 : tM} (h : AO M) (hx : xE (cT o f) M M1) (hO : cO M1 o) (hf : 60 ≤ f) : AO M1 := by
  intro b b1 b2
  by_cases hb : o ≤ b ∧ b < o + 8
  · exact hO b hb.1 hb.2
  · exact OB_y (h b b1 b2) hx.1 (fun q => by unfold cT at q; omega)
theorem AO_v {T : Int → Prop} {M M1 : tM} (h : AO M) (hx : vE T M M1) (hT : ∀ r, T r → 60 ≤ r) : AO M1 := fun b b1 b2 => OB_v (h b b1 b2) hx (fun q => by have := hT _ q; omega)
theorem vE_dig {T : Int → Prop} {A B : tM} {a k : Int} (h : vE T (tU A 664 2 a) B) : vE T (tU A 664 2 k) (tU B 664 2 k) := by
  have hn : ∀ (X : tM) (v : Int) (c : Nat) (i : Int), ¬ (c = 664 ∧ i = 2) → tU X 664 2 v c i = X c i := fun X v c i g => if_neg g
  refine ⟨fun c i g1 g2 g3 g4 => ?_, fun q => ?_, fun q => ?_⟩
  · by_cases q : c = 664 ∧ i = 2
    · obtain ⟨q1, q2⟩ := q
      subst q1; subst q2
      rw [tU_eq, tU_eq]
    · rw [hn _ _ _ _ q, hn _ _ _ _ q, h.1 c i g1 g2 g3 g4, hn _ _ _ _ q]
  · exact KI_k (h.2.1 (KI_k q (fun c i g => by rw [hn _ _ _ _ (by omega), hn _ _ _ _ (by omega)]))) (fun c i g => hn _ _ _ _ (by omega))
  · exact BI_same (fun c i g => hn _ _ _ _ (by unfold isB at g; omega)) (h.2.2 (BI_same (fun c i g => by unfold isB at g; rw [hn _ _ _ _ (by omega), hn _ _ _ _ (by omega)]) q))
theorem tU_self {M : tM} {c : Nat} {i v : Int} (h : M c i = v) : tU M c i v = M := by
  refine funext (fun k => funext (fun j => ?_))
  unfold tU
  split
  · rename_i q
    rw [q.1, q.2, h]
  · rfl
section MODEL
variable {e : tE} {d n D : Nat} {M : tM}
theorem o_canBe0 {fo x y g : Int} (h : MB M D g) (hF : FI M) (hf : 0 ≤ fo ∧ fo ≤ 3) (hu : M 687 fo ≠ 0) (hx : 0 ≤ x ∧ x < 60) (ox : OB M x) (hy : 0 ≤ y ∧ y < 60) (oy : OB M y) (hd : 72 ≤ d) : tC e d 3595 [.inr (.inr (.inl 664)), .inl fo, .inl x, .inl y] M n (tQi n (fun z M' => (z = 0 ∨ z = 1) ∧ vE (fun r => 60 ≤ r) M M' ∧ M' 664 11 = 61)) := by
  refine tst_X12_canBe0 ?_
  have n33 : ∀ (M1 : tM) (z : Int), (z = 0 ∨ z = 1) → vE (fun r => 60 ≤ r) M M1 → M1 664 11 = 61 → tT e d 3595 33 [some (.inr (.inr (.inl 664))), some (.inl (fo)), some (.inl (x)), some (.inl (y))] [.inl z] M1 n (tQi n (fun z M' => (z = 0 ∨ z = 1) ∧ vE (fun r => 60 ≤ r) M M' ∧ M' 664 11 = 61)) := by
    intro M1 z g1 g2 g3
    refine tb_X12_canBe0_33 (c := false) ?_
    simp only [kb_X12_canBe0_33, w_ire, trg, true_and, and_true, Nat.reduceAdd, Nat.reduceSub, eq_self]
    exact ⟨by omega, z, rfl, rfl, g1, g2, g3⟩
  have n28 : ∀ (M1 : tM), vE (fun r => 60 ≤ r) M M1 → M1 664 11 = 61 → tT e d 3595 28 [some (.inr (.inr (.inl 664))), some (.inl (fo)), some (.inl (x)), some (.inl (y))] [] M1 n (tQi n (fun z M' => (z = 0 ∨ z = 1) ∧ vE (fun r => 60 ≤ r) M M' ∧ M' 664 11 = 61)) := by
    intro M1 g2 g3
    refine tb_X12_canBe0_28 (c := false) ?_
    simp only [kb_X12_canBe0_28, w_ic, w_goto, true_and, and_true, Nat.reduceAdd, Nat.reduceSub, eq_self]
    exact n33 M1 1 (Or.inr rfl) g2 g3
  have v0 : vE (fun r => 60 ≤ r) M (tU M 664 11 61) := vE_free
  have f0 : tU M 664 11 61 664 11 = 61 := tU_eq ..
  refine tb_X12_canBe0_0 (c := false) ?_
  simp only [kb_X12_canBe0_0, w_ald_0, w_bi, w_pf_14_11, w_ild_1, w_ild_2, w_ild_3, w_ic, w_iv5, tfr_0, tfr_1, tfr_2, tfr_3, tfr_4, w_if_gt, w_iv1, w_if_eq, w_nil, true_and, and_true, Nat.reduceAdd, Nat.reduceSub, eq_self, tshm_14, tshm_31, tshm_32, tykm_31, tykm_32, tci_15, tci_960, tykm_14, tci_14, tshm_667, tshm_668, tshm_669, tshm_670, tykm_33, tci_700, tsn_671, tyn_17, tcn_10, tzs_672, tzs_673, tzs_680, tzs_681, tzs_682, tzs_683, tzs_684, tzs_685, tzs_686, tzs_687, tzs_688, tzs_689, tzy_15, tzy_35, tzy_36, tzy_37, tzy_38, tzy_39, tzy_40, tzc_60, tzc_320, tzc_5, tzc_4, tzc_8]
  generalize tU M 664 11 61 = M0 at v0 f0 ⊢
  refine tc_i (D := 71) (fun d' hd' => o_told (MB_v h v0 f0 (by omega)) (FI_v hF v0) hf (by rw [vE_k v0 687 fo (by omega)]; exact hu) (by omega) (OB_v ox v0 (by omega)) (by omega) (OB_v oy v0 (by omega)) (by omega) (by omega) (Or.inl rfl) hd') (by omega) ?_
  rintro z M1 ⟨p1, p2⟩
  have hz := z3_r p1.1
  have v1 : vE (fun r => 60 ≤ r) M M1 := vE_tr v0 (vE_mono p2.1 (fun r q => by rcases q with q | q <;> omega))
  have f1 := p2.2.trans f0
  try simp only [kb_X12_canBe0_0, w_ald_0, w_bi, w_pf_14_11, w_ild_1, w_ild_2, w_ild_3, w_ic, w_iv5, tfr_0, tfr_1, tfr_2, tfr_3, tfr_4, w_if_gt, w_iv1, w_if_eq, w_nil, true_and, and_true, Nat.reduceAdd, Nat.reduceSub, eq_self, tshm_14, tshm_31, tshm_32, tykm_31, tykm_32, tci_15, tci_960, tykm_14, tci_14, tshm_667, tshm_668, tshm_669, tshm_670, tykm_33, tci_700, tsn_671, tyn_17, tcn_10, tzs_672, tzs_673, tzs_680, tzs_681, tzs_682, tzs_683, tzs_684, tzs_685, tzs_686, tzs_687, tzs_688, tzs_689, tzy_15, tzy_35, tzy_36, tzy_37, tzy_38, tzy_39, tzy_40, tzc_60, tzc_320, tzc_5, tzc_4, tzc_8]
  refine ⟨by omega, fun q => n28 M1 v1 f1, fun q => ?_⟩
  refine tc_i (D := 1) (fun d' hd' => c_holds0 (by omega) ((MB_v h v1 f1 (by omega)).2.2.2.2.1 60 (by omega) (by omega)) hd') (by omega) ?_
  rintro z2 M2 ⟨q1, rfl⟩
  try simp only [kb_X12_canBe0_0, w_ald_0, w_bi, w_pf_14_11, w_ild_1, w_ild_2, w_ild_3, w_ic, w_iv5, tfr_0, tfr_1, tfr_2, tfr_3, tfr_4, w_if_gt, w_iv1, w_if_eq, w_nil, true_and, and_true, Nat.reduceAdd, Nat.reduceSub, eq_self, tshm_14, tshm_31, tshm_32, tykm_31, tykm_32, tci_15, tci_960, tykm_14, tci_14, tshm_667, tshm_668, tshm_669, tshm_670, tykm_33, tci_700, tsn_671, tyn_17, tcn_10, tzs_672, tzs_673, tzs_680, tzs_681, tzs_682, tzs_683, tzs_684, tzs_685, tzs_686, tzs_687, tzs_688, tzs_689, tzy_15, tzy_35, tzy_36, tzy_37, tzy_38, tzy_39, tzy_40, tzc_60, tzc_320, tzc_5, tzc_4, tzc_8]
  refine ⟨by omega, fun q => ?_, fun q => n28 _ v1 f1⟩
  refine tb_X12_canBe0_32 (c := false) ?_
  simp only [kb_X12_canBe0_32, w_ic, w_nil, true_and, and_true, Nat.reduceAdd, Nat.reduceSub, eq_self]
  exact n33 _ 0 (Or.inl rfl) v1 f1
theorem o_pairs {x1 x2 x3 x4 x5 : Int} (hP : MF M D) (h1 : (-2147483648 ≤ x1 ∧ x1 < 2147483648)) (h2 : (-2147483648 ≤ x2 ∧ x2 < 2147483648)) (h3 : (-2147483648 ≤ x3 ∧ x3 < 2147483648)) (h4 : (-2147483648 ≤ x4 ∧ x4 < 2147483648)) (h5 : (-2147483648 ≤ x5 ∧ x5 < 2147483648)) (hd : 74 ≤ d) : tC e d 3674 [.inr (.inr (.inl 664)), .inl x1, .inl x2, .inl x3, .inl x4, .inl x5] M n (tQi n (fun _ M' => MF M' D ∧ MC M M')) := by
  refine tst_X12_pairs ?_
  have n113 : ∀ (A : Int) (M1 : tM), MF M1 D → MC M M1 → (0 ≤ x1 ∧ x1 ≤ 3) → (0 ≤ x2 ∧ x2 ≤ 3) → (0 ≤ x3 ∧ x3 ≤ 9) → (0 ≤ x4 ∧ x4 ≤ 9) → (0 ≤ x5 ∧ x5 ≤ 2) → M1 687 x1 ≠ 0 → M1 687 x2 ≠ 0 → tT e d 3674 113 [some (.inr (.inr (.inl 664))), some (.inl (x1)), some (.inl (x2)), some (.inl (x3)), some (.inl (x4)), some (.inl (x5)), some (.inl (A)), none, none, none, none, none] [] M1 n (tQi n (fun _ M' => MF M' D ∧ MC M M')) := by
    intro A M1 q1 q2 g1 g2 g3 g4 g5 u1 u2
    have ps : ∀ M2 : tM, vE (fun _ => True) M1 M2 → ∀ g : Int, M2 664 11 = g → (0 ≤ g ∧ g < 700) → MB M2 D g ∧ FI M2 ∧ M2 687 x1 ≠ 0 ∧ M2 687 x2 ≠ 0 := fun M2 k1 g k2 k3 => ⟨MB_v q1.1.1 k1 k2 k3, FI_v q1.2.2.1 k1, by rw [vE_k k1 687 x1 (by omega)]; exact u1, by rw [vE_k k1 687 x2 (by omega)]; exact u2⟩
    have n223 : ∀ (M2 : tM) (a b c : Int) (B C : Option tV), vE (fun _ => True) M1 M2 → AO M2 → tT e d 3674 223 [some (.inr (.inr (.inl 664))), some (.inl (x1)), some (.inl (x2)), some (.inl (x3)), some (.inl (x4)), some (.inl (x5)), some (.inl (A)), some (.inl (a)), some (.inl (b)), some (.inl (c)), B, C] [] M2 n (tQi n (fun _ M' => MF M' D ∧ MC M M')) := by
      intro M2 a b c B C k1 k2
      refine tb_X12_pairs_223 (c := false) ?_
      simp only [kb_X12_pairs_223, w_ald_0, w_bi, w_pf_14_11, w_ild9, w_ire, trg, true_and, and_true, Nat.reduceAdd, Nat.reduceSub, eq_self, tshm_14, tshm_31, tshm_32, tykm_31, tykm_32, tci_15, tci_960, tykm_14, tci_14, tshm_667, tshm_668, tshm_669, tshm_670, tykm_33, tci_700, tsn_671, tyn_17, tcn_10, tzs_672, tzs_673, tzs_680, tzs_681, tzs_682, tzs_683, tzs_684, tzs_685, tzs_686, tzs_687, tzs_688, tzs_689, tzy_15, tzy_35, tzy_36, tzy_37, tzy_38, tzy_39, tzy_40, tzc_60, tzc_320, tzc_5, tzc_4, tzc_8]
      have m := MF_v q1 (vE_tr k1 (vE_free (v := 60))) (tU_eq ..) (AO_v (T := fun _ => False) k2 vE_free (fun _ q => q.elim))
      exact ⟨c, rfl, rfl, m.1, MC_tr q2 m.2⟩
    have n148 : ∀ (fu : Nat) (M2 : tM) (a b c k g : Int) (B : Option tV), vE (fun _ => True) M1 M2 → AO M2 → M2 664 11 = g → (0 ≤ g ∧ g < 700) → (1 ≤ a ∧ a ≤ 8) → (1 ≤ b ∧ b ≤ 8) → (0 ≤ k ∧ k ≤ a) → a - k < (fu : Int) → tT e d 3674 148 [some (.inr (.inr (.inl 664))), some (.inl (x1)), some (.inl (x2)), some (.inl (x3)), some (.inl (x4)), some (.inl (x5)), some (.inl (A)), some (.inl (a)), some (.inl (b)), some (.inl (c)), some (.inl (k)), B] [] M2 n (tQi n (fun _ M' => MF M' D ∧ MC M M')) := by
      intro fu
      induction fu with
      | zero => intro M2 a b c k g B k1 k2 k3 k4 k5 k6 k7 k8; exfalso; omega
      | succ fu ih =>
        intro M2 a b c k g B k1 k2 k3 k4 k5 k6 k7 k8
        have n158 : ∀ (fu2 : Nat) (M3 : tM) (c j g : Int), k < a → vE (fun _ => True) M1 M3 → AO M3 → M3 664 11 = g → (0 ≤ g ∧ g < 700) → (0 ≤ j ∧ j ≤ b) → b - j < (fu2 : Int) → tT e d 3674 158 [some (.inr (.inr (.inl 664))), some (.inl (x1)), some (.inl (x2)), some (.inl (x3)), some (.inl (x4)), some (.inl (x5)), some (.inl (A)), some (.inl (a)), some (.inl (b)), some (.inl (c)), some (.inl (k)), some (.inl (j))] [] M3 n (tQi n (fun _ M' => MF M' D ∧ MC M M')) := by
          intro fu2
          induction fu2 with
          | zero => intro M3 c j g hk r1 r2 r3 r4 r5 r6; exfalso; omega
          | succ fu2 ih2 =>
            intro M3 c j g hk r1 r2 r3 r4 r5 r6
            have n208 : ∀ (M4 : tM) (v : Int), j < b → vE (fun _ => True) M1 M4 → AO M4 → M4 664 11 = 61 → tT e d 3674 208 [some (.inr (.inr (.inl 664))), some (.inl (x1)), some (.inl (x2)), some (.inl (x3)), some (.inl (x4)), some (.inl (x5)), some (.inl (A)), some (.inl (a)), some (.inl (b)), some (.inl (c)), some (.inl (k)), some (.inl (j))] [.inl v, .inl c] M4 n (tQi n (fun _ M' => MF M' D ∧ MC M M')) := by
              intro M4 v hj s1 s2 s3
              refine tb_X12_pairs_208 (c := false) ?_
              simp only [kb_X12_pairs_208, w_iadd, w_ist9, tkl_n, tkl_i, tkl_l, tkl_r, w_inc11, w_goto, true_and, and_true, Nat.reduceAdd, Nat.reduceSub, eq_self]
              exact ih2 M4 (c + v) (j + 1) 61 hk s1 s2 s3 (by omega) (by omega) (by omega)
            have n207 : ∀ (M4 : tM), j < b → vE (fun _ => True) M1 M4 → AO M4 → M4 664 11 = 61 → tT e d 3674 207 [some (.inr (.inr (.inl 664))), some (.inl (x1)), some (.inl (x2)), some (.inl (x3)), some (.inl (x4)), some (.inl (x5)), some (.inl (A)), some (.inl (a)), some (.inl (b)), some (.inl (c)), some (.inl (k)), some (.inl (j))] [.inl c] M4 n (tQi n (fun _ M' => MF M' D ∧ MC M M')) := by
              intro M4 hj s1 s2 s3
              refine tb_X12_pairs_207 (c := false) ?_
              simp only [kb_X12_pairs_207, w_ic, w_nil, true_and, and_true, Nat.reduceAdd, Nat.reduceSub, eq_self]
              exact n208 M4 0 hj s1 s2 s3
            refine tb_X12_pairs_158 (c := false) ?_
            simp only [kb_X12_pairs_158, w_ild11, w_ild8, w_ic_ge, w_ild9, w_ald_0, w_ild_1, w_bi, w_ild10, w_iadd, w_iv3, tfr_0, tfr_1, tfr_2, tfr_3, tfr_4, w_if_eq, w_ild_2, w_ic, w_goto, true_and, and_true, Nat.reduceAdd, Nat.reduceSub, eq_self, tshm_14, tshm_31, tshm_32, tykm_31, tykm_32, tci_15, tci_960, tykm_14, tci_14, tshm_667, tshm_668, tshm_669, tshm_670, tykm_33, tci_700, tsn_671, tyn_17, tcn_10, tzs_672, tzs_673, tzs_680, tzs_681, tzs_682, tzs_683, tzs_684, tzs_685, tzs_686, tzs_687, tzs_688, tzs_689, tzy_15, tzy_35, tzy_36, tzy_37, tzy_38, tzy_39, tzy_40, tzc_60, tzc_320, tzc_5, tzc_4, tzc_8]
            refine ⟨by omega, fun q => ?_, fun q => ?_⟩
            · refine tb_X12_pairs_217 (c := false) ?_
              simp only [kb_X12_pairs_217, w_inc10, tkl_n, tkl_i, tkl_l, tkl_r, w_goto, true_and, and_true, Nat.reduceAdd, Nat.reduceSub, eq_self]
              exact ih M3 a b c (k + 1) g _ r1 r2 r3 r4 k5 k6 (by omega) (by omega)
            obtain ⟨i1, i2, i3, i4⟩ := ps M3 r1 g r3 r4
            refine tc_i (D := 72) (fun d' hd' => o_canBe0 i1 i2 g1 i3 (by omega) (r2 _ (by omega) (by omega)) (by omega) (r2 _ (by omega) (by omega)) hd') (by omega) ?_
            rintro z M4 ⟨t1, t2, t3⟩
            have v4 : vE (fun _ => True) M1 M4 := vE_tr r1 (vE_mono t2 (fun _ _ => trivial))
            have o4 : AO M4 := AO_v r2 t2 (fun _ q => q)
            try simp only [kb_X12_pairs_158, w_ild11, w_ild8, w_ic_ge, w_ild9, w_ald_0, w_ild_1, w_bi, w_ild10, w_iadd, w_iv3, tfr_0, tfr_1, tfr_2, tfr_3, tfr_4, w_if_eq, w_ild_2, w_ic, w_goto, true_and, and_true, Nat.reduceAdd, Nat.reduceSub, eq_self, tshm_14, tshm_31, tshm_32, tykm_31, tykm_32, tci_15, tci_960, tykm_14, tci_14, tshm_667, tshm_668, tshm_669, tshm_670, tykm_33, tci_700, tsn_671, tyn_17, tcn_10, tzs_672, tzs_673, tzs_680, tzs_681, tzs_682, tzs_683, tzs_684, tzs_685, tzs_686, tzs_687, tzs_688, tzs_689, tzy_15, tzy_35, tzy_36, tzy_37, tzy_38, tzy_39, tzy_40, tzc_60, tzc_320, tzc_5, tzc_4, tzc_8]
            refine ⟨by omega, fun q => n207 M4 (by omega) v4 o4 t3, fun q => ?_⟩
            obtain ⟨j1, j2, j3, j4⟩ := ps M4 v4 61 t3 (by omega)
            refine tc_i (D := 72) (fun d' hd' => o_canBe0 j1 j2 g2 j4 (by omega) (o4 _ (by omega) (by omega)) (by omega) (o4 _ (by omega) (by omega)) hd') (by omega) ?_
            rintro z2 M5 ⟨w1, w2, w3⟩
            have v5 : vE (fun _ => True) M1 M5 := vE_tr v4 (vE_mono w2 (fun _ _ => trivial))
            have o5 : AO M5 := AO_v o4 w2 (fun _ q => q)
            try simp only [kb_X12_pairs_158, w_ild11, w_ild8, w_ic_ge, w_ild9, w_ald_0, w_ild_1, w_bi, w_ild10, w_iadd, w_iv3, tfr_0, tfr_1, tfr_2, tfr_3, tfr_4, w_if_eq, w_ild_2, w_ic, w_goto, true_and, and_true, Nat.reduceAdd, Nat.reduceSub, eq_self, tshm_14, tshm_31, tshm_32, tykm_31, tykm_32, tci_15, tci_960, tykm_14, tci_14, tshm_667, tshm_668, tshm_669, tshm_670, tykm_33, tci_700, tsn_671, tyn_17, tcn_10, tzs_672, tzs_673, tzs_680, tzs_681, tzs_682, tzs_683, tzs_684, tzs_685, tzs_686, tzs_687, tzs_688, tzs_689, tzy_15, tzy_35, tzy_36, tzy_37, tzy_38, tzy_39, tzy_40, tzc_60, tzc_320, tzc_5, tzc_4, tzc_8]
            exact ⟨by omega, fun q => n207 M5 (by omega) v5 o5 w3, fun q => n208 M5 1 (by omega) v5 o5 w3⟩
        refine tb_X12_pairs_148 (c := false) ?_
        simp only [kb_X12_pairs_148, w_ild10, w_ild7, w_ic_ge, w_ic, w_ist11, tkl_n, tkl_i, tkl_l, tkl_r, w_nil, true_and, and_true, Nat.reduceAdd, Nat.reduceSub, eq_self]
        refine ⟨by omega, fun q => n223 M2 _ _ _ _ _ k1 k2, fun q => ?_⟩
        exact n158 9 M2 c 0 g (by omega) k1 k2 k3 k4 (by omega) (by omega)
    have v0 : vE (fun _ => True) M1 (tU M1 664 11 60) := vE_free
    have f0 : tU M1 664 11 60 664 11 = 60 := tU_eq ..
    have o0 : AO (tU M1 664 11 60) := AO_v (T := fun _ => False) q1.1.2.2 vE_free (fun _ q => q.elim)
    refine tb_X12_pairs_113 (c := false) ?_
    simp only [kb_X12_pairs_113, w_ald_0, w_bi, w_pf_14_11, w_ild_3, w_ild5, w_iv3, tfr_0, tfr_1, tfr_2, tfr_3, tfr_4, w_ist7, tkl_n, tkl_i, tkl_l, tkl_r, w_ild4, w_ist8, w_ic, w_ist9, w_ist10, w_nil, true_and, and_true, Nat.reduceAdd, Nat.reduceSub, eq_self, tshm_14, tshm_31, tshm_32, tykm_31, tykm_32, tci_15, tci_960, tykm_14, tci_14, tshm_667, tshm_668, tshm_669, tshm_670, tykm_33, tci_700, tsn_671, tyn_17, tcn_10, tzs_672, tzs_673, tzs_680, tzs_681, tzs_682, tzs_683, tzs_684, tzs_685, tzs_686, tzs_687, tzs_688, tzs_689, tzy_15, tzy_35, tzy_36, tzy_37, tzy_38, tzy_39, tzy_40, tzc_60, tzc_320, tzc_5, tzc_4, tzc_8]
    generalize tU M1 664 11 60 = M2 at v0 f0 o0 ⊢
    refine tc_i (D := 4) (fun d' hd' => o_cutsInto (ps M2 v0 60 f0 (by omega)).1 (by omega) (by omega) (fun b b1 b2 => o0 b (by omega) (by omega)) (by omega) (o0 x3 (by omega) (by omega)) (by omega) hd') (by omega) ?_
    rintro a M3 ⟨a1, a2, a3⟩
    have v3 : vE (fun _ => True) M1 M3 := vE_tr v0 (vE_y (yE_mono a2.1 (fun _ _ => trivial)))
    have f3 := a2.2.trans f0
    have o3 := AO_c o0 a2 a3 (by omega)
    try simp only [kb_X12_pairs_113, w_ald_0, w_bi, w_pf_14_11, w_ild_3, w_ild5, w_iv3, tfr_0, tfr_1, tfr_2, tfr_3, tfr_4, w_ist7, tkl_n, tkl_i, tkl_l, tkl_r, w_ild4, w_ist8, w_ic, w_ist9, w_ist10, w_nil, true_and, and_true, Nat.reduceAdd, Nat.reduceSub, eq_self, tshm_14, tshm_31, tshm_32, tykm_31, tykm_32, tci_15, tci_960, tykm_14, tci_14, tshm_667, tshm_668, tshm_669, tshm_670, tykm_33, tci_700, tsn_671, tyn_17, tcn_10, tzs_672, tzs_673, tzs_680, tzs_681, tzs_682, tzs_683, tzs_684, tzs_685, tzs_686, tzs_687, tzs_688, tzs_689, tzy_15, tzy_35, tzy_36, tzy_37, tzy_38, tzy_39, tzy_40, tzc_60, tzc_320, tzc_5, tzc_4, tzc_8]
    refine tc_i (D := 4) (fun d' hd' => o_cutsInto (ps M3 v3 60 f3 (by omega)).1 (by omega) (by omega) (fun b b1 b2 => o3 b (by omega) (by omega)) (by omega) (o3 x4 (by omega) (by omega)) (by omega) hd') (by omega) ?_
    rintro b M4 ⟨b1, b2, b3⟩
    have v4 : vE (fun _ => True) M1 M4 := vE_tr v3 (vE_y (yE_mono b2.1 (fun _ _ => trivial)))
    have f4 := b2.2.trans f3
    have o4 := AO_c o3 b2 b3 (by omega)
    try simp only [kb_X12_pairs_113, w_ald_0, w_bi, w_pf_14_11, w_ild_3, w_ild5, w_iv3, tfr_0, tfr_1, tfr_2, tfr_3, tfr_4, w_ist7, tkl_n, tkl_i, tkl_l, tkl_r, w_ild4, w_ist8, w_ic, w_ist9, w_ist10, w_nil, true_and, and_true, Nat.reduceAdd, Nat.reduceSub, eq_self, tshm_14, tshm_31, tshm_32, tykm_31, tykm_32, tci_15, tci_960, tykm_14, tci_14, tshm_667, tshm_668, tshm_669, tshm_670, tykm_33, tci_700, tsn_671, tyn_17, tcn_10, tzs_672, tzs_673, tzs_680, tzs_681, tzs_682, tzs_683, tzs_684, tzs_685, tzs_686, tzs_687, tzs_688, tzs_689, tzy_15, tzy_35, tzy_36, tzy_37, tzy_38, tzy_39, tzy_40, tzc_60, tzc_320, tzc_5, tzc_4, tzc_8]
    exact n148 9 M4 a b 0 0 60 _ v4 o4 f4 (by omega) a1 b1 (by omega) (by omega)
  have n105 : ∀ (A : Int) (v : Int), (0 ≤ v ∧ v ≤ 3) → (v = 0 → (0 ≤ x1 ∧ x1 ≤ 3) ∧ (0 ≤ x2 ∧ x2 ≤ 3) ∧ (0 ≤ x3 ∧ x3 ≤ 9) ∧ (0 ≤ x4 ∧ x4 ≤ 9) ∧ (0 ≤ x5 ∧ x5 ≤ 2) ∧ M 687 x1 ≠ 0 ∧ M 687 x2 ≠ 0) → tT e d 3674 105 [some (.inr (.inr (.inl 664))), some (.inl (x1)), some (.inl (x2)), some (.inl (x3)), some (.inl (x4)), some (.inl (x5)), some (.inl (A)), none, none, none, none, none] [.inl v, .inr (.inr (.inl 664))] M n (tQi n (fun _ M' => MF M' D ∧ MC M M')) := by
    intro A v hv hv0
    refine tb_X12_pairs_105 (c := false) ?_
    simp only [kb_X12_pairs_105, w_iv1, tfr_0, tfr_1, tfr_2, tfr_3, tfr_4, w_if_eq, w_ic, w_ire, trg, true_and, and_true, Nat.reduceAdd, Nat.reduceSub, eq_self, tshm_14, tshm_31, tshm_32, tykm_31, tykm_32, tci_15, tci_960, tykm_14, tci_14, tshm_667, tshm_668, tshm_669, tshm_670, tykm_33, tci_700, tsn_671, tyn_17, tcn_10, tzs_672, tzs_673, tzs_680, tzs_681, tzs_682, tzs_683, tzs_684, tzs_685, tzs_686, tzs_687, tzs_688, tzs_689, tzy_15, tzy_35, tzy_36, tzy_37, tzy_38, tzy_39, tzy_40, tzc_60, tzc_320, tzc_5, tzc_4, tzc_8]
    refine tc_i (D := 0) (fun d' hd' => o_fails (by omega)) (by omega) ?_
    rintro z M2 ⟨q2, rfl⟩
    try simp only [kb_X12_pairs_105, w_iv1, tfr_0, tfr_1, tfr_2, tfr_3, tfr_4, w_if_eq, w_ic, w_ire, trg, true_and, and_true, Nat.reduceAdd, Nat.reduceSub, eq_self, tshm_14, tshm_31, tshm_32, tykm_31, tykm_32, tci_15, tci_960, tykm_14, tci_14, tshm_667, tshm_668, tshm_669, tshm_670, tykm_33, tci_700, tsn_671, tyn_17, tcn_10, tzs_672, tzs_673, tzs_680, tzs_681, tzs_682, tzs_683, tzs_684, tzs_685, tzs_686, tzs_687, tzs_688, tzs_689, tzy_15, tzy_35, tzy_36, tzy_37, tzy_38, tzy_39, tzy_40, tzc_60, tzc_320, tzc_5, tzc_4, tzc_8]
    have h6 := MF_3 (v := v) hP
    refine ⟨by omega, fun q => ?_, fun q => ⟨0, rfl, rfl, h6⟩⟩
    obtain ⟨g1, g2, g3, g4, g5, g6, g7⟩ := hv0 (by omega)
    exact n113 _ _ h6.1 h6.2 g1 g2 g3 g4 g5 (by rw [tU_nk (by decide)]; exact g6) (by rw [tU_nk (by decide)]; exact g7)
  have n100 : ∀ A : Int, tT e d 3674 100 [some (.inr (.inr (.inl 664))), some (.inl (x1)), some (.inl (x2)), some (.inl (x3)), some (.inl (x4)), some (.inl (x5)), some (.inl (A)), none, none, none, none, none] [.inr (.inr (.inl 664))] M n (tQi n (fun _ M' => MF M' D ∧ MC M M')) := by
    intro A
    refine tb_X12_pairs_100 (c := false) ?_
    simp only [kb_X12_pairs_100, w_ic, w_goto, true_and, and_true, Nat.reduceAdd, Nat.reduceSub, eq_self]
    exact n105 _ 3 (by omega) (fun q => absurd q (by decide))
  have n34 : ∀ v : Int, (v = 1 ∧ (0 ≤ x1 ∧ x1 ≤ 3) ∧ (0 ≤ x2 ∧ x2 ≤ 3) ∧ (0 ≤ x3 ∧ x3 ≤ 9) ∧ (0 ≤ x4 ∧ x4 ≤ 9) ∨ v = 0) → tT e d 3674 34 [some (.inr (.inr (.inl 664))), some (.inl (x1)), some (.inl (x2)), some (.inl (x3)), some (.inl (x4)), some (.inl (x5)), none, none, none, none, none, none] [.inl v] M n (tQi n (fun _ M' => MF M' D ∧ MC M M')) := by
    intro v hv
    have hvr : 0 ≤ v ∧ v ≤ 1 := by omega
    refine tb_X12_pairs_34 (c := false) ?_
    simp only [kb_X12_pairs_34, w_ist6, tkl_n, tkl_i, tkl_l, tkl_r, w_ald_0, w_ild6, w_if_ne, w_ic, w_goto, true_and, and_true, Nat.reduceAdd, Nat.reduceSub, eq_self]
    refine ⟨by omega, fun q => ?_, fun q => n105 _ 1 (by omega) (fun q => absurd q (by decide))⟩
    have hv : (0 ≤ x1 ∧ x1 ≤ 3) ∧ (0 ≤ x2 ∧ x2 ≤ 3) ∧ (0 ≤ x3 ∧ x3 ≤ 9) ∧ (0 ≤ x4 ∧ x4 ≤ 9) := by omega
    refine tb_X12_pairs_46 (c := false) ?_
    simp only [kb_X12_pairs_46, w_ild5, w_i2l, w_lc0, w_ld2, w_is3, tfr_0, tfr_1, tfr_2, tfr_3, tfr_4, w_if_ne, w_ic, w_goto, true_and, and_true, Nat.reduceAdd, Nat.reduceSub, eq_self]
    refine ⟨by omega, ?_⟩
    refine tc_i (D := 0) (fun d' hd' => c_in (by omega) (by omega) (by omega)) (by omega) ?_
    rintro z3 M3 ⟨q3, rfl⟩
    try simp only [kb_X12_pairs_46, w_ild5, w_i2l, w_lc0, w_ld2, w_is3, tfr_0, tfr_1, tfr_2, tfr_3, tfr_4, w_if_ne, w_ic, w_goto, true_and, and_true, Nat.reduceAdd, Nat.reduceSub, eq_self]
    have hz3 : 0 ≤ z3 ∧ z3 ≤ 1 := by omega
    refine ⟨by omega, fun q => ?_, fun q => n105 _ 2 (by omega) (fun q => absurd q (by decide))⟩
    have g1 := hP.2.2.1 x1 (by omega) (by omega)
    have g2 := hP.2.2.1 x2 (by omega) (by omega)
    have k3 := hP.1.2.1.2.2 x3 (by omega) (by omega)
    have k4 := hP.1.2.1.2.2 x4 (by omega) (by omega)
    have g1 := g1.1
    have g2 := g2.1
    refine tb_X12_pairs_63 (c := false) ?_
    simp only [kb_X12_pairs_63, w_ald_0, w_gf_14_33, tw_f, w_ild_1, w_ba, w_if_eq, w_ild_2, w_gf_14_10, w_ild_3, w_ild4, w_if_ne, w_nil, true_and, and_true, Nat.reduceAdd, Nat.reduceSub, eq_self, tshm_14, tshm_31, tshm_32, tykm_31, tykm_32, tci_15, tci_960, tykm_14, tci_14, tshm_667, tshm_668, tshm_669, tshm_670, tykm_33, tci_700, tsn_671, tyn_17, tcn_10, tzs_672, tzs_673, tzs_680, tzs_681, tzs_682, tzs_683, tzs_684, tzs_685, tzs_686, tzs_687, tzs_688, tzs_689, tzy_15, tzy_35, tzy_36, tzy_37, tzy_38, tzy_39, tzy_40, tzc_60, tzc_320, tzc_5, tzc_4, tzc_8]
    refine ⟨by omega, by omega, fun q => n100 _, fun q => ⟨by omega, by omega, fun q => n100 _, fun q => ⟨by omega, by omega, fun q => n100 _, fun q => ⟨by omega, by omega, fun q => ?_, fun q => n100 _⟩⟩⟩⟩
    refine tb_X12_pairs_104 (c := false) ?_
    simp only [kb_X12_pairs_104, w_ic, w_nil, true_and, and_true, Nat.reduceAdd, Nat.reduceSub, eq_self]
    exact n105 _ 0 (by omega) (fun _ => by omega)
  have n33 : tT e d 3674 33 [some (.inr (.inr (.inl 664))), some (.inl (x1)), some (.inl (x2)), some (.inl (x3)), some (.inl (x4)), some (.inl (x5)), none, none, none, none, none, none] [] M n (tQi n (fun _ M' => MF M' D ∧ MC M M')) := by
    refine tb_X12_pairs_33 (c := false) ?_
    simp only [kb_X12_pairs_33, w_ic, w_nil, true_and, and_true, Nat.reduceAdd, Nat.reduceSub, eq_self]
    exact n34 0 (Or.inr rfl)
  refine tb_X12_pairs_0 (c := false) ?_
  simp only [kb_X12_pairs_0, w_ild_3, w_is1, tfr_0, tfr_1, tfr_2, tfr_3, tfr_4, w_if_eq, w_ild4, w_ild_1, w_ild_2, w_ic, w_goto, true_and, and_true, Nat.reduceAdd, Nat.reduceSub, eq_self]
  refine tc_i (D := 1) (fun d' hd' => o_isShelf h3 hd') (by omega) ?_
  rintro z1 M1 ⟨q1, rfl⟩
  try simp only [kb_X12_pairs_0, w_ild_3, w_is1, tfr_0, tfr_1, tfr_2, tfr_3, tfr_4, w_if_eq, w_ild4, w_ild_1, w_ild_2, w_ic, w_goto, true_and, and_true, Nat.reduceAdd, Nat.reduceSub, eq_self]
  refine ⟨by omega, fun q => n33, fun q => ?_⟩
  refine tc_i (D := 1) (fun d' hd' => o_isShelf h4 hd') (by omega) ?_
  rintro z2 M1 ⟨q2, rfl⟩
  try simp only [kb_X12_pairs_0, w_ild_3, w_is1, tfr_0, tfr_1, tfr_2, tfr_3, tfr_4, w_if_eq, w_ild4, w_ild_1, w_ild_2, w_ic, w_goto, true_and, and_true, Nat.reduceAdd, Nat.reduceSub, eq_self]
  refine ⟨by omega, fun q => n33, fun q => ?_⟩
  refine tc_i (D := 1) (fun d' hd' => o_isFormula h1 hd') (by omega) ?_
  rintro z3 M1 ⟨q3, rfl⟩
  try simp only [kb_X12_pairs_0, w_ild_3, w_is1, tfr_0, tfr_1, tfr_2, tfr_3, tfr_4, w_if_eq, w_ild4, w_ild_1, w_ild_2, w_ic, w_goto, true_and, and_true, Nat.reduceAdd, Nat.reduceSub, eq_self]
  refine ⟨by omega, fun q => n33, fun q => ?_⟩
  refine tc_i (D := 1) (fun d' hd' => o_isFormula h2 hd') (by omega) ?_
  rintro z4 M1 ⟨q4, rfl⟩
  try simp only [kb_X12_pairs_0, w_ild_3, w_is1, tfr_0, tfr_1, tfr_2, tfr_3, tfr_4, w_if_eq, w_ild4, w_ild_1, w_ild_2, w_ic, w_goto, true_and, and_true, Nat.reduceAdd, Nat.reduceSub, eq_self]
  exact ⟨by omega, fun q => n33, fun q => n34 1 (Or.inl ⟨rfl, by omega, by omega, by omega, by omega⟩)⟩
end MODEL
