/-! THE MODEL: least and greatest. -/

section MODEL
variable {e : tE} {d n D : Nat} {M : tM}
/-- box 60 on its way: what the piece came to is [LX, HX] -/
def XP (M : tM) (mo k LX HX : Int) : Prop := (mo = 1 → (HX ≤ zhi M 60 ∧ zhi M 60 ≤ 10000000000000000000000) ∧ (0 < k → zlo M 60 ≤ zhi M 60 ∧ -10000000000000000000000 ≤ zlo M 60)) ∧ (mo = 0 → (zlo M 60 ≤ LX ∧ -10000000000000000000000 ≤ zlo M 60) ∧ (0 < k → zlo M 60 ≤ zhi M 60 ∧ zhi M 60 ≤ 10000000000000000000000))
theorem cz_r {z x y : Int} (h : z = cmpz x y) : (-1 ≤ z ∧ z ≤ 1) ∧ (z ≤ 0 → x ≤ y) ∧ (0 ≤ z → y ≤ x) := by
  refine ⟨by rw [h]; exact cmpz_r _ _, fun q => ?_, fun q => ?_⟩
  · rw [h, cmpz_le] at q; exact q
  · rw [h, cmpz_ge] at q; exact q
theorem o_extreme {fo a cu mo g : Int} (h : MB M D g) (hF : FI M) (hO : AO M) (hf : 0 ≤ fo ∧ fo ≤ 3) (hu : M 687 fo ≠ 0) (ha : 0 ≤ a ∧ a ≤ 9) (hs : 0 ≤ cu ∧ cu ≤ 3) (hm : mo = 0 ∨ mo = 1) (hd : 72 ≤ d) : tC e d 3613 [.inr (.inr (.inl 664)), .inl 60, .inl fo, .inl a, .inl cu, .inl mo] M n (tQi n (fun z M' => OK3 z M' 60 ∧ vE (fun _ => True) M M' ∧ AO M' ∧ M' 664 11 = 63)) := by
  refine tst_X12_extreme ?_
  have hmr : 0 ≤ mo ∧ mo ≤ 1 := by omega
  have hm : Hid (mo = 0 ∨ mo = 1) := hm
  have ps : ∀ M2 : tM, vE (fun _ => True) M M2 → M2 664 11 = 63 → MB M2 D 63 ∧ FI M2 ∧ M2 687 fo ≠ 0 ∧ BM M M2 := fun M2 k1 k2 => ⟨MB_v h k1 k2 (by omega), FI_v hF k1, by rw [vE_k k1 687 fo (by omega)]; exact hu, fun k i g => vE_k k1 k i (by omega)⟩
  have cz : ∀ M2 : tM, vE (fun _ => True) M M2 → M2 664 11 = 63 → bcan M2 60 ∧ bcan M2 61 := fun M2 k1 k2 => ⟨(ps M2 k1 k2).1.2.2.2.2.1 60 (by omega) (by omega), (ps M2 k1 k2).1.2.2.2.2.1 61 (by omega) (by omega)⟩
  have n28 : ∀ (fu : Nat) (M1 : tM) (m k : Int) (A B : Option tV), vE (fun _ => True) M M1 → AO M1 → M1 664 11 = 63 → (1 ≤ m ∧ m ≤ 8) → (0 ≤ k ∧ k ≤ m) → m - k < (fu : Int) → (0 < k → OB M1 60) → tT e d 3613 28 [some (.inr (.inr (.inl 664))), some (.inl (60)), some (.inl (fo)), some (.inl (a)), some (.inl (cu)), some (.inl (mo)), some (.inl (61)), some (.inl (62)), some (.inl (m)), some (.inl (k)), A, B] [] M1 n (tQi n (fun z M' => OK3 z M' 60 ∧ vE (fun _ => True) M M' ∧ AO M' ∧ M' 664 11 = 63)) := by
    intro fu
    induction fu with
    | zero => intro M1 m k A B a1 a2 a3 a4 a5 a6 a7; exfalso; omega
    | succ fu ih =>
      intro M1 m k A B a1 a2 a3 a4 a5 a6 a7
      have n400 : ∀ (M2 : tM) (z w : Int), k < m → vE (fun _ => True) M M2 → AO M2 → M2 664 11 = 63 → OB M2 60 → tT e d 3613 400 [some (.inr (.inr (.inl 664))), some (.inl (60)), some (.inl (fo)), some (.inl (a)), some (.inl (cu)), some (.inl (mo)), some (.inl (61)), some (.inl (62)), some (.inl (m)), some (.inl (k)), some (.inl (z)), some (.inl (w))] [] M2 n (tQi n (fun z M' => OK3 z M' 60 ∧ vE (fun _ => True) M M' ∧ AO M' ∧ M' 664 11 = 63)) := by
        intro M2 z w hk b1 b2 b3 b4
        refine tb_X12_extreme_400 (c := false) ?_
        simp only [kb_X12_extreme_400, w_inc9, tkl_n, tkl_i, tkl_l, tkl_r, w_goto, true_and, and_true, Nat.reduceAdd, Nat.reduceSub, eq_self]
        exact ih M2 m (k + 1) _ _ b1 b2 b3 a4 (by omega) (by omega) (fun _ => b4)
      -- the middle's bounds: [LM, HM] in box 61
      have n340 : ∀ (M2 : tM) (z w LX HX : Int) (W : Option tV), k < m → vE (fun _ => True) M M2 → AO M2 → M2 664 11 = 63 → OB M2 61 → LX ≤ zhi M2 61 → zlo M2 61 ≤ HX → XP M2 mo k LX HX → (0 ≤ w ∧ w ≤ 1) → (w = 0 → 0 < k) → tT e d 3613 340 [some (.inr (.inr (.inl 664))), some (.inl (60)), some (.inl (fo)), some (.inl (a)), some (.inl (cu)), some (.inl (mo)), some (.inl (61)), some (.inl (62)), some (.inl (m)), some (.inl (k)), some (.inl (z)), W] [.inl w] M2 n (tQi n (fun z M' => OK3 z M' 60 ∧ vE (fun _ => True) M M' ∧ AO M' ∧ M' 664 11 = 63)) := by
        intro M2 z w LX HX W hk b1 b2 b3 b4 b5 b6 b7 b8 b9
        obtain ⟨c60, c61⟩ := cz M2 b1 b3
        have d60 := c60
        have d61 := c61
        have o61 := b4
        unfold bcan at d60 d61
        unfold OB at o61
        unfold XP at b7
        have n371 : ∀ w' : Int, (0 ≤ w' ∧ w' ≤ 1) → (w' = 0 ∧ OB M2 60 ∨ w' = 1 ∧ mo = 0) → tT e d 3613 371 [some (.inr (.inr (.inl 664))), some (.inl (60)), some (.inl (fo)), some (.inl (a)), some (.inl (cu)), some (.inl (mo)), some (.inl (61)), some (.inl (62)), some (.inl (m)), some (.inl (k)), some (.inl (z)), some (.inl (w'))] [] M2 n (tQi n (fun z M' => OK3 z M' 60 ∧ vE (fun _ => True) M M' ∧ AO M' ∧ M' 664 11 = 63)) := by
          intro w' h1 h2
          refine tb_X12_extreme_371 (c := false) ?_
          simp only [kb_X12_extreme_371, w_ild11, w_if_eq, w_ild5, w_if_ne, w_ald_0, w_ild_1, w_gf_14_8, tw_f, w_ild6, w_la, w_lax, w_gf_14_9, w_iv3, tfr_0, tfr_1, tfr_2, tfr_3, tfr_4, w_nil, true_and, and_true, Nat.reduceAdd, Nat.reduceSub, eq_self, tshm_14, tshm_31, tshm_32, tykm_31, tykm_32, tci_15, tci_960, tykm_14, tci_14, tshm_667, tshm_668, tshm_669, tshm_670, tykm_33, tci_700, tsn_671, tyn_17, tcn_10, tzs_672, tzs_673, tzs_680, tzs_681, tzs_682, tzs_683, tzs_684, tzs_685, tzs_686, tzs_687, tzs_688, tzs_689, tzy_15, tzy_35, tzy_36, tzy_37, tzy_38, tzy_39, tzy_40, tzc_60, tzc_320, tzc_5, tzc_4, tzc_8]
          refine ⟨by omega, fun q => n400 M2 z _ hk b1 b2 b3 (by rcases h2 with h2 | h2; exact h2.2; exfalso; omega), fun q => ⟨by omega, fun q2 => by exfalso; omega, fun q2 => ⟨by omega, by omega, ?_⟩⟩⟩
          refine tc_n (D := 0) (fun d' _ => c_high (by omega)) (by omega) ?_
          rintro _ rfl
          have x1 : xE (fun r => r = 60) M2 (sHi M2 60 (M2 669 61) (M2 670 61)) := sHi_xE rfl d61.1.2 (by omega)
          have o1 : OB (sHi M2 60 (M2 669 61) (M2 670 61)) 60 := by
            have e1 : zhi M2 61 = M2 669 61 * 1000000000 + M2 670 61 := rfl
            have b7 := b7.2 (by omega)
            unfold OB
            rw [sHi_lo, sHi_hi, ← e1]
            omega
          try simp only [kb_X12_extreme_371, w_ild11, w_if_eq, w_ild5, w_if_ne, w_ald_0, w_ild_1, w_gf_14_8, tw_f, w_ild6, w_la, w_lax, w_gf_14_9, w_iv3, tfr_0, tfr_1, tfr_2, tfr_3, tfr_4, w_nil, true_and, and_true, Nat.reduceAdd, Nat.reduceSub, eq_self, tshm_14, tshm_31, tshm_32, tykm_31, tykm_32, tci_15, tci_960, tykm_14, tci_14, tshm_667, tshm_668, tshm_669, tshm_670, tykm_33, tci_700, tsn_671, tyn_17, tcn_10, tzs_672, tzs_673, tzs_680, tzs_681, tzs_682, tzs_683, tzs_684, tzs_685, tzs_686, tzs_687, tzs_688, tzs_689, tzy_15, tzy_35, tzy_36, tzy_37, tzy_38, tzy_39, tzy_40, tzc_60, tzc_320, tzc_5, tzc_4, tzc_8]
          exact n400 _ z _ hk (vE_tr b1 (vE_y (yE_mono x1.1 (fun _ _ => trivial)))) (AO_v b2 (vE_y x1.1) (fun r q => by omega)) (x1.2.trans b3) o1
        have o60 : w = 0 → OB M2 60 := by
          intro g
          have hm : mo = 0 ∨ mo = 1 := hm
          have k0 := b9 g
          unfold OB
          rcases hm with hm | hm
          · have b7 := b7.2 hm
            omega
          · have b7 := b7.1 hm
            omega
        refine tb_X12_extreme_340 (c := false) ?_
        simp only [kb_X12_extreme_340, w_ist11, tkl_n, tkl_i, tkl_l, tkl_r, w_ild11, w_if_eq, w_ild5, w_ald_0, w_ild_1, w_gf_14_6, tw_f, w_ild6, w_la, w_lax, w_gf_14_7, w_iv3, tfr_0, tfr_1, tfr_2, tfr_3, tfr_4, w_nil, true_and, and_true, Nat.reduceAdd, Nat.reduceSub, eq_self, tshm_14, tshm_31, tshm_32, tykm_31, tykm_32, tci_15, tci_960, tykm_14, tci_14, tshm_667, tshm_668, tshm_669, tshm_670, tykm_33, tci_700, tsn_671, tyn_17, tcn_10, tzs_672, tzs_673, tzs_680, tzs_681, tzs_682, tzs_683, tzs_684, tzs_685, tzs_686, tzs_687, tzs_688, tzs_689, tzy_15, tzy_35, tzy_36, tzy_37, tzy_38, tzy_39, tzy_40, tzc_60, tzc_320, tzc_5, tzc_4, tzc_8]
        refine ⟨by omega, fun q => n371 w b8 (Or.inl ⟨q, o60 q⟩), fun q => ⟨by omega, fun q2 => n371 w b8 (Or.inr ⟨by omega, q2⟩), fun q2 => ⟨by omega, by omega, ?_⟩⟩⟩
        have m1 : mo = 1 := by omega
        have b7 := b7.1 m1
        refine tc_n (D := 0) (fun d' _ => c_low (by omega)) (by omega) ?_
        rintro _ rfl
        have x1 : xE (fun r => r = 60) M2 (sLo M2 60 (M2 667 61) (M2 668 61)) := sLo_xE rfl d61.1.1 (by omega)
        have o1 : OB (sLo M2 60 (M2 667 61) (M2 668 61)) 60 := by
          have e1 : zlo M2 61 = M2 667 61 * 1000000000 + M2 668 61 := rfl
          unfold OB
          rw [sLo_lo, sLo_hi, ← e1]
          omega
        have v1 : vE (fun _ => True) M (sLo M2 60 (M2 667 61) (M2 668 61)) := vE_tr b1 (vE_y (yE_mono x1.1 (fun _ _ => trivial)))
        have A1 : AO (sLo M2 60 (M2 667 61) (M2 668 61)) := AO_v b2 (vE_y x1.1) (fun r q => by omega)
        have f1 := x1.2.trans b3
        generalize sLo M2 60 (M2 667 61) (M2 668 61) = M3 at v1 A1 f1 o1 ⊢
        try simp only [kb_X12_extreme_340, w_ist11, tkl_n, tkl_i, tkl_l, tkl_r, w_ild11, w_if_eq, w_ild5, w_ald_0, w_ild_1, w_gf_14_6, tw_f, w_ild6, w_la, w_lax, w_gf_14_7, w_iv3, tfr_0, tfr_1, tfr_2, tfr_3, tfr_4, w_nil, true_and, and_true, Nat.reduceAdd, Nat.reduceSub, eq_self, tshm_14, tshm_31, tshm_32, tykm_31, tykm_32, tci_15, tci_960, tykm_14, tci_14, tshm_667, tshm_668, tshm_669, tshm_670, tykm_33, tci_700, tsn_671, tyn_17, tcn_10, tzs_672, tzs_673, tzs_680, tzs_681, tzs_682, tzs_683, tzs_684, tzs_685, tzs_686, tzs_687, tzs_688, tzs_689, tzy_15, tzy_35, tzy_36, tzy_37, tzy_38, tzy_39, tzy_40, tzc_60, tzc_320, tzc_5, tzc_4, tzc_8]
        refine tb_X12_extreme_371 (c := false) ?_
        simp only [kb_X12_extreme_371, w_ild11, w_if_eq, w_ild5, w_if_ne, w_ald_0, w_ild_1, w_gf_14_8, tw_f, w_ild6, w_la, w_lax, w_gf_14_9, w_iv3, tfr_0, tfr_1, tfr_2, tfr_3, tfr_4, w_nil, true_and, and_true, Nat.reduceAdd, Nat.reduceSub, eq_self, tshm_14, tshm_31, tshm_32, tykm_31, tykm_32, tci_15, tci_960, tykm_14, tci_14, tshm_667, tshm_668, tshm_669, tshm_670, tykm_33, tci_700, tsn_671, tyn_17, tcn_10, tzs_672, tzs_673, tzs_680, tzs_681, tzs_682, tzs_683, tzs_684, tzs_685, tzs_686, tzs_687, tzs_688, tzs_689, tzy_15, tzy_35, tzy_36, tzy_37, tzy_38, tzy_39, tzy_40, tzc_60, tzc_320, tzc_5, tzc_4, tzc_8]
        exact ⟨by omega, fun q => n400 M3 z _ hk v1 A1 f1 o1, fun q => ⟨by omega, fun q2 => n400 M3 z _ hk v1 A1 f1 o1, fun q2 => by exfalso; omega⟩⟩
      have n248 : ∀ (M2 : tM) (z LX HX : Int) (W : Option tV), k < m → vE (fun _ => True) M M2 → AO M2 → M2 664 11 = 63 → OB M2 61 → LX ≤ zhi M2 61 → zlo M2 61 ≤ HX → XP M2 mo k LX HX → tT e d 3613 248 [some (.inr (.inr (.inl 664))), some (.inl (60)), some (.inl (fo)), some (.inl (a)), some (.inl (cu)), some (.inl (mo)), some (.inl (61)), some (.inl (62)), some (.inl (m)), some (.inl (k)), some (.inl (z)), W] [] M2 n (tQi n (fun z M' => OK3 z M' 60 ∧ vE (fun _ => True) M M' ∧ AO M' ∧ M' 664 11 = 63)) := by
        intro M2 z LX HX W hk b1 b2 b3 b4 b5 b6 b7
        obtain ⟨c60, c61⟩ := cz M2 b1 b3
        have d60 := c60
        have d61 := c61
        unfold bcan at d60 d61
        have n290 : tT e d 3613 290 [some (.inr (.inr (.inl 664))), some (.inl (60)), some (.inl (fo)), some (.inl (a)), some (.inl (cu)), some (.inl (mo)), some (.inl (61)), some (.inl (62)), some (.inl (m)), some (.inl (k)), some (.inl (z)), W] [] M2 n (tQi n (fun z M' => OK3 z M' 60 ∧ vE (fun _ => True) M M' ∧ AO M' ∧ M' 664 11 = 63)) := by
          refine tb_X12_extreme_290 (c := false) ?_
          simp only [kb_X12_extreme_290, w_ic, w_goto, true_and, and_true, Nat.reduceAdd, Nat.reduceSub, eq_self]
          exact n340 M2 z 1 LX HX _ hk b1 b2 b3 b4 b5 b6 b7 (by omega) (by omega)
        have n294 : 0 < k → tT e d 3613 294 [some (.inr (.inr (.inl 664))), some (.inl (60)), some (.inl (fo)), some (.inl (a)), some (.inl (cu)), some (.inl (mo)), some (.inl (61)), some (.inl (62)), some (.inl (m)), some (.inl (k)), some (.inl (z)), W] [] M2 n (tQi n (fun z M' => OK3 z M' 60 ∧ vE (fun _ => True) M M' ∧ AO M' ∧ M' 664 11 = 63)) := by
          intro k0
          refine tb_X12_extreme_294 (c := false) ?_
          simp only [kb_X12_extreme_294, w_ic, w_goto, true_and, and_true, Nat.reduceAdd, Nat.reduceSub, eq_self]
          exact n340 M2 z 0 LX HX _ hk b1 b2 b3 b4 b5 b6 b7 (by omega) (fun _ => k0)
        have n335 : tT e d 3613 335 [some (.inr (.inr (.inl 664))), some (.inl (60)), some (.inl (fo)), some (.inl (a)), some (.inl (cu)), some (.inl (mo)), some (.inl (61)), some (.inl (62)), some (.inl (m)), some (.inl (k)), some (.inl (z)), W] [] M2 n (tQi n (fun z M' => OK3 z M' 60 ∧ vE (fun _ => True) M M' ∧ AO M' ∧ M' 664 11 = 63)) := by
          refine tb_X12_extreme_335 (c := false) ?_
          simp only [kb_X12_extreme_335, w_ic, w_goto, true_and, and_true, Nat.reduceAdd, Nat.reduceSub, eq_self]
          exact n340 M2 z 1 LX HX _ hk b1 b2 b3 b4 b5 b6 b7 (by omega) (by omega)
        have n339 : 0 < k → tT e d 3613 339 [some (.inr (.inr (.inl 664))), some (.inl (60)), some (.inl (fo)), some (.inl (a)), some (.inl (cu)), some (.inl (mo)), some (.inl (61)), some (.inl (62)), some (.inl (m)), some (.inl (k)), some (.inl (z)), W] [] M2 n (tQi n (fun z M' => OK3 z M' 60 ∧ vE (fun _ => True) M M' ∧ AO M' ∧ M' 664 11 = 63)) := by
          intro k0
          refine tb_X12_extreme_339 (c := false) ?_
          simp only [kb_X12_extreme_339, w_ic, w_nil, true_and, and_true, Nat.reduceAdd, Nat.reduceSub, eq_self]
          exact n340 M2 z 0 LX HX _ hk b1 b2 b3 b4 b5 b6 b7 (by omega) (fun _ => k0)
        refine tb_X12_extreme_248 (c := false) ?_
        simp only [kb_X12_extreme_248, w_ild5, w_if_eq, w_ild9, w_ald_0, w_gf_14_6, tw_f, w_ild6, w_la, w_lax, w_gf_14_7, w_ild_1, w_is4, tfr_0, tfr_1, tfr_2, tfr_3, tfr_4, w_if_le, w_nil, true_and, and_true, Nat.reduceAdd, Nat.reduceSub, eq_self, tshm_14, tshm_31, tshm_32, tykm_31, tykm_32, tci_15, tci_960, tykm_14, tci_14, tshm_667, tshm_668, tshm_669, tshm_670, tykm_33, tci_700, tsn_671, tyn_17, tcn_10, tzs_672, tzs_673, tzs_680, tzs_681, tzs_682, tzs_683, tzs_684, tzs_685, tzs_686, tzs_687, tzs_688, tzs_689, tzy_15, tzy_35, tzy_36, tzy_37, tzy_38, tzy_39, tzy_40, tzc_60, tzc_320, tzc_5, tzc_4, tzc_8]
        refine ⟨by omega, fun q => ?_, fun q => ⟨by omega, fun q2 => n290, fun q2 => ⟨by omega, by omega, by omega, by omega, ?_⟩⟩⟩
        · refine tb_X12_extreme_298 (c := false) ?_
          simp only [kb_X12_extreme_298, w_ild9, w_if_eq, w_ald_0, w_gf_14_8, tw_f, w_ild6, w_la, w_lax, w_gf_14_9, w_ild_1, w_is4, tfr_0, tfr_1, tfr_2, tfr_3, tfr_4, w_if_ge, w_nil, true_and, and_true, Nat.reduceAdd, Nat.reduceSub, eq_self, tshm_14, tshm_31, tshm_32, tykm_31, tykm_32, tci_15, tci_960, tykm_14, tci_14, tshm_667, tshm_668, tshm_669, tshm_670, tykm_33, tci_700, tsn_671, tyn_17, tcn_10, tzs_672, tzs_673, tzs_680, tzs_681, tzs_682, tzs_683, tzs_684, tzs_685, tzs_686, tzs_687, tzs_688, tzs_689, tzy_15, tzy_35, tzy_36, tzy_37, tzy_38, tzy_39, tzy_40, tzc_60, tzc_320, tzc_5, tzc_4, tzc_8]
          refine ⟨by omega, fun q2 => n335, fun q2 => ⟨by omega, by omega, by omega, by omega, ?_⟩⟩
          refine tc_i (D := 0) (fun d' hd' => c_order (by omega) (by omega) (by omega) (by omega)) (by omega) ?_
          rintro z2 M3 ⟨r1, rfl⟩
          have hz2 := cz_r r1
          try simp only [kb_X12_extreme_298, w_ild9, w_if_eq, w_ald_0, w_gf_14_8, tw_f, w_ild6, w_la, w_lax, w_gf_14_9, w_ild_1, w_is4, tfr_0, tfr_1, tfr_2, tfr_3, tfr_4, w_if_ge, w_nil, true_and, and_true, Nat.reduceAdd, Nat.reduceSub, eq_self, tshm_14, tshm_31, tshm_32, tykm_31, tykm_32, tci_15, tci_960, tykm_14, tci_14, tshm_667, tshm_668, tshm_669, tshm_670, tykm_33, tci_700, tsn_671, tyn_17, tcn_10, tzs_672, tzs_673, tzs_680, tzs_681, tzs_682, tzs_683, tzs_684, tzs_685, tzs_686, tzs_687, tzs_688, tzs_689, tzy_15, tzy_35, tzy_36, tzy_37, tzy_38, tzy_39, tzy_40, tzc_60, tzc_320, tzc_5, tzc_4, tzc_8]
          exact ⟨by omega, fun q3 => n339 (by omega), fun q3 => n335⟩
        · refine tc_i (D := 0) (fun d' hd' => c_order (by omega) (by omega) (by omega) (by omega)) (by omega) ?_
          rintro z2 M3 ⟨r1, rfl⟩
          have hz2 := cz_r r1
          try simp only [kb_X12_extreme_248, w_ild5, w_if_eq, w_ild9, w_ald_0, w_gf_14_6, tw_f, w_ild6, w_la, w_lax, w_gf_14_7, w_ild_1, w_is4, tfr_0, tfr_1, tfr_2, tfr_3, tfr_4, w_if_le, w_nil, true_and, and_true, Nat.reduceAdd, Nat.reduceSub, eq_self, tshm_14, tshm_31, tshm_32, tykm_31, tykm_32, tci_15, tci_960, tykm_14, tci_14, tshm_667, tshm_668, tshm_669, tshm_670, tykm_33, tci_700, tsn_671, tyn_17, tcn_10, tzs_672, tzs_673, tzs_680, tzs_681, tzs_682, tzs_683, tzs_684, tzs_685, tzs_686, tzs_687, tzs_688, tzs_689, tzy_15, tzy_35, tzy_36, tzy_37, tzy_38, tzy_39, tzy_40, tzc_60, tzc_320, tzc_5, tzc_4, tzc_8]
          exact ⟨by omega, fun q3 => n294 (by omega), fun q3 => n290⟩
      have n215 : ∀ (M2 : tM) (z LX HX xl xh : Int) (W : Int), k < m → vE (fun _ => True) M M2 → AO M2 → M2 664 11 = 63 → XP M2 mo k LX HX → EV M D (zlo M2 (30 + k)) (zhi M2 (30 + k)) (zlo M2 (30 + k)) (zhi M2 (30 + k)) 61 (M 685 fo) LX HX → tT e d 3613 215 [some (.inr (.inr (.inl 664))), some (.inl (60)), some (.inl (fo)), some (.inl (a)), some (.inl (cu)), some (.inl (mo)), some (.inl (61)), some (.inl (62)), some (.inl (m)), some (.inl (k)), some (.inl (z)), some (.inl (W))] [] M2 n (tQi n (fun z M' => OK3 z M' 60 ∧ vE (fun _ => True) M M' ∧ AO M' ∧ M' 664 11 = 63)) := by
        intro M2 z LX HX xl xh W hk b1 b2 b3 b7 bE
        obtain ⟨i1, i2, i3, i4⟩ := ps M2 b1 b3
        have ok := b2 (30 + k) (by omega) (by omega)
        refine tb_X12_extreme_215 (c := false) ?_
        simp only [kb_X12_extreme_215, w_ald_0, w_ild7, w_bi, w_ild9, w_iadd, w_iv2, tfr_0, tfr_1, tfr_2, tfr_3, tfr_4, w_ild6, w_ild_2, w_ic, w_iv5, w_ist10, tkl_n, tkl_i, tkl_l, tkl_r, w_ild10, w_if_le, w_ire, trg, true_and, and_true, Nat.reduceAdd, Nat.reduceSub, eq_self, tshm_14, tshm_31, tshm_32, tykm_31, tykm_32, tci_15, tci_960, tykm_14, tci_14, tshm_667, tshm_668, tshm_669, tshm_670, tykm_33, tci_700, tsn_671, tyn_17, tcn_10, tzs_672, tzs_673, tzs_680, tzs_681, tzs_682, tzs_683, tzs_684, tzs_685, tzs_686, tzs_687, tzs_688, tzs_689, tzy_15, tzy_35, tzy_36, tzy_37, tzy_38, tzy_39, tzy_40, tzc_60, tzc_320, tzc_5, tzc_4, tzc_8]
        refine tc_n (D := 2) (fun d' hd' => o_middle i1 (by omega) (by omega) ok hd') (by omega) ?_
        rintro M3 ⟨r1, ⟨r2, r3⟩, r4⟩
        have v3 : vE (fun _ => True) M M3 := vE_tr b1 (vE_y (yE_mono r1.1 (fun _ _ => trivial)))
        have f3 := r1.2.trans b3
        have A3 : AO M3 := AO_v b2 (vE_y r1.1) (fun r q => by omega)
        have o3 : OB M3 62 := by
          unfold OB at ok ⊢
          omega
        obtain ⟨j1, j2, j3, j4⟩ := ps M3 v3 f3
        have e85 : M3 685 fo = M 685 fo := vE_k v3 685 fo (by omega)
        try simp only [kb_X12_extreme_215, w_ald_0, w_ild7, w_bi, w_ild9, w_iadd, w_iv2, tfr_0, tfr_1, tfr_2, tfr_3, tfr_4, w_ild6, w_ild_2, w_ic, w_iv5, w_ist10, tkl_n, tkl_i, tkl_l, tkl_r, w_ild10, w_if_le, w_ire, trg, true_and, and_true, Nat.reduceAdd, Nat.reduceSub, eq_self, tshm_14, tshm_31, tshm_32, tykm_31, tykm_32, tci_15, tci_960, tykm_14, tci_14, tshm_667, tshm_668, tshm_669, tshm_670, tykm_33, tci_700, tsn_671, tyn_17, tcn_10, tzs_672, tzs_673, tzs_680, tzs_681, tzs_682, tzs_683, tzs_684, tzs_685, tzs_686, tzs_687, tzs_688, tzs_689, tzy_15, tzy_35, tzy_36, tzy_37, tzy_38, tzy_39, tzy_40, tzc_60, tzc_320, tzc_5, tzc_4, tzc_8]
        refine tc_i (D := 71) (fun d' hd' => e_toldv j1 j4 j2 hf j3 (by omega) o3 (by omega) (by omega) hd') (by omega) ?_
        rintro z2 M4 ⟨p1, p2, p3⟩
        rw [e85] at p3
        have hz2 := z3_r p1.1
        have v4 : vE (fun _ => True) M M4 := vE_tr v3 (vE_mono p2.1 (fun _ _ => trivial))
        have f4 := p2.2.trans f3
        have A4 : AO M4 := AO_v A3 p2.1 (fun r q => by rcases q with q | q <;> omega)
        try simp only [kb_X12_extreme_215, w_ald_0, w_ild7, w_bi, w_ild9, w_iadd, w_iv2, tfr_0, tfr_1, tfr_2, tfr_3, tfr_4, w_ild6, w_ild_2, w_ic, w_iv5, w_ist10, tkl_n, tkl_i, tkl_l, tkl_r, w_ild10, w_if_le, w_ire, trg, true_and, and_true, Nat.reduceAdd, Nat.reduceSub, eq_self, tshm_14, tshm_31, tshm_32, tykm_31, tykm_32, tci_15, tci_960, tykm_14, tci_14, tshm_667, tshm_668, tshm_669, tshm_670, tykm_33, tci_700, tsn_671, tyn_17, tcn_10, tzs_672, tzs_673, tzs_680, tzs_681, tzs_682, tzs_683, tzs_684, tzs_685, tzs_686, tzs_687, tzs_688, tzs_689, tzy_15, tzy_35, tzy_36, tzy_37, tzy_38, tzy_39, tzy_40, tzc_60, tzc_320, tzc_5, tzc_4, tzc_8]
        refine ⟨by omega, fun q => ?_, fun q => ⟨z2, rfl, rfl, ⟨p1.1, fun g => absurd g (by omega)⟩, v4, A4, f4⟩⟩
        have hz0 : z2 = 0 := by omega
        have mt := EV_meet h.2.1 (by omega) (by omega) (by omega) (by omega) 61 _ _ _ _ _ bE (p3 hz0)
        have w60 : ¬ toF 61 63 60 := by unfold toF; omega
        have el : zlo M4 60 = zlo M2 60 := by
          unfold zlo
          rw [vE_b p2.1 w60 667 (Or.inl rfl), vE_b p2.1 w60 668 (Or.inr (Or.inl rfl)), vE_b (vE_y r1.1) (by omega) 667 (Or.inl rfl), vE_b (vE_y r1.1) (by omega) 668 (Or.inr (Or.inl rfl))]
        have eh : zhi M4 60 = zhi M2 60 := by
          unfold zhi
          rw [vE_b p2.1 w60 669 (Or.inr (Or.inr (Or.inl rfl))), vE_b p2.1 w60 670 (Or.inr (Or.inr (Or.inr rfl))), vE_b (vE_y r1.1) (by omega) 669 (Or.inr (Or.inr (Or.inl rfl))), vE_b (vE_y r1.1) (by omega) 670 (Or.inr (Or.inr (Or.inr rfl)))]
        refine n248 M4 z2 LX HX _ hk v4 A4 f4 (p1.2 hz0) mt.1 mt.2 ?_
        unfold XP at b7 ⊢
        rw [el, eh]
        exact b7
      -- the piece's bounds in box 61
      have n155 : ∀ (M2 : tM) (z w : Int) (W : Option tV), k < m → vE (fun _ => True) M M2 → AO M2 → M2 664 11 = 63 → OB M2 61 → (0 < k → OB M2 60) → EV M D (zlo M2 (30 + k)) (zhi M2 (30 + k)) (zlo M2 (30 + k)) (zhi M2 (30 + k)) 61 (M 685 fo) (zlo M2 61) (zhi M2 61) → (0 ≤ w ∧ w ≤ 1) → (w = 0 → 0 < k ∧ (mo = 1 → zhi M2 61 ≤ zhi M2 60) ∧ (mo = 0 → zlo M2 60 ≤ zlo M2 61)) → (w = 1 → 0 < k → (mo = 1 → zhi M2 60 ≤ zhi M2 61) ∧ (mo = 0 → zlo M2 61 ≤ zlo M2 60)) → tT e d 3613 155 [some (.inr (.inr (.inl 664))), some (.inl (60)), some (.inl (fo)), some (.inl (a)), some (.inl (cu)), some (.inl (mo)), some (.inl (61)), some (.inl (62)), some (.inl (m)), some (.inl (k)), some (.inl (z)), W] [.inl w] M2 n (tQi n (fun z M' => OK3 z M' 60 ∧ vE (fun _ => True) M M' ∧ AO M' ∧ M' 664 11 = 63)) := by
        intro M2 z w W hk b1 b2 b3 b4 b5 bE b8 b9 b10
        obtain ⟨c60, c61⟩ := cz M2 b1 b3
        have d61 := c61
        have o61 := b4
        unfold bcan at d61
        unfold OB at o61
        have keep : w = 0 → XP M2 mo k (zlo M2 61) (zhi M2 61) := by
          intro g
          obtain ⟨k0, k1, k2⟩ := b9 g
          have o60 := b5 k0
          unfold OB at o60
          unfold XP
          exact ⟨fun q => by have := k1 q; omega, fun q => by have := k2 q; omega⟩
        have go : ∀ M3 : tM, xE (fun r => r = 60) M2 M3 → XP M3 mo k (zlo M2 61) (zhi M2 61) → ∀ W : Int, tT e d 3613 215 [some (.inr (.inr (.inl 664))), some (.inl (60)), some (.inl (fo)), some (.inl (a)), some (.inl (cu)), some (.inl (mo)), some (.inl (61)), some (.inl (62)), some (.inl (m)), some (.inl (k)), some (.inl (z)), some (.inl (W))] [] M3 n (tQi n (fun z M' => OK3 z M' 60 ∧ vE (fun _ => True) M M' ∧ AO M' ∧ M' 664 11 = 63)) := by
          intro M3 x3 xp W
          refine n215 M3 z (zlo M2 61) (zhi M2 61) 0 0 W hk (vE_tr b1 (vE_y (yE_mono x3.1 (fun _ _ => trivial)))) (AO_v b2 (vE_y x3.1) (fun r q => by omega)) (x3.2.trans b3) xp ?_
          rw [xE_lo x3 (show ¬ (30 + k = 60) by omega), xE_hi x3 (show ¬ (30 + k = 60) by omega)]
          exact bE
        refine tb_X12_extreme_155 (c := false) ?_
        simp only [kb_X12_extreme_155, w_ist11, tkl_n, tkl_i, tkl_l, tkl_r, w_ild11, w_if_eq, w_ild5, w_ald_0, w_ild_1, w_gf_14_8, tw_f, w_ild6, w_la, w_lax, w_gf_14_9, w_iv3, tfr_0, tfr_1, tfr_2, tfr_3, tfr_4, w_nil, true_and, and_true, Nat.reduceAdd, Nat.reduceSub, eq_self, tshm_14, tshm_31, tshm_32, tykm_31, tykm_32, tci_15, tci_960, tykm_14, tci_14, tshm_667, tshm_668, tshm_669, tshm_670, tykm_33, tci_700, tsn_671, tyn_17, tcn_10, tzs_672, tzs_673, tzs_680, tzs_681, tzs_682, tzs_683, tzs_684, tzs_685, tzs_686, tzs_687, tzs_688, tzs_689, tzy_15, tzy_35, tzy_36, tzy_37, tzy_38, tzy_39, tzy_40, tzc_60, tzc_320, tzc_5, tzc_4, tzc_8]
        refine ⟨by omega, fun q => ?_, fun q => ⟨by omega, fun q2 => ?_, fun q2 => ⟨by omega, by omega, ?_⟩⟩⟩
        · refine tb_X12_extreme_186 (c := false) ?_
          simp only [kb_X12_extreme_186, w_ild11, w_if_eq, w_ild5, w_if_ne, w_ald_0, w_ild_1, w_gf_14_6, tw_f, w_ild6, w_la, w_lax, w_gf_14_7, w_iv3, tfr_0, tfr_1, tfr_2, tfr_3, tfr_4, w_nil, true_and, and_true, Nat.reduceAdd, Nat.reduceSub, eq_self, tshm_14, tshm_31, tshm_32, tykm_31, tykm_32, tci_15, tci_960, tykm_14, tci_14, tshm_667, tshm_668, tshm_669, tshm_670, tykm_33, tci_700, tsn_671, tyn_17, tcn_10, tzs_672, tzs_673, tzs_680, tzs_681, tzs_682, tzs_683, tzs_684, tzs_685, tzs_686, tzs_687, tzs_688, tzs_689, tzy_15, tzy_35, tzy_36, tzy_37, tzy_38, tzy_39, tzy_40, tzc_60, tzc_320, tzc_5, tzc_4, tzc_8]
          exact ⟨by omega, fun q2 => go M2 xE_refl (keep q) _, fun q2 => absurd q q2⟩
        · refine tb_X12_extreme_186 (c := false) ?_
          simp only [kb_X12_extreme_186, w_ild11, w_if_eq, w_ild5, w_if_ne, w_ald_0, w_ild_1, w_gf_14_6, tw_f, w_ild6, w_la, w_lax, w_gf_14_7, w_iv3, tfr_0, tfr_1, tfr_2, tfr_3, tfr_4, w_nil, true_and, and_true, Nat.reduceAdd, Nat.reduceSub, eq_self, tshm_14, tshm_31, tshm_32, tykm_31, tykm_32, tci_15, tci_960, tykm_14, tci_14, tshm_667, tshm_668, tshm_669, tshm_670, tykm_33, tci_700, tsn_671, tyn_17, tcn_10, tzs_672, tzs_673, tzs_680, tzs_681, tzs_682, tzs_683, tzs_684, tzs_685, tzs_686, tzs_687, tzs_688, tzs_689, tzy_15, tzy_35, tzy_36, tzy_37, tzy_38, tzy_39, tzy_40, tzc_60, tzc_320, tzc_5, tzc_4, tzc_8]
          refine ⟨by omega, fun q3 => absurd q3 q, fun q3 => ⟨by omega, fun q4 => absurd q2 q4, fun q4 => ⟨by omega, by omega, ?_⟩⟩⟩
          refine tc_n (D := 0) (fun d' _ => c_low (by omega)) (by omega) ?_
          rintro _ rfl
          have x1 : xE (fun r => r = 60) M2 (sLo M2 60 (M2 667 61) (M2 668 61)) := sLo_xE rfl d61.1.1 (by omega)
          have xp : XP (sLo M2 60 (M2 667 61) (M2 668 61)) mo k (zlo M2 61) (zhi M2 61) := by
            have e1 : zlo M2 61 = M2 667 61 * 1000000000 + M2 668 61 := rfl
            unfold XP
            rw [sLo_lo, sLo_hi, ← e1]
            refine ⟨fun g => by exfalso; omega, fun g => ⟨by omega, fun k0 => ?_⟩⟩
            have o60 := b5 k0
            unfold OB at o60
            have := (b10 (by omega) k0).2 g
            omega
          try simp only [kb_X12_extreme_186, w_ild11, w_if_eq, w_ild5, w_if_ne, w_ald_0, w_ild_1, w_gf_14_6, tw_f, w_ild6, w_la, w_lax, w_gf_14_7, w_iv3, tfr_0, tfr_1, tfr_2, tfr_3, tfr_4, w_nil, true_and, and_true, Nat.reduceAdd, Nat.reduceSub, eq_self, tshm_14, tshm_31, tshm_32, tykm_31, tykm_32, tci_15, tci_960, tykm_14, tci_14, tshm_667, tshm_668, tshm_669, tshm_670, tykm_33, tci_700, tsn_671, tyn_17, tcn_10, tzs_672, tzs_673, tzs_680, tzs_681, tzs_682, tzs_683, tzs_684, tzs_685, tzs_686, tzs_687, tzs_688, tzs_689, tzy_15, tzy_35, tzy_36, tzy_37, tzy_38, tzy_39, tzy_40, tzc_60, tzc_320, tzc_5, tzc_4, tzc_8]
          exact go _ x1 xp _
        · have m1 : mo = 1 := by omega
          refine tc_n (D := 0) (fun d' _ => c_high (by omega)) (by omega) ?_
          rintro _ rfl
          have x1 : xE (fun r => r = 60) M2 (sHi M2 60 (M2 669 61) (M2 670 61)) := sHi_xE rfl d61.1.2 (by omega)
          have xp : XP (sHi M2 60 (M2 669 61) (M2 670 61)) mo k (zlo M2 61) (zhi M2 61) := by
            have e1 : zhi M2 61 = M2 669 61 * 1000000000 + M2 670 61 := rfl
            unfold XP
            rw [sHi_lo, sHi_hi, ← e1]
            refine ⟨fun g => ⟨by omega, fun k0 => ?_⟩, fun g => by exfalso; omega⟩
            have o60 := b5 k0
            unfold OB at o60
            have := (b10 (by omega) k0).1 g
            omega
          have g1 := go _ x1 xp w
          generalize sHi M2 60 (M2 669 61) (M2 670 61) = M3 at g1 ⊢
          try simp only [kb_X12_extreme_155, w_ist11, tkl_n, tkl_i, tkl_l, tkl_r, w_ild11, w_if_eq, w_ild5, w_ald_0, w_ild_1, w_gf_14_8, tw_f, w_ild6, w_la, w_lax, w_gf_14_9, w_iv3, tfr_0, tfr_1, tfr_2, tfr_3, tfr_4, w_nil, true_and, and_true, Nat.reduceAdd, Nat.reduceSub, eq_self, tshm_14, tshm_31, tshm_32, tykm_31, tykm_32, tci_15, tci_960, tykm_14, tci_14, tshm_667, tshm_668, tshm_669, tshm_670, tykm_33, tci_700, tsn_671, tyn_17, tcn_10, tzs_672, tzs_673, tzs_680, tzs_681, tzs_682, tzs_683, tzs_684, tzs_685, tzs_686, tzs_687, tzs_688, tzs_689, tzy_15, tzy_35, tzy_36, tzy_37, tzy_38, tzy_39, tzy_40, tzc_60, tzc_320, tzc_5, tzc_4, tzc_8]
          refine tb_X12_extreme_186 (c := false) ?_
          simp only [kb_X12_extreme_186, w_ild11, w_if_eq, w_ild5, w_if_ne, w_ald_0, w_ild_1, w_gf_14_6, tw_f, w_ild6, w_la, w_lax, w_gf_14_7, w_iv3, tfr_0, tfr_1, tfr_2, tfr_3, tfr_4, w_nil, true_and, and_true, Nat.reduceAdd, Nat.reduceSub, eq_self, tshm_14, tshm_31, tshm_32, tykm_31, tykm_32, tci_15, tci_960, tykm_14, tci_14, tshm_667, tshm_668, tshm_669, tshm_670, tykm_33, tci_700, tsn_671, tyn_17, tcn_10, tzs_672, tzs_673, tzs_680, tzs_681, tzs_682, tzs_683, tzs_684, tzs_685, tzs_686, tzs_687, tzs_688, tzs_689, tzy_15, tzy_35, tzy_36, tzy_37, tzy_38, tzy_39, tzy_40, tzc_60, tzc_320, tzc_5, tzc_4, tzc_8]
          exact ⟨by omega, fun q3 => absurd q3 q, fun q3 => ⟨by omega, fun q4 => g1, fun q4 => by exfalso; omega⟩⟩
      obtain ⟨i1, i2, i3, i4⟩ := ps M1 a1 a3
      refine tb_X12_extreme_28 (c := false) ?_
      simp only [kb_X12_extreme_28, w_ild9, w_ild8, w_ic_ge, w_ald_0, w_ild6, w_ild_2, w_bi, w_iadd, w_ic, w_iv5, tfr_0, tfr_1, tfr_2, tfr_3, tfr_4, w_ist10, tkl_n, tkl_i, tkl_l, tkl_r, w_ild10, w_if_le, w_ire, trg, true_and, and_true, Nat.reduceAdd, Nat.reduceSub, eq_self, tshm_14, tshm_31, tshm_32, tykm_31, tykm_32, tci_15, tci_960, tykm_14, tci_14, tshm_667, tshm_668, tshm_669, tshm_670, tykm_33, tci_700, tsn_671, tyn_17, tcn_10, tzs_672, tzs_673, tzs_680, tzs_681, tzs_682, tzs_683, tzs_684, tzs_685, tzs_686, tzs_687, tzs_688, tzs_689, tzy_15, tzy_35, tzy_36, tzy_37, tzy_38, tzy_39, tzy_40, tzc_60, tzc_320, tzc_5, tzc_4, tzc_8]
      refine ⟨by omega, fun q => ?_, fun q => ?_⟩
      · refine tb_X12_extreme_406 (c := false) ?_
        simp only [kb_X12_extreme_406, w_ic, w_ire, trg, true_and, and_true, Nat.reduceAdd, Nat.reduceSub, eq_self]
        exact ⟨0, rfl, rfl, ⟨Or.inl rfl, fun _ => a7 (by omega)⟩, a1, a2, a3⟩
      have ok := a2 (30 + k) (by omega) (by omega)
      have e85 : M1 685 fo = M 685 fo := vE_k a1 685 fo (by omega)
      refine tc_i (D := 71) (fun d' hd' => e_toldv i1 i4 i2 hf i3 (by omega) ok (by omega) (by omega) hd') (by omega) ?_
      rintro z M2 ⟨p1, p2, p3⟩
      rw [e85] at p3
      have hzr := z3_r p1.1
      have v2 : vE (fun _ => True) M M2 := vE_tr a1 (vE_mono p2.1 (fun _ _ => trivial))
      have f2 := p2.2.trans a3
      have o2 : AO M2 := AO_v a2 p2.1 (fun r q => by rcases q with q | q <;> omega)
      have s2 : 0 < k → OB M2 60 := fun g => OB_z (a7 g) p2 (by omega) (by omega)
      try simp only [kb_X12_extreme_28, w_ild9, w_ild8, w_ic_ge, w_ald_0, w_ild6, w_ild_2, w_bi, w_iadd, w_ic, w_iv5, tfr_0, tfr_1, tfr_2, tfr_3, tfr_4, w_ist10, tkl_n, tkl_i, tkl_l, tkl_r, w_ild10, w_if_le, w_ire, trg, true_and, and_true, Nat.reduceAdd, Nat.reduceSub, eq_self, tshm_14, tshm_31, tshm_32, tykm_31, tykm_32, tci_15, tci_960, tykm_14, tci_14, tshm_667, tshm_668, tshm_669, tshm_670, tykm_33, tci_700, tsn_671, tyn_17, tcn_10, tzs_672, tzs_673, tzs_680, tzs_681, tzs_682, tzs_683, tzs_684, tzs_685, tzs_686, tzs_687, tzs_688, tzs_689, tzy_15, tzy_35, tzy_36, tzy_37, tzy_38, tzy_39, tzy_40, tzc_60, tzc_320, tzc_5, tzc_4, tzc_8]
      refine ⟨by omega, fun q => ?_, fun q => ⟨z, rfl, rfl, ⟨p1.1, fun g => absurd g (by omega)⟩, v2, o2, f2⟩⟩
      have hz0 : z = 0 := by omega
      have o61 := p1.2 hz0
      have wk : ¬ toF 61 63 (30 + k) := by unfold toF; omega
      have el : zlo M2 (30 + k) = zlo M1 (30 + k) := by
        unfold zlo
        rw [vE_b p2.1 wk 667 (Or.inl rfl), vE_b p2.1 wk 668 (Or.inr (Or.inl rfl))]
      have eh : zhi M2 (30 + k) = zhi M1 (30 + k) := by
        unfold zhi
        rw [vE_b p2.1 wk 669 (Or.inr (Or.inr (Or.inl rfl))), vE_b p2.1 wk 670 (Or.inr (Or.inr (Or.inr rfl)))]
      have bE := p3 hz0
      rw [← el, ← eh] at bE
      obtain ⟨c60, c61⟩ := cz M2 v2 f2
      have d60 := c60
      have d61 := c61
      unfold bcan at d60 d61
      have el60 : zlo M2 60 = M2 667 60 * 1000000000 + M2 668 60 := rfl
      have eh60 : zhi M2 60 = M2 669 60 * 1000000000 + M2 670 60 := rfl
      have el61 : zlo M2 61 = M2 667 61 * 1000000000 + M2 668 61 := rfl
      have eh61 : zhi M2 61 = M2 669 61 * 1000000000 + M2 670 61 := rfl
      have n105 : mo = 1 → (0 < k → zhi M2 60 ≤ zhi M2 61) → tT e d 3613 105 [some (.inr (.inr (.inl 664))), some (.inl (60)), some (.inl (fo)), some (.inl (a)), some (.inl (cu)), some (.inl (mo)), some (.inl (61)), some (.inl (62)), some (.inl (m)), some (.inl (k)), some (.inl (z)), B] [] M2 n (tQi n (fun z M' => OK3 z M' 60 ∧ vE (fun _ => True) M M' ∧ AO M' ∧ M' 664 11 = 63)) := by
        intro t1 t2
        refine tb_X12_extreme_105 (c := false) ?_
        simp only [kb_X12_extreme_105, w_ic, w_goto, true_and, and_true, Nat.reduceAdd, Nat.reduceSub, eq_self]
        exact n155 M2 z 1 _ (by omega) v2 o2 f2 o61 s2 bE (by omega) (fun g => absurd g (by decide)) (fun _ k0 => ⟨fun _ => t2 k0, fun g => by exfalso; omega⟩)
      have n150 : mo = 0 → (0 < k → zlo M2 61 ≤ zlo M2 60) → tT e d 3613 150 [some (.inr (.inr (.inl 664))), some (.inl (60)), some (.inl (fo)), some (.inl (a)), some (.inl (cu)), some (.inl (mo)), some (.inl (61)), some (.inl (62)), some (.inl (m)), some (.inl (k)), some (.inl (z)), B] [] M2 n (tQi n (fun z M' => OK3 z M' 60 ∧ vE (fun _ => True) M M' ∧ AO M' ∧ M' 664 11 = 63)) := by
        intro t1 t2
        refine tb_X12_extreme_150 (c := false) ?_
        simp only [kb_X12_extreme_150, w_ic, w_goto, true_and, and_true, Nat.reduceAdd, Nat.reduceSub, eq_self]
        exact n155 M2 z 1 _ (by omega) v2 o2 f2 o61 s2 bE (by omega) (fun g => absurd g (by decide)) (fun _ k0 => ⟨fun g => by exfalso; omega, fun _ => t2 k0⟩)
      refine tb_X12_extreme_63 (c := false) ?_
      simp only [kb_X12_extreme_63, w_ild5, w_if_eq, w_ild9, w_ald_0, w_gf_14_8, tw_f, w_ild6, w_la, w_lax, w_gf_14_9, w_ild_1, w_is4, tfr_0, tfr_1, tfr_2, tfr_3, tfr_4, w_if_le, w_nil, true_and, and_true, Nat.reduceAdd, Nat.reduceSub, eq_self, tshm_14, tshm_31, tshm_32, tykm_31, tykm_32, tci_15, tci_960, tykm_14, tci_14, tshm_667, tshm_668, tshm_669, tshm_670, tykm_33, tci_700, tsn_671, tyn_17, tcn_10, tzs_672, tzs_673, tzs_680, tzs_681, tzs_682, tzs_683, tzs_684, tzs_685, tzs_686, tzs_687, tzs_688, tzs_689, tzy_15, tzy_35, tzy_36, tzy_37, tzy_38, tzy_39, tzy_40, tzc_60, tzc_320, tzc_5, tzc_4, tzc_8]
      refine ⟨by omega, fun q => ?_, fun q => ⟨by omega, fun q2 => n105 (by omega) (fun _ => by exfalso; omega), fun q2 => ⟨by omega, by omega, by omega, by omega, ?_⟩⟩⟩
      · refine tb_X12_extreme_113 (c := false) ?_
        simp only [kb_X12_extreme_113, w_ild9, w_if_eq, w_ald_0, w_gf_14_6, tw_f, w_ild6, w_la, w_lax, w_gf_14_7, w_ild_1, w_is4, tfr_0, tfr_1, tfr_2, tfr_3, tfr_4, w_if_ge, w_nil, true_and, and_true, Nat.reduceAdd, Nat.reduceSub, eq_self, tshm_14, tshm_31, tshm_32, tykm_31, tykm_32, tci_15, tci_960, tykm_14, tci_14, tshm_667, tshm_668, tshm_669, tshm_670, tykm_33, tci_700, tsn_671, tyn_17, tcn_10, tzs_672, tzs_673, tzs_680, tzs_681, tzs_682, tzs_683, tzs_684, tzs_685, tzs_686, tzs_687, tzs_688, tzs_689, tzy_15, tzy_35, tzy_36, tzy_37, tzy_38, tzy_39, tzy_40, tzc_60, tzc_320, tzc_5, tzc_4, tzc_8]
        refine ⟨by omega, fun q2 => n150 q (fun _ => by exfalso; omega), fun q2 => ⟨by omega, by omega, by omega, by omega, ?_⟩⟩
        refine tc_i (D := 0) (fun d' hd' => c_order (by omega) (by omega) (by omega) (by omega)) (by omega) ?_
        rintro z2 M3 ⟨r1, rfl⟩
        have hz2 := cz_r r1
        try simp only [kb_X12_extreme_113, w_ild9, w_if_eq, w_ald_0, w_gf_14_6, tw_f, w_ild6, w_la, w_lax, w_gf_14_7, w_ild_1, w_is4, tfr_0, tfr_1, tfr_2, tfr_3, tfr_4, w_if_ge, w_nil, true_and, and_true, Nat.reduceAdd, Nat.reduceSub, eq_self, tshm_14, tshm_31, tshm_32, tykm_31, tykm_32, tci_15, tci_960, tykm_14, tci_14, tshm_667, tshm_668, tshm_669, tshm_670, tykm_33, tci_700, tsn_671, tyn_17, tcn_10, tzs_672, tzs_673, tzs_680, tzs_681, tzs_682, tzs_683, tzs_684, tzs_685, tzs_686, tzs_687, tzs_688, tzs_689, tzy_15, tzy_35, tzy_36, tzy_37, tzy_38, tzy_39, tzy_40, tzc_60, tzc_320, tzc_5, tzc_4, tzc_8]
        refine ⟨by omega, fun q3 => ?_, fun q3 => n150 q (fun _ => by omega)⟩
        refine tb_X12_extreme_154 (c := false) ?_
        simp only [kb_X12_extreme_154, w_ic, w_nil, true_and, and_true, Nat.reduceAdd, Nat.reduceSub, eq_self]
        exact n155 _ z 0 _ (by omega) v2 o2 f2 o61 s2 bE (by omega) (fun _ => ⟨by omega, fun g => by exfalso; omega, fun g => by omega⟩) (fun g => absurd g (by decide))
      · refine tc_i (D := 0) (fun d' hd' => c_order (by omega) (by omega) (by omega) (by omega)) (by omega) ?_
        rintro z2 M3 ⟨r1, rfl⟩
        have hz2 := cz_r r1
        try simp only [kb_X12_extreme_63, w_ild5, w_if_eq, w_ild9, w_ald_0, w_gf_14_8, tw_f, w_ild6, w_la, w_lax, w_gf_14_9, w_ild_1, w_is4, tfr_0, tfr_1, tfr_2, tfr_3, tfr_4, w_if_le, w_nil, true_and, and_true, Nat.reduceAdd, Nat.reduceSub, eq_self, tshm_14, tshm_31, tshm_32, tykm_31, tykm_32, tci_15, tci_960, tykm_14, tci_14, tshm_667, tshm_668, tshm_669, tshm_670, tykm_33, tci_700, tsn_671, tyn_17, tcn_10, tzs_672, tzs_673, tzs_680, tzs_681, tzs_682, tzs_683, tzs_684, tzs_685, tzs_686, tzs_687, tzs_688, tzs_689, tzy_15, tzy_35, tzy_36, tzy_37, tzy_38, tzy_39, tzy_40, tzc_60, tzc_320, tzc_5, tzc_4, tzc_8]
        refine ⟨by omega, fun q3 => ?_, fun q3 => n105 (by omega) (fun _ => by omega)⟩
        refine tb_X12_extreme_109 (c := false) ?_
        simp only [kb_X12_extreme_109, w_ic, w_goto, true_and, and_true, Nat.reduceAdd, Nat.reduceSub, eq_self]
        exact n155 _ z 0 _ (by omega) v2 o2 f2 o61 s2 bE (by omega) (fun _ => ⟨by omega, fun g => by omega, fun g => by exfalso; omega⟩) (fun g => absurd g (by decide))
  have v0 : vE (fun _ => True) M (tU M 664 11 63) := vE_free
  have f0 : tU M 664 11 63 664 11 = 63 := tU_eq ..
  have o0 : AO (tU M 664 11 63) := AO_v (T := fun _ => False) hO vE_free (fun _ q => q.elim)
  refine tb_X12_extreme_0 (c := false) ?_
  simp only [kb_X12_extreme_0, w_bi, w_ist6, tkl_n, tkl_i, tkl_l, tkl_r, w_ist7, w_ald_0, w_pf_14_11, w_ild_3, w_ild4, w_iv3, tfr_0, tfr_1, tfr_2, tfr_3, tfr_4, w_ist8, w_ic, w_ist9, w_nil, true_and, and_true, Nat.reduceAdd, Nat.reduceSub, eq_self, tshm_14, tshm_31, tshm_32, tykm_31, tykm_32, tci_15, tci_960, tykm_14, tci_14, tshm_667, tshm_668, tshm_669, tshm_670, tykm_33, tci_700, tsn_671, tyn_17, tcn_10, tzs_672, tzs_673, tzs_680, tzs_681, tzs_682, tzs_683, tzs_684, tzs_685, tzs_686, tzs_687, tzs_688, tzs_689, tzy_15, tzy_35, tzy_36, tzy_37, tzy_38, tzy_39, tzy_40, tzc_60, tzc_320, tzc_5, tzc_4, tzc_8]
  generalize tU M 664 11 63 = M2 at v0 f0 o0 ⊢
  refine tc_i (D := 4) (fun d' hd' => o_cutsInto (ps M2 v0 f0).1 (by omega) (by omega) (fun b b1 b2 => o0 b (by omega) (by omega)) (by omega) (o0 a (by omega) (by omega)) (by omega) hd') (by omega) ?_
  rintro m M3 ⟨a1, a2, a3⟩
  try simp only [kb_X12_extreme_0, w_bi, w_ist6, tkl_n, tkl_i, tkl_l, tkl_r, w_ist7, w_ald_0, w_pf_14_11, w_ild_3, w_ild4, w_iv3, tfr_0, tfr_1, tfr_2, tfr_3, tfr_4, w_ist8, w_ic, w_ist9, w_nil, true_and, and_true, Nat.reduceAdd, Nat.reduceSub, eq_self, tshm_14, tshm_31, tshm_32, tykm_31, tykm_32, tci_15, tci_960, tykm_14, tci_14, tshm_667, tshm_668, tshm_669, tshm_670, tykm_33, tci_700, tsn_671, tyn_17, tcn_10, tzs_672, tzs_673, tzs_680, tzs_681, tzs_682, tzs_683, tzs_684, tzs_685, tzs_686, tzs_687, tzs_688, tzs_689, tzy_15, tzy_35, tzy_36, tzy_37, tzy_38, tzy_39, tzy_40, tzc_60, tzc_320, tzc_5, tzc_4, tzc_8]
  exact n28 9 M3 m 0 _ _ (vE_tr v0 (vE_y (yE_mono a2.1 (fun _ _ => trivial)))) (AO_c o0 a2 a3 (by omega)) (a2.2.trans f0) a1 (by omega) (by omega) (fun q => absurd q (by decide))
theorem o_bounds {x1 x2 x3 x4 mo : Int} (hP : MF M D) (h1 : (-2147483648 ≤ x1 ∧ x1 < 2147483648)) (h2 : (-2147483648 ≤ x2 ∧ x2 < 2147483648)) (h3 : (-2147483648 ≤ x3 ∧ x3 < 2147483648)) (h4 : (-2147483648 ≤ x4 ∧ x4 < 2147483648)) (hm : mo = 0 ∨ mo = 1) (hd : 73 ≤ d) : tC e d 3594 [.inr (.inr (.inl 664)), .inl x1, .inl x2, .inl x3, .inl x4, .inl mo] M n (tQi n (fun z M' => (z = 0 ∨ z = 1) ∧ MF M' D ∧ MC M M')) := by
  refine tst_X12_bounds ?_
  refine tb_X12_bounds_0 (c := false) ?_
  simp only [kb_X12_bounds_0, w_ald_0, w_ild_1, w_ild_2, w_ild_3, w_ild4, w_iv4, tfr_0, tfr_1, tfr_2, tfr_3, tfr_4, w_iv1, w_if_eq, w_ic, w_ire, trg, true_and, and_true, Nat.reduceAdd, Nat.reduceSub, eq_self, tshm_14, tshm_31, tshm_32, tykm_31, tykm_32, tci_15, tci_960, tykm_14, tci_14, tshm_667, tshm_668, tshm_669, tshm_670, tykm_33, tci_700, tsn_671, tyn_17, tcn_10, tzs_672, tzs_673, tzs_680, tzs_681, tzs_682, tzs_683, tzs_684, tzs_685, tzs_686, tzs_687, tzs_688, tzs_689, tzy_15, tzy_35, tzy_36, tzy_37, tzy_38, tzy_39, tzy_40, tzc_60, tzc_320, tzc_5, tzc_4, tzc_8]
  refine tc_i (D := 3) (fun d' hd' => o_noBounds hP.2.2.1 hP.1.2.1 h1 h2 h3 h4 hd') (by omega) ?_
  rintro v M1 ⟨hv, hv0, rfl⟩
  try simp only [kb_X12_bounds_0, w_ald_0, w_ild_1, w_ild_2, w_ild_3, w_ild4, w_iv4, tfr_0, tfr_1, tfr_2, tfr_3, tfr_4, w_iv1, w_if_eq, w_ic, w_ire, trg, true_and, and_true, Nat.reduceAdd, Nat.reduceSub, eq_self, tshm_14, tshm_31, tshm_32, tykm_31, tykm_32, tci_15, tci_960, tykm_14, tci_14, tshm_667, tshm_668, tshm_669, tshm_670, tykm_33, tci_700, tsn_671, tyn_17, tcn_10, tzs_672, tzs_673, tzs_680, tzs_681, tzs_682, tzs_683, tzs_684, tzs_685, tzs_686, tzs_687, tzs_688, tzs_689, tzy_15, tzy_35, tzy_36, tzy_37, tzy_38, tzy_39, tzy_40, tzc_60, tzc_320, tzc_5, tzc_4, tzc_8]
  refine tc_i (D := 0) (fun d' hd' => o_fails (by omega)) (by omega) ?_
  rintro z M2 ⟨q2, rfl⟩
  try simp only [kb_X12_bounds_0, w_ald_0, w_ild_1, w_ild_2, w_ild_3, w_ild4, w_iv4, tfr_0, tfr_1, tfr_2, tfr_3, tfr_4, w_iv1, w_if_eq, w_ic, w_ire, trg, true_and, and_true, Nat.reduceAdd, Nat.reduceSub, eq_self, tshm_14, tshm_31, tshm_32, tykm_31, tykm_32, tci_15, tci_960, tykm_14, tci_14, tshm_667, tshm_668, tshm_669, tshm_670, tykm_33, tci_700, tsn_671, tyn_17, tcn_10, tzs_672, tzs_673, tzs_680, tzs_681, tzs_682, tzs_683, tzs_684, tzs_685, tzs_686, tzs_687, tzs_688, tzs_689, tzy_15, tzy_35, tzy_36, tzy_37, tzy_38, tzy_39, tzy_40, tzc_60, tzc_320, tzc_5, tzc_4, tzc_8]
  have h5 := MF_3 (v := v) hP
  refine ⟨by omega, fun q => ?_, fun q => ⟨by omega, 0, rfl, rfl, Or.inl rfl, h5⟩⟩
  obtain ⟨g1, g2, g3, g4, g5⟩ := hv0 (by omega)
  have g5 : tU M1 664 3 v 687 x2 ≠ 0 := by rw [tU_nk (by decide)]; exact g5
  refine tb_X12_bounds_18 (c := false) ?_
  simp only [kb_X12_bounds_18, w_ald_0, w_bi, w_ild_2, w_ild_3, w_ild4, w_ild5, w_iv5, tfr_0, tfr_1, tfr_2, tfr_3, tfr_4, w_ist6, tkl_n, tkl_i, tkl_l, tkl_r, w_pf_14_11, w_ild_1, w_ild6, w_ic, w_iv4, w_ire, trg, true_and, and_true, Nat.reduceAdd, Nat.reduceSub, eq_self, tshm_14, tshm_31, tshm_32, tykm_31, tykm_32, tci_15, tci_960, tykm_14, tci_14, tshm_667, tshm_668, tshm_669, tshm_670, tykm_33, tci_700, tsn_671, tyn_17, tcn_10, tzs_672, tzs_673, tzs_680, tzs_681, tzs_682, tzs_683, tzs_684, tzs_685, tzs_686, tzs_687, tzs_688, tzs_689, tzy_15, tzy_35, tzy_36, tzy_37, tzy_38, tzy_39, tzy_40, tzc_60, tzc_320, tzc_5, tzc_4, tzc_8]
  refine tc_i (D := 72) (fun d' hd' => o_extreme h5.1.1.1 h5.1.2.2.1 h5.1.1.2.2 g2 g5 g3 g4 hm hd') (by omega) ?_
  rintro w M3 ⟨p1, p2, p3, p4⟩
  have m := MF_v h5.1 (vE_tr p2 (vE_free (v := 60))) (tU_eq ..) (AO_v (T := fun _ => False) p3 vE_free (fun _ q => q.elim))
  try simp only [kb_X12_bounds_18, w_ald_0, w_bi, w_ild_2, w_ild_3, w_ild4, w_ild5, w_iv5, tfr_0, tfr_1, tfr_2, tfr_3, tfr_4, w_ist6, tkl_n, tkl_i, tkl_l, tkl_r, w_pf_14_11, w_ild_1, w_ild6, w_ic, w_iv4, w_ire, trg, true_and, and_true, Nat.reduceAdd, Nat.reduceSub, eq_self, tshm_14, tshm_31, tshm_32, tykm_31, tykm_32, tci_15, tci_960, tykm_14, tci_14, tshm_667, tshm_668, tshm_669, tshm_670, tykm_33, tci_700, tsn_671, tyn_17, tcn_10, tzs_672, tzs_673, tzs_680, tzs_681, tzs_682, tzs_683, tzs_684, tzs_685, tzs_686, tzs_687, tzs_688, tzs_689, tzy_15, tzy_35, tzy_36, tzy_37, tzy_38, tzy_39, tzy_40, tzc_60, tzc_320, tzc_5, tzc_4, tzc_8]
  refine tc_i (D := 3) (fun d' hd' => o_makes_f m.1 g1 p1.1 (fun q => OB_v (p1.2 q) (vE_free (T := fun _ => False)) id) (by omega) (by omega) hd') (by omega) ?_
  rintro z2 M4 ⟨r1, r2, r3⟩
  try simp only [kb_X12_bounds_18, w_ald_0, w_bi, w_ild_2, w_ild_3, w_ild4, w_ild5, w_iv5, tfr_0, tfr_1, tfr_2, tfr_3, tfr_4, w_ist6, tkl_n, tkl_i, tkl_l, tkl_r, w_pf_14_11, w_ild_1, w_ild6, w_ic, w_iv4, w_ire, trg, true_and, and_true, Nat.reduceAdd, Nat.reduceSub, eq_self, tshm_14, tshm_31, tshm_32, tykm_31, tykm_32, tci_15, tci_960, tykm_14, tci_14, tshm_667, tshm_668, tshm_669, tshm_670, tykm_33, tci_700, tsn_671, tyn_17, tcn_10, tzs_672, tzs_673, tzs_680, tzs_681, tzs_682, tzs_683, tzs_684, tzs_685, tzs_686, tzs_687, tzs_688, tzs_689, tzy_15, tzy_35, tzy_36, tzy_37, tzy_38, tzy_39, tzy_40, tzc_60, tzc_320, tzc_5, tzc_4, tzc_8]
  exact ⟨by omega, z2, rfl, rfl, r1, r2, MC_tr h5.2 (MC_tr m.2 r3)⟩
theorem o_least {x1 x2 x3 x4 : Int} (hP : MF M D) (h1 : (-2147483648 ≤ x1 ∧ x1 < 2147483648)) (h2 : (-2147483648 ≤ x2 ∧ x2 < 2147483648)) (h3 : (-2147483648 ≤ x3 ∧ x3 < 2147483648)) (h4 : (-2147483648 ≤ x4 ∧ x4 < 2147483648)) (hd : 74 ≤ d) : tC e d 3642 [.inr (.inr (.inl 664)), .inl x1, .inl x2, .inl x3, .inl x4] M n (tQi n (fun _ M' => MF M' D ∧ MC M M')) := by
  refine tst_X12_least ?_
  refine tb_X12_least_0 (c := false) ?_
  simp only [kb_X12_least_0, w_ald_0, w_ild_1, w_ild_2, w_ild_3, w_ild4, w_ic, w_iv5, tfr_0, tfr_1, tfr_2, tfr_3, tfr_4, w_ire, trg, true_and, and_true, Nat.reduceAdd, Nat.reduceSub, eq_self, tshm_14, tshm_31, tshm_32, tykm_31, tykm_32, tci_15, tci_960, tykm_14, tci_14, tshm_667, tshm_668, tshm_669, tshm_670, tykm_33, tci_700, tsn_671, tyn_17, tcn_10, tzs_672, tzs_673, tzs_680, tzs_681, tzs_682, tzs_683, tzs_684, tzs_685, tzs_686, tzs_687, tzs_688, tzs_689, tzy_15, tzy_35, tzy_36, tzy_37, tzy_38, tzy_39, tzy_40, tzc_60, tzc_320, tzc_5, tzc_4, tzc_8]
  refine tc_i (D := 73) (fun d' hd' => o_bounds hP h1 h2 h3 h4 (Or.inl rfl) hd') (by omega) ?_
  rintro z M1 ⟨hz, q⟩
  try simp only [kb_X12_least_0, w_ald_0, w_ild_1, w_ild_2, w_ild_3, w_ild4, w_ic, w_iv5, tfr_0, tfr_1, tfr_2, tfr_3, tfr_4, w_ire, trg, true_and, and_true, Nat.reduceAdd, Nat.reduceSub, eq_self, tshm_14, tshm_31, tshm_32, tykm_31, tykm_32, tci_15, tci_960, tykm_14, tci_14, tshm_667, tshm_668, tshm_669, tshm_670, tykm_33, tci_700, tsn_671, tyn_17, tcn_10, tzs_672, tzs_673, tzs_680, tzs_681, tzs_682, tzs_683, tzs_684, tzs_685, tzs_686, tzs_687, tzs_688, tzs_689, tzy_15, tzy_35, tzy_36, tzy_37, tzy_38, tzy_39, tzy_40, tzc_60, tzc_320, tzc_5, tzc_4, tzc_8]
  exact ⟨by omega, z, rfl, rfl, q⟩
theorem o_greatest {x1 x2 x3 x4 : Int} (hP : MF M D) (h1 : (-2147483648 ≤ x1 ∧ x1 < 2147483648)) (h2 : (-2147483648 ≤ x2 ∧ x2 < 2147483648)) (h3 : (-2147483648 ≤ x3 ∧ x3 < 2147483648)) (h4 : (-2147483648 ≤ x4 ∧ x4 < 2147483648)) (hd : 74 ≤ d) : tC e d 3617 [.inr (.inr (.inl 664)), .inl x1, .inl x2, .inl x3, .inl x4] M n (tQi n (fun _ M' => MF M' D ∧ MC M M')) := by
  refine tst_X12_greatest ?_
  refine tb_X12_greatest_0 (c := false) ?_
  simp only [kb_X12_greatest_0, w_ald_0, w_ild_1, w_ild_2, w_ild_3, w_ild4, w_ic, w_iv5, tfr_0, tfr_1, tfr_2, tfr_3, tfr_4, w_ire, trg, true_and, and_true, Nat.reduceAdd, Nat.reduceSub, eq_self, tshm_14, tshm_31, tshm_32, tykm_31, tykm_32, tci_15, tci_960, tykm_14, tci_14, tshm_667, tshm_668, tshm_669, tshm_670, tykm_33, tci_700, tsn_671, tyn_17, tcn_10, tzs_672, tzs_673, tzs_680, tzs_681, tzs_682, tzs_683, tzs_684, tzs_685, tzs_686, tzs_687, tzs_688, tzs_689, tzy_15, tzy_35, tzy_36, tzy_37, tzy_38, tzy_39, tzy_40, tzc_60, tzc_320, tzc_5, tzc_4, tzc_8]
  refine tc_i (D := 73) (fun d' hd' => o_bounds hP h1 h2 h3 h4 (Or.inr rfl) hd') (by omega) ?_
  rintro z M1 ⟨hz, q⟩
  try simp only [kb_X12_greatest_0, w_ald_0, w_ild_1, w_ild_2, w_ild_3, w_ild4, w_ic, w_iv5, tfr_0, tfr_1, tfr_2, tfr_3, tfr_4, w_ire, trg, true_and, and_true, Nat.reduceAdd, Nat.reduceSub, eq_self, tshm_14, tshm_31, tshm_32, tykm_31, tykm_32, tci_15, tci_960, tykm_14, tci_14, tshm_667, tshm_668, tshm_669, tshm_670, tykm_33, tci_700, tsn_671, tyn_17, tcn_10, tzs_672, tzs_673, tzs_680, tzs_681, tzs_682, tzs_683, tzs_684, tzs_685, tzs_686, tzs_687, tzs_688, tzs_689, tzy_15, tzy_35, tzy_36, tzy_37, tzy_38, tzy_39, tzy_40, tzc_60, tzc_320, tzc_5, tzc_4, tzc_8]
  exact ⟨by omega, z, rfl, rfl, q⟩
end MODEL
