/-! THE MODEL: the value of a part of a formula. -/

/-- the boxes that x and y are -/
def VX (M : tM) (f : Int) : Prop := ((0 ≤ M 664 37 ∧ M 664 37 < f) ∧ OB M (M 664 37)) ∧ ((0 ≤ M 664 38 ∧ M 664 38 < f) ∧ OB M (M 664 38))
/-- the parts of a formula from b on -/
def FT (M : tM) (b s : Int) : Prop := (0 ≤ b ∧ b + s ≤ 320) ∧ ∀ k : Int, b ≤ k → k < b + s → FN M b k
def VI (M : tM) (D : Nat) (f b s : Int) : Prop := MB M D f ∧ VX M f ∧ FT M b s
theorem MB_x {T : Int → Prop} {M M1 : tM} {D : Nat} {f : Int} (h : MB M D f) (hx : xE T M M1) : MB M1 D f := by
  obtain ⟨h1, h2, h3, h4, h5, h6⟩ := h
  exact ⟨(xE_d hx).trans h1, h2, hx.2.trans h3, h4, xE_B hx h5, xE_K hx h6⟩
theorem MB_y {T : Int → Prop} {M M1 : tM} {D : Nat} {f g : Int} (h : MB M D f) (hx : yE T M M1) (h1 : M1 664 11 = g) (hg : 0 ≤ g ∧ g < 700) : MB M1 D g := by
  obtain ⟨a1, a2, a3, a4, a5, a6⟩ := h
  exact ⟨(yE_d hx).trans a1, a2, h1, hg, hx.2.2 a5, hx.2.1 a6⟩
theorem OB_y {T : Int → Prop} {M M1 : tM} {b : Int} (h : OB M b) (hx : yE T M M1) (hb : ¬ T b) : OB M1 b := by
  unfold OB at h ⊢
  rw [yE_lo hx hb, yE_hi hx hb]
  exact h
theorem FT_y {T : Int → Prop} {M M1 : tM} {b s : Int} (h : FT M b s) (hx : yE T M M1) : FT M1 b s :=
  ⟨h.1, fun k k1 k2 => FN_same (fun c hc => hx.1 c k (by omega) (by omega) (by omega) (fun q => by have := q.1; unfold isB at this; omega)) (h.2 k k1 k2)⟩
theorem VX_y {T : Int → Prop} {M M1 : tM} {f g : Int} (h : VX M f) (hx : yE T M M1) (hT : ∀ r, T r → f ≤ r) (hg : f ≤ g) : VX M1 g := by
  have e1 : M1 664 37 = M 664 37 := hx.1 664 37 (by decide) (by decide) (by decide) (fun q => by have := q.1; unfold isB at this; omega)
  have e2 : M1 664 38 = M 664 38 := hx.1 664 38 (by decide) (by decide) (by decide) (fun q => by have := q.1; unfold isB at this; omega)
  obtain ⟨⟨a1, a2⟩, a3, a4⟩ := h
  unfold VX
  rw [e1, e2]
  exact ⟨⟨by omega, OB_y a2 hx (fun q => by have := hT _ q; omega)⟩, by omega, OB_y a4 hx (fun q => by have := hT _ q; omega)⟩
theorem VI_y {T : Int → Prop} {M M1 : tM} {D : Nat} {f g b s : Int} (h : VI M D f b s) (hx : yE T M M1) (hT : ∀ r, T r → f ≤ r) (h1 : M1 664 11 = g) (hg : f ≤ g ∧ g < 700) : VI M1 D g b s := by
  have h3 := h.1.2.2.2.1
  exact ⟨MB_y h.1 hx h1 (by omega), VX_y h.2.1 hx hT hg.1, FT_y h.2.2 hx⟩
theorem OK3_free {z to v : Int} {M : tM} (h : OK3 z M to) : OK3 z (tU M 664 11 v) to :=
  ⟨h.1, fun q => by have := h.2 q; unfold OB at this ⊢; rw [yE_lo (yE_free (T := fun _ => False)) id, yE_hi (yE_free (T := fun _ => False)) id]; exact this⟩
theorem yE_in {to f : Int} {M M1 : tM} (h : xE (toF to f) M M1) {g : Int} (h1 : g ≤ to) (h2 : g ≤ f) : yE (fun r => g ≤ r) M M1 := yE_mono h.1 (fun r q => by rcases q with q | q <;> omega)
theorem OB_x {to f y : Int} {M M1 : tM} (h : xE (toF to f) M M1) (ho : OB M y) (h1 : y ≠ to) (h2 : y < f) : OB M1 y := OB_y ho h.1 (fun q => by rcases q with q | q <;> omega)
section MODEL
variable {e : tE}
theorem o_whole {M : tM} {d n D v : Nat} {to f : Int} (h : MB M D f) (ht : 0 ≤ to ∧ to < 700) (hv : v ≤ 100) (hd : 6 ≤ d) : tC e d 3734 [.inr (.inr (.inl 664)), .inl to, .inr (.inl (v : Int))] M n (tQi n (fun z M' => OK3 z M' to ∧ xE (toF to f) M M')) := by
  refine tst_X12_whole ?_
  refine tb_X12_whole_0 (c := false) ?_
  simp only [kb_X12_whole_0, w_ald_0, w_bi, w_lc0, w_lld_2, w_iv3, tfr_0, tfr_1, tfr_2, tfr_3, tfr_4, w_ild_1, w_ic, w_iv4, w_ire, trg, true_and, and_true, Nat.reduceAdd, Nat.reduceSub, eq_self, tshm_14, tshm_31, tshm_32, tykm_31, tykm_32, tci_15, tci_960, tykm_14, tci_14, tshm_667, tshm_668, tshm_669, tshm_670, tykm_33, tci_700, tsn_671, tyn_17, tcn_10, tzs_672, tzs_673, tzs_680, tzs_681, tzs_682, tzs_683, tzs_684, tzs_685, tzs_686, tzs_687, tzs_688, tzs_689, tzy_15, tzy_35, tzy_36, tzy_37, tzy_38, tzy_39, tzy_40, tzc_60, tzc_320, tzc_5, tzc_4, tzc_8]
  refine tc_n (D := 1) (fun d' hd' => c_sets (u := 0) (by omega) (by omega) (by omega) hd') (by omega) ?_
  rintro M1 ⟨p1, p2⟩
  have hx : xE (toF to f) M M1 := xE_U (rU_r p2) (by omega) (by omega) (by omega)
  try simp only [kb_X12_whole_0, w_ald_0, w_bi, w_lc0, w_lld_2, w_iv3, tfr_0, tfr_1, tfr_2, tfr_3, tfr_4, w_ild_1, w_ic, w_iv4, w_ire, trg, true_and, and_true, Nat.reduceAdd, Nat.reduceSub, eq_self, tshm_14, tshm_31, tshm_32, tykm_31, tykm_32, tci_15, tci_960, tykm_14, tci_14, tshm_667, tshm_668, tshm_669, tshm_670, tykm_33, tci_700, tsn_671, tyn_17, tcn_10, tzs_672, tzs_673, tzs_680, tzs_681, tzs_682, tzs_683, tzs_684, tzs_685, tzs_686, tzs_687, tzs_688, tzs_689, tzy_15, tzy_35, tzy_36, tzy_37, tzy_38, tzy_39, tzy_40, tzc_60, tzc_320, tzc_5, tzc_4, tzc_8]
  refine tc_i (D := 5) (fun d' hd' => o_number (s := 0) (MB_x h hx) ht (by omega) (by omega) p1 (Nat.lt_of_lt_of_le (show 0 * 1000000000 + v < tn 20 by rw [tz_t20]; omega) (tn_mono (by omega))) (by omega) (Or.inl rfl) hd') (by omega) ?_
  rintro z M2 ⟨q1, q2⟩
  try simp only [kb_X12_whole_0, w_ald_0, w_bi, w_lc0, w_lld_2, w_iv3, tfr_0, tfr_1, tfr_2, tfr_3, tfr_4, w_ild_1, w_ic, w_iv4, w_ire, trg, true_and, and_true, Nat.reduceAdd, Nat.reduceSub, eq_self, tshm_14, tshm_31, tshm_32, tykm_31, tykm_32, tci_15, tci_960, tykm_14, tci_14, tshm_667, tshm_668, tshm_669, tshm_670, tykm_33, tci_700, tsn_671, tyn_17, tcn_10, tzs_672, tzs_673, tzs_680, tzs_681, tzs_682, tzs_683, tzs_684, tzs_685, tzs_686, tzs_687, tzs_688, tzs_689, tzy_15, tzy_35, tzy_36, tzy_37, tzy_38, tzy_39, tzy_40, tzc_60, tzc_320, tzc_5, tzc_4, tzc_8]
  exact ⟨z, rfl, rfl, q1, xE_tr hx q2⟩
theorem o_values {D : Nat} {b s : Int} : ∀ (q : Nat) {M : tM} {d n : Nat} {to f p : Int}, VI M D f b s → (b ≤ p ∧ p < b + s ∧ p < b + (q : Int)) → (0 ≤ to ∧ to < f) → f + 2 * (q : Int) ≤ 690 → 8 + q ≤ d → tC e d 3733 [.inr (.inr (.inl 664)), .inl to, .inl p] M n (tQi n (fun z M' => OK3 z M' to ∧ xE (toF to f) M M')) := by
  intro q
  induction q with
  | zero => intro M d n to f p h1 h2; exfalso; omega
  | succ q ih =>
    intro M d n to f p hV hp ht hq hd
    have hFN := hV.2.2.2 p hp.1 hp.2.1
    have hb0 := hV.2.2.1
    have hf3 := hV.1.2.2.1
    have hf4 := hV.1.2.2.2.1
    have hBI := hV.1.2.2.2.2.1
    obtain ⟨⟨hx1, hx2⟩, hy1, hy2⟩ := hV.2.1
    refine tst_X12_values ?_
    have n311 : ∀ (A B C : Option tV) (M1 : tM) (z : Int), OK3 z M1 to → yE (toF to f) M M1 → M1 664 11 = f + 2 → tT e d 3733 311 [some (.inr (.inr (.inl 664))), some (.inl (to)), some (.inl (p)), A, B, C, some (.inl (z))] [] M1 n (tQi n (fun z M' => OK3 z M' to ∧ xE (toF to f) M M')) := by
      intro A B C M1 z a1 a2 a3
      refine tb_X12_values_311 (c := false) ?_
      simp only [kb_X12_values_311, w_ald_0, w_dupi, w_dupr, w_gf_14_11, tw_f, w_ic, w_isub, w_pf_14_11, w_ild6, w_ire, trg, true_and, and_true, Nat.reduceAdd, Nat.reduceSub, eq_self, tshm_14, tshm_31, tshm_32, tykm_31, tykm_32, tci_15, tci_960, tykm_14, tci_14, tshm_667, tshm_668, tshm_669, tshm_670, tykm_33, tci_700, tsn_671, tyn_17, tcn_10, tzs_672, tzs_673, tzs_680, tzs_681, tzs_682, tzs_683, tzs_684, tzs_685, tzs_686, tzs_687, tzs_688, tzs_689, tzy_15, tzy_35, tzy_36, tzy_37, tzy_38, tzy_39, tzy_40, tzc_60, tzc_320, tzc_5, tzc_4, tzc_8]
      rw [a3]
      exact ⟨z, rfl, rfl, OK3_free a1, yE_tr a2 yE_free, by rw [tU_eq]; omega⟩
    have n52 : (0 ≤ M 684 p ∧ M 684 p < 1000000000000) → (0 ≤ M 683 p ∧ M 683 p ≤ 12) → ∀ A B C E : Option tV, tT e d 3733 52 [some (.inr (.inr (.inl 664))), some (.inl (to)), some (.inl (p)), A, B, C, E] [] M n (tQi n (fun z M' => OK3 z M' to ∧ xE (toF to f) M M')) := by
      intro h1 h2 A B C E
      obtain ⟨x, hx⟩ : ∃ x : Nat, M 684 p = (x : Int) := ⟨(M 684 p).toNat, by omega⟩
      obtain ⟨k, hk⟩ : ∃ k : Nat, M 683 p = (k : Int) := ⟨(M 683 p).toNat, by omega⟩
      refine tb_X12_values_52 (c := false) ?_
      simp only [kb_X12_values_52, w_ald_0, w_bi, w_gf_14_30, tw_f, w_ild_2, w_la, w_lax, w_ld2, w_ldiv, w_lrem, w_iv3, tfr_0, tfr_1, tfr_2, tfr_3, tfr_4, w_ild_1, w_gf_14_29, w_ia, w_iax, w_ic, w_iv4, w_ire, trg, true_and, and_true, Nat.reduceAdd, Nat.reduceSub, eq_self, tshm_14, tshm_31, tshm_32, tykm_31, tykm_32, tci_15, tci_960, tykm_14, tci_14, tshm_667, tshm_668, tshm_669, tshm_670, tykm_33, tci_700, tsn_671, tyn_17, tcn_10, tzs_672, tzs_673, tzs_680, tzs_681, tzs_682, tzs_683, tzs_684, tzs_685, tzs_686, tzs_687, tzs_688, tzs_689, tzy_15, tzy_35, tzy_36, tzy_37, tzy_38, tzy_39, tzy_40, tzc_60, tzc_320, tzc_5, tzc_4, tzc_8, hx]
      rw [tdiv_N, tmod_N]
      refine ⟨by omega, by omega, by omega, by omega, ?_⟩
      refine tc_n (D := 1) (fun d' hd' => c_sets (by omega) (by omega) (by omega) hd') (by omega) ?_
      rintro M1 ⟨p1, p2⟩
      have hx : xE (toF to f) M M1 := xE_U (rU_r p2) (by omega) (by omega) (by omega)
      have e83 : M1 683 p = (k : Int) := (p2.1 683 p (by decide) (by decide)).trans hk
      try simp only [kb_X12_values_52, w_ald_0, w_bi, w_gf_14_30, tw_f, w_ild_2, w_la, w_lax, w_ld2, w_ldiv, w_lrem, w_iv3, tfr_0, tfr_1, tfr_2, tfr_3, tfr_4, w_ild_1, w_gf_14_29, w_ia, w_iax, w_ic, w_iv4, w_ire, trg, true_and, and_true, Nat.reduceAdd, Nat.reduceSub, eq_self, tshm_14, tshm_31, tshm_32, tykm_31, tykm_32, tci_15, tci_960, tykm_14, tci_14, tshm_667, tshm_668, tshm_669, tshm_670, tykm_33, tci_700, tsn_671, tyn_17, tcn_10, tzs_672, tzs_673, tzs_680, tzs_681, tzs_682, tzs_683, tzs_684, tzs_685, tzs_686, tzs_687, tzs_688, tzs_689, tzy_15, tzy_35, tzy_36, tzy_37, tzy_38, tzy_39, tzy_40, tzc_60, tzc_320, tzc_5, tzc_4, tzc_8, e83]
      refine ⟨by omega, ?_⟩
      refine tc_i (D := 5) (fun d' hd' => o_number (MB_x hV.1 hx) (by omega) (by omega) (by omega) p1 (Nat.lt_of_lt_of_le (show x / 1000000000 * 1000000000 + x % 1000000000 < tn 20 by rw [tz_t20]; omega) (tn_mono (by omega))) (by omega) (Or.inl rfl) hd') (by omega) ?_
      rintro z M2 ⟨q1, q2⟩
      try simp only [kb_X12_values_52, w_ald_0, w_bi, w_gf_14_30, tw_f, w_ild_2, w_la, w_lax, w_ld2, w_ldiv, w_lrem, w_iv3, tfr_0, tfr_1, tfr_2, tfr_3, tfr_4, w_ild_1, w_gf_14_29, w_ia, w_iax, w_ic, w_iv4, w_ire, trg, true_and, and_true, Nat.reduceAdd, Nat.reduceSub, eq_self, tshm_14, tshm_31, tshm_32, tykm_31, tykm_32, tci_15, tci_960, tykm_14, tci_14, tshm_667, tshm_668, tshm_669, tshm_670, tykm_33, tci_700, tsn_671, tyn_17, tcn_10, tzs_672, tzs_673, tzs_680, tzs_681, tzs_682, tzs_683, tzs_684, tzs_685, tzs_686, tzs_687, tzs_688, tzs_689, tzy_15, tzy_35, tzy_36, tzy_37, tzy_38, tzy_39, tzy_40, tzc_60, tzc_320, tzc_5, tzc_4, tzc_8]
      exact ⟨z, rfl, rfl, q1, xE_tr hx q2⟩
    have n93 : ∀ A B C E : Option tV, tT e d 3733 93 [some (.inr (.inr (.inl 664))), some (.inl (to)), some (.inl (p)), A, B, C, E] [] M n (tQi n (fun z M' => OK3 z M' to ∧ xE (toF to f) M M')) := by
      intro A B C E
      refine tb_X12_values_93 (c := false) ?_
      simp only [kb_X12_values_93, w_ald_0, w_ild_1, w_ic, w_iv2, tfr_0, tfr_1, tfr_2, tfr_3, tfr_4, w_ire, trg, true_and, and_true, Nat.reduceAdd, Nat.reduceSub, eq_self, tshm_14, tshm_31, tshm_32, tykm_31, tykm_32, tci_15, tci_960, tykm_14, tci_14, tshm_667, tshm_668, tshm_669, tshm_670, tykm_33, tci_700, tsn_671, tyn_17, tcn_10, tzs_672, tzs_673, tzs_680, tzs_681, tzs_682, tzs_683, tzs_684, tzs_685, tzs_686, tzs_687, tzs_688, tzs_689, tzy_15, tzy_35, tzy_36, tzy_37, tzy_38, tzy_39, tzy_40, tzc_60, tzc_320, tzc_5, tzc_4, tzc_8]
      refine tc_n (D := 5) (fun d' hd' => o_known hV.1 (by omega) (Or.inr rfl) hd') (by omega) ?_
      rintro M1 ⟨p1, p2⟩
      try simp only [kb_X12_values_93, w_ald_0, w_ild_1, w_ic, w_iv2, tfr_0, tfr_1, tfr_2, tfr_3, tfr_4, w_ire, trg, true_and, and_true, Nat.reduceAdd, Nat.reduceSub, eq_self, tshm_14, tshm_31, tshm_32, tykm_31, tykm_32, tci_15, tci_960, tykm_14, tci_14, tshm_667, tshm_668, tshm_669, tshm_670, tykm_33, tci_700, tsn_671, tyn_17, tcn_10, tzs_672, tzs_673, tzs_680, tzs_681, tzs_682, tzs_683, tzs_684, tzs_685, tzs_686, tzs_687, tzs_688, tzs_689, tzy_15, tzy_35, tzy_36, tzy_37, tzy_38, tzy_39, tzy_40, tzc_60, tzc_320, tzc_5, tzc_4, tzc_8]
      exact ⟨0, rfl, rfl, ⟨Or.inl rfl, fun _ => p1⟩, p2⟩
    have n101 : ∀ A B C E : Option tV, tT e d 3733 101 [some (.inr (.inr (.inl 664))), some (.inl (to)), some (.inl (p)), A, B, C, E] [] M n (tQi n (fun z M' => OK3 z M' to ∧ xE (toF to f) M M')) := by
      intro A B C E
      refine tb_X12_values_101 (c := false) ?_
      simp only [kb_X12_values_101, w_ald_0, w_gf_14_37, tw_f, w_ild_1, w_iv2, tfr_0, tfr_1, tfr_2, tfr_3, tfr_4, w_ic, w_ire, trg, true_and, and_true, Nat.reduceAdd, Nat.reduceSub, eq_self, tshm_14, tshm_31, tshm_32, tykm_31, tykm_32, tci_15, tci_960, tykm_14, tci_14, tshm_667, tshm_668, tshm_669, tshm_670, tykm_33, tci_700, tsn_671, tyn_17, tcn_10, tzs_672, tzs_673, tzs_680, tzs_681, tzs_682, tzs_683, tzs_684, tzs_685, tzs_686, tzs_687, tzs_688, tzs_689, tzy_15, tzy_35, tzy_36, tzy_37, tzy_38, tzy_39, tzy_40, tzc_60, tzc_320, tzc_5, tzc_4, tzc_8]
      refine tc_n (D := 0) (fun d' hd' => c_takes (by omega) (by omega)) (by omega) ?_
      rintro M1 rfl
      try simp only [kb_X12_values_101, w_ald_0, w_gf_14_37, tw_f, w_ild_1, w_iv2, tfr_0, tfr_1, tfr_2, tfr_3, tfr_4, w_ic, w_ire, trg, true_and, and_true, Nat.reduceAdd, Nat.reduceSub, eq_self, tshm_14, tshm_31, tshm_32, tykm_31, tykm_32, tci_15, tci_960, tykm_14, tci_14, tshm_667, tshm_668, tshm_669, tshm_670, tykm_33, tci_700, tsn_671, tyn_17, tcn_10, tzs_672, tzs_673, tzs_680, tzs_681, tzs_682, tzs_683, tzs_684, tzs_685, tzs_686, tzs_687, tzs_688, tzs_689, tzy_15, tzy_35, tzy_36, tzy_37, tzy_38, tzy_39, tzy_40, tzc_60, tzc_320, tzc_5, tzc_4, tzc_8]
      exact ⟨0, rfl, rfl, ⟨Or.inl rfl, fun _ => by unfold OB; rw [sTk_lo, sTk_hi]; exact hx2⟩, sTk_xE (Or.inl rfl) (hBI _ (by omega) (by omega))⟩
    have n112 : ∀ A B C E : Option tV, tT e d 3733 112 [some (.inr (.inr (.inl 664))), some (.inl (to)), some (.inl (p)), A, B, C, E] [] M n (tQi n (fun z M' => OK3 z M' to ∧ xE (toF to f) M M')) := by
      intro A B C E
      refine tb_X12_values_112 (c := false) ?_
      simp only [kb_X12_values_112, w_ald_0, w_gf_14_38, tw_f, w_ild_1, w_iv2, tfr_0, tfr_1, tfr_2, tfr_3, tfr_4, w_ic, w_ire, trg, true_and, and_true, Nat.reduceAdd, Nat.reduceSub, eq_self, tshm_14, tshm_31, tshm_32, tykm_31, tykm_32, tci_15, tci_960, tykm_14, tci_14, tshm_667, tshm_668, tshm_669, tshm_670, tykm_33, tci_700, tsn_671, tyn_17, tcn_10, tzs_672, tzs_673, tzs_680, tzs_681, tzs_682, tzs_683, tzs_684, tzs_685, tzs_686, tzs_687, tzs_688, tzs_689, tzy_15, tzy_35, tzy_36, tzy_37, tzy_38, tzy_39, tzy_40, tzc_60, tzc_320, tzc_5, tzc_4, tzc_8]
      refine tc_n (D := 0) (fun d' hd' => c_takes (by omega) (by omega)) (by omega) ?_
      rintro M1 rfl
      try simp only [kb_X12_values_112, w_ald_0, w_gf_14_38, tw_f, w_ild_1, w_iv2, tfr_0, tfr_1, tfr_2, tfr_3, tfr_4, w_ic, w_ire, trg, true_and, and_true, Nat.reduceAdd, Nat.reduceSub, eq_self, tshm_14, tshm_31, tshm_32, tykm_31, tykm_32, tci_15, tci_960, tykm_14, tci_14, tshm_667, tshm_668, tshm_669, tshm_670, tykm_33, tci_700, tsn_671, tyn_17, tcn_10, tzs_672, tzs_673, tzs_680, tzs_681, tzs_682, tzs_683, tzs_684, tzs_685, tzs_686, tzs_687, tzs_688, tzs_689, tzy_15, tzy_35, tzy_36, tzy_37, tzy_38, tzy_39, tzy_40, tzc_60, tzc_320, tzc_5, tzc_4, tzc_8]
      exact ⟨0, rfl, rfl, ⟨Or.inl rfl, fun _ => by unfold OB; rw [sTk_lo, sTk_hi]; exact hy2⟩, sTk_xE (Or.inl rfl) (hBI _ (by omega) (by omega))⟩
    have n123 : M 680 p ≠ 49 → M 680 p ≠ 112 → M 680 p ≠ 120 → M 680 p ≠ 121 → tT e d 3733 123 [some (.inr (.inr (.inl 664))), some (.inl (to)), some (.inl (p)), some (.inl ((M 680 p))), none, none, none] [] M n (tQi n (fun z M' => OK3 z M' to ∧ xE (toF to f) M M')) := by
      intro c1 c2 c3 c4
      have hu : b ≤ M 681 p ∧ M 681 p < p := by unfold FN at hFN; omega
      have hr : M 680 p = 43 ∨ M 680 p = 45 ∨ M 680 p = 42 ∨ M 680 p = 47 → b ≤ M 682 p ∧ M 682 p < p := by unfold FN at hFN; omega
      have hk : M 680 p = 94 → 0 ≤ M 682 p ∧ M 682 p ≤ 9 := by unfold FN at hFN; omega
      have hc : M 680 p = 110 ∨ M 680 p = 114 ∨ M 680 p = 101 ∨ M 680 p = 108 ∨ M 680 p = 97 ∨ M 680 p = 94 ∨ M 680 p = 43 ∨ M 680 p = 45 ∨ M 680 p = 42 ∨ M 680 p = 47 := by unfold FN at hFN; omega
      generalize M 680 p = c at hr hk hc ⊢
      refine tb_X12_values_123 (c := false) ?_
      simp (disch := decide) only [kb_X12_values_123, w_ald_0, w_gf_14_11, tw_f, w_ist4, tkl_n, tkl_i, tkl_l, tkl_r, w_ic, w_iadd, w_ist5, w_dupi, w_dupr, w_pf_14_11, w_ild4, w_gf_14_27, w_ild_2, w_ia, w_iax, w_iv2, tfr_0, tfr_1, tfr_2, tfr_3, tfr_4, w_ist6, w_ild6, w_if_ne, w_ild_3, w_sw, tsw, true_and, and_true, Nat.reduceAdd, Nat.reduceSub, eq_self, tshm_14, tshm_31, tshm_32, tykm_31, tykm_32, tci_15, tci_960, tykm_14, tci_14, tshm_667, tshm_668, tshm_669, tshm_670, tykm_33, tci_700, tsn_671, tyn_17, tcn_10, tzs_672, tzs_673, tzs_680, tzs_681, tzs_682, tzs_683, tzs_684, tzs_685, tzs_686, tzs_687, tzs_688, tzs_689, tzy_15, tzy_35, tzy_36, tzy_37, tzy_38, tzy_39, tzy_40, tzc_60, tzc_320, tzc_5, tzc_4, tzc_8, hf3, tU_nk, tU_ni, tU_eq]
      refine ⟨by omega, ?_⟩
      have hy0 : yE (fun r => f ≤ r) M (tU M 664 11 (f + 2)) := yE_free
      have hV0 : VI (tU M 664 11 (f + 2)) D (f + 2) b s := VI_y hV hy0 (fun _ q => q) (tU_eq ..) (by omega)
      generalize tU M 664 11 (f + 2) = M0 at hy0 hV0 ⊢
      refine tc_i (D := 8 + q) (fun d' hd' => ih hV0 (by omega) (by omega) (by omega) hd') (by omega) ?_
      rintro z M1 ⟨q1, q2⟩
      have hy1 : yE (fun r => f ≤ r) M M1 := yE_tr hy0 (yE_in q2 (by omega) (by omega))
      have hV1 : VI M1 D (f + 2) b s := VI_y hV hy1 (fun _ q => q) (q2.2.trans hV0.1.2.2.1) (by omega)
      have e82 : M1 682 p = M 682 p := hy1.1 682 p (by decide) (by decide) (by omega) (fun q => by have := q.1; unfold isB at this; omega)
      have f1 := hV1.1.2.2.1
      have hyt : yE (toF to f) M M1 := yE_mono hy1 (fun _ q => Or.inr q)
      have out : ∀ (M2 : tM), xE (toF to (f + 2)) M1 M2 → yE (toF to f) M M2 ∧ M2 664 11 = f + 2 := fun M2 g => ⟨yE_tr hyt (yE_mono g.1 (fun r q => by rcases q with q | q; exact Or.inl q; exact Or.inr (by omega))), g.2.trans f1⟩
      try simp only [kb_X12_values_123, w_ald_0, w_gf_14_11, tw_f, w_ist4, tkl_n, tkl_i, tkl_l, tkl_r, w_ic, w_iadd, w_ist5, w_dupi, w_dupr, w_pf_14_11, w_ild4, w_gf_14_27, w_ild_2, w_ia, w_iax, w_iv2, tfr_0, tfr_1, tfr_2, tfr_3, tfr_4, w_ist6, w_ild6, w_if_ne, w_ild_3, w_sw, tsw, true_and, and_true, Nat.reduceAdd, Nat.reduceSub, eq_self, tshm_14, tshm_31, tshm_32, tykm_31, tykm_32, tci_15, tci_960, tykm_14, tci_14, tshm_667, tshm_668, tshm_669, tshm_670, tykm_33, tci_700, tsn_671, tyn_17, tcn_10, tzs_672, tzs_673, tzs_680, tzs_681, tzs_682, tzs_683, tzs_684, tzs_685, tzs_686, tzs_687, tzs_688, tzs_689, tzy_15, tzy_35, tzy_36, tzy_37, tzy_38, tzy_39, tzy_40, tzc_60, tzc_320, tzc_5, tzc_4, tzc_8]
      have hz := q1.1
      refine ⟨by omega, fun h => n311 _ _ _ M1 z ⟨hz, fun q => absurd q h⟩ hyt f1, fun h => ?_⟩
      have ho : OB M1 f := q1.2 (by omega)
      have n267 : tT e d 3733 267 [some (.inr (.inr (.inl 664))), some (.inl (to)), some (.inl (p)), some (.inl (c)), some (.inl (f)), some (.inl (f + 1)), some (.inl (z))] [] M1 n (tQi n (fun z M' => OK3 z M' to ∧ xE (toF to f) M M')) := by
        refine tb_X12_values_267 (c := false) ?_
        simp only [kb_X12_values_267, w_ald_0, w_ild_1, w_ild4, w_ild_3, w_iv3, tfr_0, tfr_1, tfr_2, tfr_3, tfr_4, w_ist6, tkl_n, tkl_i, tkl_l, tkl_r, w_goto, true_and, and_true, Nat.reduceAdd, Nat.reduceSub, eq_self, tshm_14, tshm_31, tshm_32, tykm_31, tykm_32, tci_15, tci_960, tykm_14, tci_14, tshm_667, tshm_668, tshm_669, tshm_670, tykm_33, tci_700, tsn_671, tyn_17, tcn_10, tzs_672, tzs_673, tzs_680, tzs_681, tzs_682, tzs_683, tzs_684, tzs_685, tzs_686, tzs_687, tzs_688, tzs_689, tzy_15, tzy_35, tzy_36, tzy_37, tzy_38, tzy_39, tzy_40, tzc_60, tzc_320, tzc_5, tzc_4, tzc_8]
        refine tc_i (D := 7) (fun d' hd' => o_rising hV1.1 (by omega) (by omega) ho (by omega) hd') (by omega) ?_
        rintro z2 M2 ⟨p1, p2⟩
        try simp only [kb_X12_values_267, w_ald_0, w_ild_1, w_ild4, w_ild_3, w_iv3, tfr_0, tfr_1, tfr_2, tfr_3, tfr_4, w_ist6, tkl_n, tkl_i, tkl_l, tkl_r, w_goto, true_and, and_true, Nat.reduceAdd, Nat.reduceSub, eq_self, tshm_14, tshm_31, tshm_32, tykm_31, tykm_32, tci_15, tci_960, tykm_14, tci_14, tshm_667, tshm_668, tshm_669, tshm_670, tykm_33, tci_700, tsn_671, tyn_17, tcn_10, tzs_672, tzs_673, tzs_680, tzs_681, tzs_682, tzs_683, tzs_684, tzs_685, tzs_686, tzs_687, tzs_688, tzs_689, tzy_15, tzy_35, tzy_36, tzy_37, tzy_38, tzy_39, tzy_40, tzc_60, tzc_320, tzc_5, tzc_4, tzc_8]
        exact n311 _ _ _ M2 z2 p1 (out M2 p2).1 (out M2 p2).2
      refine ⟨by omega, fun g => ?_, fun g1 => ⟨fun g => n267, fun g2 => ⟨fun g => n267, fun g3 => ⟨fun g => n267, fun g4 => ⟨fun g => ?_, fun g5 => ⟨fun g => ?_, fun g6 => ?_⟩⟩⟩⟩⟩⟩
      · show tT e d 3733 224 _ _ _ _ _
        have hk := hk g
        obtain ⟨k, hkk⟩ : ∃ k : Nat, M 682 p = (k : Int) := ⟨(M 682 p).toNat, by omega⟩
        rw [hkk] at e82
        refine tb_X12_values_224 (c := false) ?_
        simp only [kb_X12_values_224, w_ald_0, w_ild_1, w_ild4, w_gf_14_28, tw_f, w_ild_2, w_ia, w_iax, w_iv3, tfr_0, tfr_1, tfr_2, tfr_3, tfr_4, w_ist6, tkl_n, tkl_i, tkl_l, tkl_r, w_goto, true_and, and_true, Nat.reduceAdd, Nat.reduceSub, eq_self, tshm_14, tshm_31, tshm_32, tykm_31, tykm_32, tci_15, tci_960, tykm_14, tci_14, tshm_667, tshm_668, tshm_669, tshm_670, tykm_33, tci_700, tsn_671, tyn_17, tcn_10, tzs_672, tzs_673, tzs_680, tzs_681, tzs_682, tzs_683, tzs_684, tzs_685, tzs_686, tzs_687, tzs_688, tzs_689, tzy_15, tzy_35, tzy_36, tzy_37, tzy_38, tzy_39, tzy_40, tzc_60, tzc_320, tzc_5, tzc_4, tzc_8, e82]
        refine ⟨by omega, ?_⟩
        refine tc_i (D := 5) (fun d' hd' => o_lifted hV1.1 (by omega) (by omega) ho (by omega) hd') (by omega) ?_
        rintro z2 M2 ⟨p1, p2⟩
        try simp only [kb_X12_values_224, w_ald_0, w_ild_1, w_ild4, w_gf_14_28, tw_f, w_ild_2, w_ia, w_iax, w_iv3, tfr_0, tfr_1, tfr_2, tfr_3, tfr_4, w_ist6, tkl_n, tkl_i, tkl_l, tkl_r, w_goto, true_and, and_true, Nat.reduceAdd, Nat.reduceSub, eq_self, tshm_14, tshm_31, tshm_32, tykm_31, tykm_32, tci_15, tci_960, tykm_14, tci_14, tshm_667, tshm_668, tshm_669, tshm_670, tykm_33, tci_700, tsn_671, tyn_17, tcn_10, tzs_672, tzs_673, tzs_680, tzs_681, tzs_682, tzs_683, tzs_684, tzs_685, tzs_686, tzs_687, tzs_688, tzs_689, tzy_15, tzy_35, tzy_36, tzy_37, tzy_38, tzy_39, tzy_40, tzc_60, tzc_320, tzc_5, tzc_4, tzc_8]
        exact n311 _ _ _ M2 z2 p1 (out M2 p2).1 (out M2 p2).2
      · show tT e d 3733 242 _ _ _ _ _
        refine tb_X12_values_242 (c := false) ?_
        simp only [kb_X12_values_242, w_ald_0, w_ild_1, w_ild4, w_iv2, tfr_0, tfr_1, tfr_2, tfr_3, tfr_4, w_ist6, tkl_n, tkl_i, tkl_l, tkl_r, w_goto, true_and, and_true, Nat.reduceAdd, Nat.reduceSub, eq_self, tshm_14, tshm_31, tshm_32, tykm_31, tykm_32, tci_15, tci_960, tykm_14, tci_14, tshm_667, tshm_668, tshm_669, tshm_670, tykm_33, tci_700, tsn_671, tyn_17, tcn_10, tzs_672, tzs_673, tzs_680, tzs_681, tzs_682, tzs_683, tzs_684, tzs_685, tzs_686, tzs_687, tzs_688, tzs_689, tzy_15, tzy_35, tzy_36, tzy_37, tzy_38, tzy_39, tzy_40, tzc_60, tzc_320, tzc_5, tzc_4, tzc_8]
        refine tc_i (D := 3) (fun d' hd' => o_negative hV1.1 (by omega) (by omega) ho hd') (by omega) ?_
        rintro z2 M2 ⟨p1, p2⟩
        try simp only [kb_X12_values_242, w_ald_0, w_ild_1, w_ild4, w_iv2, tfr_0, tfr_1, tfr_2, tfr_3, tfr_4, w_ist6, tkl_n, tkl_i, tkl_l, tkl_r, w_goto, true_and, and_true, Nat.reduceAdd, Nat.reduceSub, eq_self, tshm_14, tshm_31, tshm_32, tykm_31, tykm_32, tci_15, tci_960, tykm_14, tci_14, tshm_667, tshm_668, tshm_669, tshm_670, tykm_33, tci_700, tsn_671, tyn_17, tcn_10, tzs_672, tzs_673, tzs_680, tzs_681, tzs_682, tzs_683, tzs_684, tzs_685, tzs_686, tzs_687, tzs_688, tzs_689, tzy_15, tzy_35, tzy_36, tzy_37, tzy_38, tzy_39, tzy_40, tzc_60, tzc_320, tzc_5, tzc_4, tzc_8]
        exact n311 _ _ _ M2 z2 p1 (out M2 p2).1 (out M2 p2).2
      · show tT e d 3733 254 _ _ _ _ _
        refine tb_X12_values_254 (c := false) ?_
        simp only [kb_X12_values_254, w_ald_0, w_ild_1, w_ild4, w_ic, w_iv3, tfr_0, tfr_1, tfr_2, tfr_3, tfr_4, w_ist6, tkl_n, tkl_i, tkl_l, tkl_r, w_goto, true_and, and_true, Nat.reduceAdd, Nat.reduceSub, eq_self, tshm_14, tshm_31, tshm_32, tykm_31, tykm_32, tci_15, tci_960, tykm_14, tci_14, tshm_667, tshm_668, tshm_669, tshm_670, tykm_33, tci_700, tsn_671, tyn_17, tcn_10, tzs_672, tzs_673, tzs_680, tzs_681, tzs_682, tzs_683, tzs_684, tzs_685, tzs_686, tzs_687, tzs_688, tzs_689, tzy_15, tzy_35, tzy_36, tzy_37, tzy_38, tzy_39, tzy_40, tzc_60, tzc_320, tzc_5, tzc_4, tzc_8]
        refine tc_i (D := 5) (fun d' hd' => o_rooted (k := 2) hV1.1 (by omega) (by omega) ho (by omega) hd') (by omega) ?_
        rintro z2 M2 ⟨p1, p2⟩
        try simp only [kb_X12_values_254, w_ald_0, w_ild_1, w_ild4, w_ic, w_iv3, tfr_0, tfr_1, tfr_2, tfr_3, tfr_4, w_ist6, tkl_n, tkl_i, tkl_l, tkl_r, w_goto, true_and, and_true, Nat.reduceAdd, Nat.reduceSub, eq_self, tshm_14, tshm_31, tshm_32, tykm_31, tykm_32, tci_15, tci_960, tykm_14, tci_14, tshm_667, tshm_668, tshm_669, tshm_670, tykm_33, tci_700, tsn_671, tyn_17, tcn_10, tzs_672, tzs_673, tzs_680, tzs_681, tzs_682, tzs_683, tzs_684, tzs_685, tzs_686, tzs_687, tzs_688, tzs_689, tzy_15, tzy_35, tzy_36, tzy_37, tzy_38, tzy_39, tzy_40, tzc_60, tzc_320, tzc_5, tzc_4, tzc_8]
        exact n311 _ _ _ M2 z2 p1 (out M2 p2).1 (out M2 p2).2
      · show tT e d 3733 280 _ _ _ _ _
        have hr := hr (by omega)
        refine tb_X12_values_280 (c := false) ?_
        simp only [kb_X12_values_280, w_ald_0, w_ild5, w_gf_14_28, tw_f, w_ild_2, w_ia, w_iax, w_iv2, tfr_0, tfr_1, tfr_2, tfr_3, tfr_4, w_ist6, tkl_n, tkl_i, tkl_l, tkl_r, w_ild6, w_if_ne, w_ild_1, w_ild_3, w_ild4, w_iv4, w_nil, true_and, and_true, Nat.reduceAdd, Nat.reduceSub, eq_self, tshm_14, tshm_31, tshm_32, tykm_31, tykm_32, tci_15, tci_960, tykm_14, tci_14, tshm_667, tshm_668, tshm_669, tshm_670, tykm_33, tci_700, tsn_671, tyn_17, tcn_10, tzs_672, tzs_673, tzs_680, tzs_681, tzs_682, tzs_683, tzs_684, tzs_685, tzs_686, tzs_687, tzs_688, tzs_689, tzy_15, tzy_35, tzy_36, tzy_37, tzy_38, tzy_39, tzy_40, tzc_60, tzc_320, tzc_5, tzc_4, tzc_8, e82]
        refine ⟨by omega, ?_⟩
        refine tc_i (D := 8 + q) (fun d' hd' => ih hV1 (by omega) (by omega) (by omega) hd') (by omega) ?_
        rintro z2 M2 ⟨p1, p2⟩
        have hy2 : yE (fun r => f ≤ r) M M2 := yE_tr hy1 (yE_in p2 (by omega) (by omega))
        have hV2 : VI M2 D (f + 2) b s := VI_y hV hy2 (fun _ q => q) (p2.2.trans f1) (by omega)
        have f2 := hV2.1.2.2.1
        have hyt2 : yE (toF to f) M M2 := yE_mono hy2 (fun _ q => Or.inr q)
        try simp only [kb_X12_values_280, w_ald_0, w_ild5, w_gf_14_28, tw_f, w_ild_2, w_ia, w_iax, w_iv2, tfr_0, tfr_1, tfr_2, tfr_3, tfr_4, w_ist6, tkl_n, tkl_i, tkl_l, tkl_r, w_ild6, w_if_ne, w_ild_1, w_ild_3, w_ild4, w_iv4, w_nil, true_and, and_true, Nat.reduceAdd, Nat.reduceSub, eq_self, tshm_14, tshm_31, tshm_32, tykm_31, tykm_32, tci_15, tci_960, tykm_14, tci_14, tshm_667, tshm_668, tshm_669, tshm_670, tykm_33, tci_700, tsn_671, tyn_17, tcn_10, tzs_672, tzs_673, tzs_680, tzs_681, tzs_682, tzs_683, tzs_684, tzs_685, tzs_686, tzs_687, tzs_688, tzs_689, tzy_15, tzy_35, tzy_36, tzy_37, tzy_38, tzy_39, tzy_40, tzc_60, tzc_320, tzc_5, tzc_4, tzc_8]
        have hz2 := p1.1
        refine ⟨by omega, fun h => n311 _ _ _ M2 z2 ⟨hz2, fun q => absurd q h⟩ hyt2 f2, fun h => ?_⟩
        refine tc_i (D := 7) (fun d' hd' => o_acts hV2.1 (by omega) (by omega) (by omega) (OB_x p2 ho (by omega) (by omega)) (p1.2 (by omega)) (by omega) hd') (by omega) ?_
        rintro z3 M3 ⟨r1, r2⟩
        try simp only [kb_X12_values_280, w_ald_0, w_ild5, w_gf_14_28, tw_f, w_ild_2, w_ia, w_iax, w_iv2, tfr_0, tfr_1, tfr_2, tfr_3, tfr_4, w_ist6, tkl_n, tkl_i, tkl_l, tkl_r, w_ild6, w_if_ne, w_ild_1, w_ild_3, w_ild4, w_iv4, w_nil, true_and, and_true, Nat.reduceAdd, Nat.reduceSub, eq_self, tshm_14, tshm_31, tshm_32, tykm_31, tykm_32, tci_15, tci_960, tykm_14, tci_14, tshm_667, tshm_668, tshm_669, tshm_670, tykm_33, tci_700, tsn_671, tyn_17, tcn_10, tzs_672, tzs_673, tzs_680, tzs_681, tzs_682, tzs_683, tzs_684, tzs_685, tzs_686, tzs_687, tzs_688, tzs_689, tzy_15, tzy_35, tzy_36, tzy_37, tzy_38, tzy_39, tzy_40, tzc_60, tzc_320, tzc_5, tzc_4, tzc_8]
        exact n311 _ _ _ M3 z3 r1 (yE_tr hyt2 (yE_mono r2.1 (fun r q => by rcases q with q | q; exact Or.inl q; exact Or.inr (by omega)))) (r2.2.trans f2)
    refine tb_X12_values_0 (c := false) ?_
    simp only [kb_X12_values_0, w_ald_0, w_gf_14_26, tw_f, w_ild_2, w_ca, w_ist_3, tkl_n, tkl_i, tkl_l, tkl_r, w_ild_3, w_sw, tsw, true_and, and_true, Nat.reduceAdd, Nat.reduceSub, eq_self, tshm_14, tshm_31, tshm_32, tykm_31, tykm_32, tci_15, tci_960, tykm_14, tci_14, tshm_667, tshm_668, tshm_669, tshm_670, tykm_33, tci_700, tsn_671, tyn_17, tcn_10, tzs_672, tzs_673, tzs_680, tzs_681, tzs_682, tzs_683, tzs_684, tzs_685, tzs_686, tzs_687, tzs_688, tzs_689, tzy_15, tzy_35, tzy_36, tzy_37, tzy_38, tzy_39, tzy_40, tzc_60, tzc_320, tzc_5, tzc_4, tzc_8]
    refine ⟨by omega, by unfold FN at hFN; omega, fun g => n52 (by unfold FN at hFN; omega) (by unfold FN at hFN; omega) _ _ _ _, fun g1 => ⟨fun g => n93 _ _ _ _, fun g2 => ⟨fun g => n101 _ _ _ _, fun g3 => ⟨fun g => n112 _ _ _ _, fun g4 => n123 g1 g2 g3 g4⟩⟩⟩⟩
end MODEL
