/-! WHAT HOLDS BETWEEN CALLS: kept by decide. -/
/-- what decide changes -/
def DCF (M M' : tM) : Prop := (RO M' ∧ CI M') ∧ ∀ (k : Nat) (i : Int), (k < 77 ∨ 496 < k) → k ≠ 651 → k ≠ 652 → M' k i = M k i
theorem DCF_tr {M M1 M2 : tM} (h : DCF M M1) (g : DCF M1 M2) : DCF M M2 := ⟨g.1, fun k i a b c => (g.2 k i a b c).trans (h.2 k i a b c)⟩
theorem DCF_m {b : Nat} {M M1 : tM} (h : MKF b M M1) (ro : RO M1) : DCF M M1 := ⟨⟨ro, h.1.1⟩, fun k i a _ _ => h.2.2 k i a⟩
theorem DCF_b {b : Nat} {M M1 : tM} (h : BE b M M1 650) (ro : RO M) : DCF M M1 := ⟨⟨RO_b ro h (by decide), h.1.1⟩, fun k i _ c d => h.2 k i c d⟩
section HAND
variable {e : tE} {d n : Nat} {M : tM}
theorem e_sideOf {r1 r2 c1 c2 x : Nat} {X : Int × Int} (hr1 : FMC r1) (hw1 : WFF M r1 c1) (hr2 : FMC r2) (hw2 : WFF M r2 c2) (hx : cl x 4) (hx2 : x + 2 < 77) (hX : BX M x X.1 X.2 ∧ GBX X) (hu : UU (M 78 5)) (he : EVr e) (hro : RO M) (hC : CI M) (hd : 9 ≤ d) : tC e d 3387 [.inr (.inr (.inl 0)), .inr (.inr (.inl r1)), .inr (.inr (.inl r2)), .inr (.inr (.inl x))] M n (tQi n (fun z M' => (-1 ≤ z ∧ z ≤ 1) ∧ DCF M M' ∧ M' 78 5 = M 78 5)) := by
  have sx := hx.1
  have sr1 := (FM_of hr1).1
  have sr2 := (FM_of hr2).1
  have rr1 : 499 < r1 ∧ r1 + 5 < 530 := by unfold FMC at hr1; omega
  have rr2 : 499 < r2 ∧ r2 + 5 < 530 := by unfold FMC at hr2; omega
  refine tst_X11_sideOf ?_
  have n102 : ∀ (M1 : tM) (z : Int), (0 ≤ z ∧ z ≤ 1) → DCF M M1 → M1 78 5 = M 78 5 → tT e d 3387 102 [some (.inr (.inr (.inl (0)))), some (.inr (.inr (.inl (r1)))), some (.inr (.inr (.inl (r2)))), some (.inr (.inr (.inl (x))))] [.inl z] M1 n (tQi n (fun z M' => (-1 ≤ z ∧ z ≤ 1) ∧ DCF M M' ∧ M' 78 5 = M 78 5)) := by
    intro M1 z hz f1 u1
    refine tb_X11_sideOf_102 (c := true) ?_
    simp only [kb_X11_sideOf_102, w_ire, trg, w64_r, true_and, and_true, Nat.reduceAdd, Nat.reduceSub, eq_self]
    exact ⟨_, rfl, rfl, by omega, f1, u1⟩
  refine tb_X11_sideOf_0 (c := true) ?_
  simp only [kb_X11_sideOf_0, w_ald_0, w_gf_13_4, tw_t, w_ald_3, w_iv2, tfr_0, tfr_1, tfr_2, tfr_3, tfr_4, w_ald_1, w_iv1, w_if_eq, w_ic, w_ire, trg, w64_r, true_and, and_true, Nat.reduceAdd, Nat.reduceSub, eq_self, tsh_0, tyk_13, tcq_13, tsh_77, tyk_8, tcq_8, tyk_4, tcq_4, tsh_113, tsh_650, tsh_651, tsh_652, tsh_114, tsh_115, tyk_3, tcq_3, tyk_7, tcq_7, sx, sr1, sr2]
  refine tc_n (D := 0) (fun d' hd' => z_aim (b := 0) hx hx (by decide) hC) (by omega) ?_
  rintro M1 ⟨⟨a1, a2, a3⟩, a4, a5⟩
  have f1 : DCF M M1 := ⟨⟨RO_u hro (a5 79 4 (by decide)) (a5 79 5 (by decide)), a4.1⟩, fun k i q _ _ => a5 k i (by omega)⟩
  have u1 : M1 78 5 = M 78 5 := a5 78 5 (by decide)
  try simp only [kb_X11_sideOf_0, w_ald_0, w_gf_13_4, tw_t, w_ald_3, w_iv2, tfr_0, tfr_1, tfr_2, tfr_3, tfr_4, w_ald_1, w_iv1, w_if_eq, w_ic, w_ire, trg, w64_r, true_and, and_true, Nat.reduceAdd, Nat.reduceSub, eq_self, tsh_0, tyk_13, tcq_13, tsh_77, tyk_8, tcq_8, tyk_4, tcq_4, tsh_113, tsh_650, tsh_651, tsh_652, tsh_114, tsh_115, tyk_3, tcq_3, tyk_7, tcq_7, sx, sr1, sr2]
  have X1 : BX M1 x X.1 X.2 := BX_f hX.1 (fun j => a5 _ _ (by omega)) (fun j => a5 _ _ (by omega))
  refine tc_i (D := 8) (fun d' hd' => z_makeValue (b := 0) (X := X) (Y := X) hr1 (WFF_f hw1 (fun k i g => a5 k i (by omega))) ⟨a1, hx, Or.inl hx2⟩ ⟨a2, hx, Or.inl hx2⟩ ⟨X1, hX.2⟩ ⟨X1, hX.2⟩ (by rw [u1]; exact hu) he f1.1.1 (by decide) a4.1 hd') (by omega) ?_
  rintro z2 M2 ⟨v0, v1, v2, v3⟩
  have f2 := DCF_tr f1 (DCF_m v3 v2)
  have u2 : M2 78 5 = M 78 5 := (UN_78 v3.1.2).trans u1
  try simp only [kb_X11_sideOf_0, w_ald_0, w_gf_13_4, tw_t, w_ald_3, w_iv2, tfr_0, tfr_1, tfr_2, tfr_3, tfr_4, w_ald_1, w_iv1, w_if_eq, w_ic, w_ire, trg, w64_r, true_and, and_true, Nat.reduceAdd, Nat.reduceSub, eq_self, tsh_0, tyk_13, tcq_13, tsh_77, tyk_8, tcq_8, tyk_4, tcq_4, tsh_113, tsh_650, tsh_651, tsh_652, tsh_114, tsh_115, tyk_3, tcq_3, tyk_7, tcq_7, sx, sr1, sr2]
  repeat refine And.intro (by omega) ?_
  refine ⟨fun q => ?_, fun _ => ⟨_, rfl, rfl, by decide, f2, u2⟩⟩
  obtain ⟨B, -, sB⟩ := v1 (by omega)
  obtain ⟨b1, g1⟩ := sB.2 0 (by decide)
  refine tb_X11_sideOf_22 (c := true) ?_
  simp only [kb_X11_sideOf_22, w_ald_0, w_gf_13_11, tw_t, w_gf_13_4, w_iv0, tfr_0, tfr_1, tfr_2, tfr_3, tfr_4, w_iv1, w_ald_2, w_if_eq, w_ic, w_ire, trg, w64_r, true_and, and_true, Nat.reduceAdd, Nat.reduceSub, eq_self, tsh_0, tyk_13, tcq_13, tsh_77, tyk_8, tcq_8, tyk_4, tcq_4, tsh_113, tsh_650, tsh_651, tsh_652, tsh_114, tsh_115, tyk_3, tcq_3, tyk_7, tcq_7, sx, sr1, sr2]
  refine tc_r (D := 1) (fun d' hd' => z_result sB.1 hd') (by omega) ?_
  rintro y M3 ⟨rfl, rfl⟩
  try simp only [kb_X11_sideOf_22, w_ald_0, w_gf_13_11, tw_t, w_gf_13_4, w_iv0, tfr_0, tfr_1, tfr_2, tfr_3, tfr_4, w_iv1, w_ald_2, w_if_eq, w_ic, w_ire, trg, w64_r, true_and, and_true, Nat.reduceAdd, Nat.reduceSub, eq_self, tsh_0, tyk_13, tcq_13, tsh_77, tyk_8, tcq_8, tyk_4, tcq_4, tsh_113, tsh_650, tsh_651, tsh_652, tsh_114, tsh_115, tyk_3, tcq_3, tyk_7, tcq_7, sx, sr1, sr2]
  refine tc_n (D := 1) (fun d' hd' => z_copy (b := 0) cl_650 cl_113 b1 (by decide) f2.1.2 hd') (by omega) ?_
  rintro M4 ⟨x4, w4⟩
  have f4 := DCF_tr f2 (DCF_b w4 f2.1.1)
  have u4 : M4 78 5 = M 78 5 := (w4.2 78 5 (by decide) (by decide)).trans u2
  try simp only [kb_X11_sideOf_22, w_ald_0, w_gf_13_11, tw_t, w_gf_13_4, w_iv0, tfr_0, tfr_1, tfr_2, tfr_3, tfr_4, w_iv1, w_ald_2, w_if_eq, w_ic, w_ire, trg, w64_r, true_and, and_true, Nat.reduceAdd, Nat.reduceSub, eq_self, tsh_0, tyk_13, tcq_13, tsh_77, tyk_8, tcq_8, tyk_4, tcq_4, tsh_113, tsh_650, tsh_651, tsh_652, tsh_114, tsh_115, tyk_3, tcq_3, tyk_7, tcq_7, sx, sr1, sr2]
  have X4 : BX M4 x X.1 X.2 := BX_f hX.1 (fun j => f4.2 _ _ (by omega) (by omega) (by omega)) (fun j => f4.2 _ _ (by omega) (by omega) (by omega))
  have p3 : M4 77 3 = (x : Int) := (w4.2 77 3 (by decide) (by decide)).trans ((v3.2.1 3 (by decide)).trans a1)
  have p4 : M4 77 4 = (x : Int) := (w4.2 77 4 (by decide) (by decide)).trans ((v3.2.1 4 (by decide)).trans a2)
  refine tc_i (D := 8) (fun d' hd' => z_makeValue (b := 0) (X := X) (Y := X) hr2 (WFF_f hw2 (fun k i g => f4.2 k i (by omega) (by omega) (by omega))) ⟨p3, hx, Or.inl hx2⟩ ⟨p4, hx, Or.inl hx2⟩ ⟨X4, hX.2⟩ ⟨X4, hX.2⟩ (by rw [u4]; exact hu) he f4.1.1 (by decide) f4.1.2 hd') (by omega) ?_
  rintro z5 M5 ⟨t0, t1, t2, t3⟩
  have f5 := DCF_tr f4 (DCF_m t3 t2)
  have u5 : M5 78 5 = M 78 5 := (UN_78 t3.1.2).trans u4
  have x5 : BX M5 650 (B 0).1 (B 0).2 := BX_f x4 (fun j => t3.2.2 _ _ (by decide)) (fun j => t3.2.2 _ _ (by decide))
  try simp only [kb_X11_sideOf_22, w_ald_0, w_gf_13_11, tw_t, w_gf_13_4, w_iv0, tfr_0, tfr_1, tfr_2, tfr_3, tfr_4, w_iv1, w_ald_2, w_if_eq, w_ic, w_ire, trg, w64_r, true_and, and_true, Nat.reduceAdd, Nat.reduceSub, eq_self, tsh_0, tyk_13, tcq_13, tsh_77, tyk_8, tcq_8, tyk_4, tcq_4, tsh_113, tsh_650, tsh_651, tsh_652, tsh_114, tsh_115, tyk_3, tcq_3, tyk_7, tcq_7, sx, sr1, sr2]
  repeat refine And.intro (by omega) ?_
  refine ⟨fun q2 => ?_, fun _ => ⟨_, rfl, rfl, by decide, f5, u5⟩⟩
  obtain ⟨C, -, sC⟩ := t1 (by omega)
  obtain ⟨c1', g2⟩ := sC.2 0 (by decide)
  refine tb_X11_sideOf_49 (c := true) ?_
  simp only [kb_X11_sideOf_49, w_ald_0, w_gf_13_11, tw_t, w_gf_4_1, w_gf_13_4, w_iv0, tfr_0, tfr_1, tfr_2, tfr_3, tfr_4, w_gf_4_0, w_iv1, w_if_eq, w_ic, w_ire, trg, w64_r, true_and, and_true, Nat.reduceAdd, Nat.reduceSub, eq_self, tsh_0, tyk_13, tcq_13, tsh_77, tyk_8, tcq_8, tyk_4, tcq_4, tsh_113, tsh_650, tsh_651, tsh_652, tsh_114, tsh_115, tyk_3, tcq_3, tyk_7, tcq_7, sx, sr1, sr2]
  refine tc_r (D := 1) (fun d' hd' => z_result sC.1 hd') (by omega) ?_
  rintro y M6 ⟨rfl, rfl⟩
  try simp only [kb_X11_sideOf_49, w_ald_0, w_gf_13_11, tw_t, w_gf_4_1, w_gf_13_4, w_iv0, tfr_0, tfr_1, tfr_2, tfr_3, tfr_4, w_gf_4_0, w_iv1, w_if_eq, w_ic, w_ire, trg, w64_r, true_and, and_true, Nat.reduceAdd, Nat.reduceSub, eq_self, tsh_0, tyk_13, tcq_13, tsh_77, tyk_8, tcq_8, tyk_4, tcq_4, tsh_113, tsh_650, tsh_651, tsh_652, tsh_114, tsh_115, tyk_3, tcq_3, tyk_7, tcq_7, sx, sr1, sr2]
  refine tc_i (D := 0) (fun d' hd' => y_isBelow cl_652 cl_114 x5.2 c1'.1 (RV_g g1).2 (RV_g g2).1) (by omega) ?_
  rintro z7 M7 ⟨hz7, rfl⟩
  try simp only [kb_X11_sideOf_49, w_ald_0, w_gf_13_11, tw_t, w_gf_4_1, w_gf_13_4, w_iv0, tfr_0, tfr_1, tfr_2, tfr_3, tfr_4, w_gf_4_0, w_iv1, w_if_eq, w_ic, w_ire, trg, w64_r, true_and, and_true, Nat.reduceAdd, Nat.reduceSub, eq_self, tsh_0, tyk_13, tcq_13, tsh_77, tyk_8, tcq_8, tyk_4, tcq_4, tsh_113, tsh_650, tsh_651, tsh_652, tsh_114, tsh_115, tyk_3, tcq_3, tyk_7, tcq_7, sx, sr1, sr2]
  repeat refine And.intro (by omega) ?_
  refine ⟨fun _ => ?_, fun _ => ⟨_, rfl, rfl, by decide, f5, u5⟩⟩
  refine tb_X11_sideOf_74 (c := true) ?_
  simp only [kb_X11_sideOf_74, w_ald_0, w_gf_13_4, tw_t, w_iv0, tfr_0, tfr_1, tfr_2, tfr_3, tfr_4, w_gf_4_1, w_gf_13_11, w_gf_4_0, w_iv1, w_if_eq, w_ic, w_goto, w64_r, true_and, and_true, Nat.reduceAdd, Nat.reduceSub, eq_self, tsh_0, tyk_13, tcq_13, tsh_77, tyk_8, tcq_8, tyk_4, tcq_4, tsh_113, tsh_650, tsh_651, tsh_652, tsh_114, tsh_115, tyk_3, tcq_3, tyk_7, tcq_7, sx, sr1, sr2]
  refine tc_r (D := 1) (fun d' hd' => z_result sC.1 hd') (by omega) ?_
  rintro y M8 ⟨rfl, rfl⟩
  try simp only [kb_X11_sideOf_74, w_ald_0, w_gf_13_4, tw_t, w_iv0, tfr_0, tfr_1, tfr_2, tfr_3, tfr_4, w_gf_4_1, w_gf_13_11, w_gf_4_0, w_iv1, w_if_eq, w_ic, w_goto, w64_r, true_and, and_true, Nat.reduceAdd, Nat.reduceSub, eq_self, tsh_0, tyk_13, tcq_13, tsh_77, tyk_8, tcq_8, tyk_4, tcq_4, tsh_113, tsh_650, tsh_651, tsh_652, tsh_114, tsh_115, tyk_3, tcq_3, tyk_7, tcq_7, sx, sr1, sr2]
  refine tc_i (D := 0) (fun d' hd' => y_isBelow cl_115 cl_651 c1'.2 x5.1 (RV_g g2).2 (RV_g g1).1) (by omega) ?_
  rintro z9 M9 ⟨hz9, rfl⟩
  try simp only [kb_X11_sideOf_74, w_ald_0, w_gf_13_4, tw_t, w_iv0, tfr_0, tfr_1, tfr_2, tfr_3, tfr_4, w_gf_4_1, w_gf_13_11, w_gf_4_0, w_iv1, w_if_eq, w_ic, w_goto, w64_r, true_and, and_true, Nat.reduceAdd, Nat.reduceSub, eq_self, tsh_0, tyk_13, tcq_13, tsh_77, tyk_8, tcq_8, tyk_4, tcq_4, tsh_113, tsh_650, tsh_651, tsh_652, tsh_114, tsh_115, tyk_3, tcq_3, tyk_7, tcq_7, sx, sr1, sr2]
  repeat refine And.intro (by omega) ?_
  refine ⟨fun _ => ?_, fun _ => n102 M9 1 (by decide) f5 u5⟩
  refine tb_X11_sideOf_101 (c := true) ?_
  simp only [kb_X11_sideOf_101, w_ic, w_nil, w64_r, true_and, and_true, Nat.reduceAdd, Nat.reduceSub, eq_self]
  exact n102 M9 0 (by decide) f5 u5
theorem KA_df {M M1 : tM} (h : KW M) (f : DCF M M1) (u : M1 78 5 = M 78 5) : KA M M1 := by
  have p : pE 0 M M1 := fun k i q => by
    rcases q with (q | ⟨rfl, rfl⟩ | ⟨q, q2⟩) | ⟨q, _⟩ | ⟨q, _⟩ | ⟨rfl, rfl⟩
    · exact f.2 k i (by omega) (by omega) (by omega)
    · exact f.2 0 0 (by decide) (by decide) (by decide)
    · omega
    · omega
    · omega
    · exact u
  exact KA_f h f.1.2 p f.1.1 (fun k i g => f.2 k i (by unfold KPC at g; omega) (by unfold KPC at g; omega) (by unfold KPC at g; omega))
theorem v_decide {x1 x2 x3 : Int} (h1 : (-2147483648 ≤ x1 ∧ x1 ≤ 2147483647)) (h2 : (-2147483648 ≤ x2 ∧ x2 ≤ 2147483647)) (h3 : (-2147483648 ≤ x3 ∧ x3 ≤ 2147483647)) (he : EVr e) (hK : KW M) (hC : CI M) (hd : 10 ≤ d) : tC e d 3352 [.inr (.inr (.inl 0)), .inl x1, .inl x2, .inl x3] M n (tQx n (tQi n (fun z M' => (-2147483648 ≤ z ∧ z ≤ 2147483647) ∧ KA M M')) (fun _ M' => KA M M')) := by
  have hz0 := z00 hC
  refine tst_X11_decide ?_
  refine tb_X11_decide_0 (c := true) ?_
  simp only [kb_X11_decide_0, w_ald_0, w_ild_1, w_iv1, tfr_0, tfr_1, tfr_2, tfr_3, tfr_4, w_ild_2, w_ild_3, w_ic, w_ist4, tkl_n, tkl_i, tkl_l, tkl_r, w_ist5, w_nil, w64_r, true_and, and_true, Nat.reduceAdd, Nat.reduceSub, eq_self, tsh_0, tyk_13, tsh_77, tyk_8, tcq_8, tsh_5, tyk_11, tcq_13, tcq_11, tyk_4, tcq_4, tsh_113, tsh_650, tsh_499, tyk_27, tel_5, tyk_7, tcq_7, tsh_78, tyk_2, tcq_2]
  refine tz_xn (D := 0) (fun d' hd' => k_X11_checkFormula cl_0 h1 hd') hC (by omega) rfl ?_ (fun s q => Or.inr ⟨_, rfl, rfl, KA_refl hC hK⟩)
  intro a1
  try simp only [kb_X11_decide_0, w_ald_0, w_ild_1, w_iv1, tfr_0, tfr_1, tfr_2, tfr_3, tfr_4, w_ild_2, w_ild_3, w_ic, w_ist4, tkl_n, tkl_i, tkl_l, tkl_r, w_ist5, w_nil, w64_r, true_and, and_true, Nat.reduceAdd, Nat.reduceSub, eq_self, tsh_0, tyk_13, tsh_77, tyk_8, tcq_8, tsh_5, tyk_11, tcq_13, tcq_11, tyk_4, tcq_4, tsh_113, tsh_650, tsh_499, tyk_27, tel_5, tyk_7, tcq_7, tsh_78, tyk_2, tcq_2]
  refine tz_xn (D := 0) (fun d' hd' => k_X11_checkFormula cl_0 h2 hd') hC (by omega) rfl ?_ (fun s q => Or.inr ⟨_, rfl, rfl, KA_refl hC hK⟩)
  intro a2
  try simp only [kb_X11_decide_0, w_ald_0, w_ild_1, w_iv1, tfr_0, tfr_1, tfr_2, tfr_3, tfr_4, w_ild_2, w_ild_3, w_ic, w_ist4, tkl_n, tkl_i, tkl_l, tkl_r, w_ist5, w_nil, w64_r, true_and, and_true, Nat.reduceAdd, Nat.reduceSub, eq_self, tsh_0, tyk_13, tsh_77, tyk_8, tcq_8, tsh_5, tyk_11, tcq_13, tcq_11, tyk_4, tcq_4, tsh_113, tsh_650, tsh_499, tyk_27, tel_5, tyk_7, tcq_7, tsh_78, tyk_2, tcq_2]
  refine tz_xn (D := 0) (fun d' hd' => k_X11_checkShelf cl_0 h3 hd') hC (by omega) rfl ?_ (fun s q => Or.inr ⟨_, rfl, rfl, KA_refl hC hK⟩)
  intro a3
  try simp only [kb_X11_decide_0, w_ald_0, w_ild_1, w_iv1, tfr_0, tfr_1, tfr_2, tfr_3, tfr_4, w_ild_2, w_ild_3, w_ic, w_ist4, tkl_n, tkl_i, tkl_l, tkl_r, w_ist5, w_nil, w64_r, true_and, and_true, Nat.reduceAdd, Nat.reduceSub, eq_self, tsh_0, tyk_13, tsh_77, tyk_8, tcq_8, tsh_5, tyk_11, tcq_13, tcq_11, tyk_4, tcq_4, tsh_113, tsh_650, tsh_499, tyk_27, tel_5, tyk_7, tcq_7, tsh_78, tyk_2, tcq_2]
  refine tc_xn (D := 0) (fun d' hd' => x_cdef a1 hC) (by omega) rfl ?_ (fun s M' q => Or.inr ⟨_, rfl, rfl, by rw [q]; exact KA_refl hC hK⟩)
  rintro M1 ⟨b1, rfl⟩
  try simp only [kb_X11_decide_0, w_ald_0, w_ild_1, w_iv1, tfr_0, tfr_1, tfr_2, tfr_3, tfr_4, w_ild_2, w_ild_3, w_ic, w_ist4, tkl_n, tkl_i, tkl_l, tkl_r, w_ist5, w_nil, w64_r, true_and, and_true, Nat.reduceAdd, Nat.reduceSub, eq_self, tsh_0, tyk_13, tsh_77, tyk_8, tcq_8, tsh_5, tyk_11, tcq_13, tcq_11, tyk_4, tcq_4, tsh_113, tsh_650, tsh_499, tyk_27, tel_5, tyk_7, tcq_7, tsh_78, tyk_2, tcq_2]
  refine tc_xn (D := 0) (fun d' hd' => x_cdef a2 hC) (by omega) rfl ?_ (fun s M' q => Or.inr ⟨_, rfl, rfl, by rw [q]; exact KA_refl hC hK⟩)
  rintro M2 ⟨b2, rfl⟩
  try simp only [kb_X11_decide_0, w_ald_0, w_ild_1, w_iv1, tfr_0, tfr_1, tfr_2, tfr_3, tfr_4, w_ild_2, w_ild_3, w_ic, w_ist4, tkl_n, tkl_i, tkl_l, tkl_r, w_ist5, w_nil, w64_r, true_and, and_true, Nat.reduceAdd, Nat.reduceSub, eq_self, tsh_0, tyk_13, tsh_77, tyk_8, tcq_8, tsh_5, tyk_11, tcq_13, tcq_11, tyk_4, tcq_4, tsh_113, tsh_650, tsh_499, tyk_27, tel_5, tyk_7, tcq_7, tsh_78, tyk_2, tcq_2]
  refine tz_xn (D := 2) (fun d' hd' => k_X11_checkHeld cl_0 h3 hd') hC (by omega) rfl ?_ (fun s q => Or.inr ⟨_, rfl, rfl, KA_refl hC hK⟩)
  intro _
  try simp only [kb_X11_decide_0, w_ald_0, w_ild_1, w_iv1, tfr_0, tfr_1, tfr_2, tfr_3, tfr_4, w_ild_2, w_ild_3, w_ic, w_ist4, tkl_n, tkl_i, tkl_l, tkl_r, w_ist5, w_nil, w64_r, true_and, and_true, Nat.reduceAdd, Nat.reduceSub, eq_self, tsh_0, tyk_13, tsh_77, tyk_8, tcq_8, tsh_5, tyk_11, tcq_13, tcq_11, tyk_4, tcq_4, tsh_113, tsh_650, tsh_499, tyk_27, tel_5, tyk_7, tcq_7, tsh_78, tyk_2, tcq_2]
  obtain ⟨i, rfl⟩ : ∃ k : Nat, x3 = (k : Int) := ⟨x3.toNat, by omega⟩
  have hfa := fm_cl hC a1
  have hfb := fm_cl hC a2
  have fa := FM_cl hfa
  have fb := FM_cl hfb
  have sfa := hfa.1
  have sfb := hfb.1
  obtain ⟨ca, hca⟩ := hK.1.2.2 _ fa b1
  obtain ⟨cb, hcb⟩ := hK.1.2.2 _ fb b2
  obtain ⟨v, hv⟩ := hK.1.2.1 i (by omega)
  have ci := (cl_sh (s := i) (by omega)).1
  have ra : 499 < (M2 499 x1).toNat ∧ (M2 499 x1).toNat + 6 < 531 := by unfold FMC at fa; omega
  have rb : 499 < (M2 499 x2).toNat ∧ (M2 499 x2).toNat + 6 < 531 := by unfold FMC at fb; omega
  have n111 : ∀ (N : tM) (a b : Int) (w6 : Option tV), (-1 ≤ a ∧ a ≤ 40) → DCF M2 N → tT e d 3352 111 [some (.inr (.inr (.inl (0)))), some (.inl (x1)), some (.inl (x2)), some (.inl ((i : Int))), some (.inl (a)), some (.inl (b)), w6] [] N n (tQx n (tQi n (fun z M' => (-2147483648 ≤ z ∧ z ≤ 2147483647) ∧ KA M2 M')) (fun _ M' => KA M2 M')) := by
    intro N a b w6 ha fN
    have e0 : N 0 0 = M2 0 0 := fN.2 0 0 (by decide) (by decide) (by decide)
    refine tb_X11_decide_111 (c := true) ?_
    simp only [kb_X11_decide_111, w_ald_0, w_gf_13_4, tw_t, w_gf_13_0, w_iv1, tfr_0, tfr_1, tfr_2, tfr_3, tfr_4, w_ild4, w_ire, trg, w64_r, true_and, and_true, Nat.reduceAdd, Nat.reduceSub, eq_self, tsh_0, tyk_13, tsh_77, tyk_8, tcq_8, tsh_5, tyk_11, tcq_13, tcq_11, tyk_4, tcq_4, tsh_113, tsh_650, tsh_499, tyk_27, tel_5, tyk_7, tcq_7, tsh_78, tyk_2, tcq_2, e0]
    repeat refine And.intro (by omega) ?_
    refine tc_n (D := 2) (fun d' hd' => t_useD hz0 hd') (by omega) ?_
    rintro M5 hM5
    have f5 : DCF M2 M5 := by
      rw [hM5]
      exact ⟨⟨RO_u fN.1.1 (tU_nk (by decide)) (tU_nk (by decide)), CI_un fN.1.2⟩, fun k i q1 q2 q3 => (tU_nk (by omega)).trans (fN.2 k i q1 q2 q3)⟩
    have u5 : M5 78 5 = M2 78 5 := by rw [hM5, tU_eq]; exact hK.1.1.1.symm
    clear hM5
    try simp only [kb_X11_decide_111, w_ald_0, w_gf_13_4, tw_t, w_gf_13_0, w_iv1, tfr_0, tfr_1, tfr_2, tfr_3, tfr_4, w_ild4, w_ire, trg, w64_r, true_and, and_true, Nat.reduceAdd, Nat.reduceSub, eq_self, tsh_0, tyk_13, tsh_77, tyk_8, tcq_8, tsh_5, tyk_11, tcq_13, tcq_11, tyk_4, tcq_4, tsh_113, tsh_650, tsh_499, tyk_27, tel_5, tyk_7, tcq_7, tsh_78, tyk_2, tcq_2, e0]
    exact Or.inl ⟨_, rfl, rfl, by omega, KA_df hK f5 u5⟩
  have nl : ∀ (fu : Nat) (N : tM) (m : Nat) (a : Int) (w6 : Option tV), 11 - m = fu → m ≤ 11 → (-1 ≤ a ∧ a ≤ 40) → DCF M2 N → tT e d 3352 36 [some (.inr (.inr (.inl (0)))), some (.inl (x1)), some (.inl (x2)), some (.inl ((i : Int))), some (.inl (a)), some (.inl ((m : Int))), w6] [] N n (tQx n (tQi n (fun z M' => (-2147483648 ≤ z ∧ z ≤ 2147483647) ∧ KA M2 M')) (fun _ M' => KA M2 M')) := by
    intro fu
    induction fu with
    | zero =>
      intro N m a w6 hf hm ha fN
      refine tb_X11_decide_36 (c := true) ?_
      simp only [kb_X11_decide_36, w_ild5, w_bi, w_ic_gt, w_ild4, w_if_ge, w_ald_0, w_gf_13_4, tw_t, w_iv1, tfr_0, tfr_1, tfr_2, tfr_3, tfr_4, w_gf_13_5, w_ild_1, w_aa, w_ild_2, w_gf_13_3, w_ild_3, w_iv3, w_ist6, tkl_n, tkl_i, tkl_l, tkl_r, w_ild6, w_if_eq, w_goto, w64_r, true_and, and_true, Nat.reduceAdd, Nat.reduceSub, eq_self, tsh_0, tyk_13, tsh_77, tyk_8, tcq_8, tsh_5, tyk_11, tcq_13, tcq_11, tyk_4, tcq_4, tsh_113, tsh_650, tsh_499, tyk_27, tel_5, tyk_7, tcq_7, tsh_78, tyk_2, tcq_2]
      repeat refine And.intro (by omega) ?_
      refine ⟨fun _ => n111 N a _ _ ha fN, fun q => absurd (by omega) q⟩
    | succ fu ih =>
      intro N m a w6 hf hm ha fN
      have e4a : N 499 x1 = M2 499 x1 := fN.2 499 x1 (by decide) (by decide) (by decide)
      have e4b : N 499 x2 = M2 499 x2 := fN.2 499 x2 (by decide) (by decide) (by decide)
      refine tb_X11_decide_36 (c := true) ?_
      simp only [kb_X11_decide_36, w_ild5, w_bi, w_ic_gt, w_ild4, w_if_ge, w_ald_0, w_gf_13_4, tw_t, w_iv1, tfr_0, tfr_1, tfr_2, tfr_3, tfr_4, w_gf_13_5, w_ild_1, w_aa, w_ild_2, w_gf_13_3, w_ild_3, w_iv3, w_ist6, tkl_n, tkl_i, tkl_l, tkl_r, w_ild6, w_if_eq, w_goto, w64_r, true_and, and_true, Nat.reduceAdd, Nat.reduceSub, eq_self, tsh_0, tyk_13, tsh_77, tyk_8, tcq_8, tsh_5, tyk_11, tcq_13, tcq_11, tyk_4, tcq_4, tsh_113, tsh_650, tsh_499, tyk_27, tel_5, tyk_7, tcq_7, tsh_78, tyk_2, tcq_2, e4a, e4b, sfa, sfb, ci]
      repeat refine And.intro (by omega) ?_
      first | refine ⟨fun q => absurd q (by omega), fun _ => ?_⟩ | refine fun _ => ?_
      repeat refine And.intro (by omega) ?_
      refine ⟨fun _ => n111 N a _ _ ha fN, fun qa => ?_⟩
      repeat refine And.intro (by omega) ?_
      refine tc_n (D := 2) (fun d' hd' => t_useD (by omega) hd') (by omega) ?_
      rintro M5 hM5
      have f5 : DCF M2 M5 := by
        rw [hM5]
        exact ⟨⟨RO_u fN.1.1 (tU_nk (by decide)) (tU_nk (by decide)), CI_un fN.1.2⟩, fun k i q1 q2 q3 => (tU_nk (by omega)).trans (fN.2 k i q1 q2 q3)⟩
      have u5 : M5 78 5 = un (m : Int) := by rw [hM5, tU_eq]
      have hu5 := un_UU (D := (m : Int)) (by omega)
      clear hM5
      have e5a : M5 499 x1 = M2 499 x1 := f5.2 499 x1 (by decide) (by decide) (by decide)
      have e5b : M5 499 x2 = M2 499 x2 := f5.2 499 x2 (by decide) (by decide) (by decide)
      try simp only [kb_X11_decide_36, w_ild5, w_bi, w_ic_gt, w_ild4, w_if_ge, w_ald_0, w_gf_13_4, tw_t, w_iv1, tfr_0, tfr_1, tfr_2, tfr_3, tfr_4, w_gf_13_5, w_ild_1, w_aa, w_ild_2, w_gf_13_3, w_ild_3, w_iv3, w_ist6, tkl_n, tkl_i, tkl_l, tkl_r, w_ild6, w_if_eq, w_goto, w64_r, true_and, and_true, Nat.reduceAdd, Nat.reduceSub, eq_self, tsh_0, tyk_13, tsh_77, tyk_8, tcq_8, tsh_5, tyk_11, tcq_13, tcq_11, tyk_4, tcq_4, tsh_113, tsh_650, tsh_499, tyk_27, tel_5, tyk_7, tcq_7, tsh_78, tyk_2, tcq_2, e5a, e5b, sfa, sfb, ci]
      repeat refine And.intro (by omega) ?_
      refine tc_r (D := 1) (fun d' hd' => z_box (s := i) (by omega) hd') (by omega) ?_
      rintro y M6 ⟨rfl, rfl⟩
      try simp only [kb_X11_decide_36, w_ild5, w_bi, w_ic_gt, w_ild4, w_if_ge, w_ald_0, w_gf_13_4, tw_t, w_iv1, tfr_0, tfr_1, tfr_2, tfr_3, tfr_4, w_gf_13_5, w_ild_1, w_aa, w_ild_2, w_gf_13_3, w_ild_3, w_iv3, w_ist6, tkl_n, tkl_i, tkl_l, tkl_r, w_ild6, w_if_eq, w_goto, w64_r, true_and, and_true, Nat.reduceAdd, Nat.reduceSub, eq_self, tsh_0, tyk_13, tsh_77, tyk_8, tcq_8, tsh_5, tyk_11, tcq_13, tcq_11, tyk_4, tcq_4, tsh_113, tsh_650, tsh_499, tyk_27, tel_5, tyk_7, tcq_7, tsh_78, tyk_2, tcq_2, e5a, e5b, sfa, sfb, ci]
      refine tc_i (D := 9) (fun d' hd' => e_sideOf fa (WFF_f hca (fun k i g => f5.2 k i (by omega) (by omega) (by omega))) fb (WFF_f hcb (fun k i g => f5.2 k i (by omega) (by omega) (by omega))) (cl_sh (by omega)) (by omega) ⟨BX_f hv.1 (fun j => f5.2 _ _ (by omega) (by omega) (by omega)) (fun j => f5.2 _ _ (by omega) (by omega) (by omega)), hv.2⟩ (by rw [u5]; exact hu5) he f5.1.1 f5.1.2 hd') (by omega) ?_
      rintro z7 M7 ⟨hz7, f7, u7⟩
      have ff7 := DCF_tr f5 f7
      try simp only [kb_X11_decide_36, w_ild5, w_bi, w_ic_gt, w_ild4, w_if_ge, w_ald_0, w_gf_13_4, tw_t, w_iv1, tfr_0, tfr_1, tfr_2, tfr_3, tfr_4, w_gf_13_5, w_ild_1, w_aa, w_ild_2, w_gf_13_3, w_ild_3, w_iv3, w_ist6, tkl_n, tkl_i, tkl_l, tkl_r, w_ild6, w_if_eq, w_goto, w64_r, true_and, and_true, Nat.reduceAdd, Nat.reduceSub, eq_self, tsh_0, tyk_13, tsh_77, tyk_8, tcq_8, tsh_5, tyk_11, tcq_13, tcq_11, tyk_4, tcq_4, tsh_113, tsh_650, tsh_499, tyk_27, tel_5, tyk_7, tcq_7, tsh_78, tyk_2, tcq_2, e5a, e5b, sfa, sfb, ci]
      have n105 : ∀ (a2 : Int), (-1 ≤ a2 ∧ a2 ≤ 40) → tT e d 3352 105 [some (.inr (.inr (.inl (0)))), some (.inl (x1)), some (.inl (x2)), some (.inl ((i : Int))), some (.inl (a2)), some (.inl ((m : Int))), some (.inl (z7))] [] M7 n (tQx n (tQi n (fun z M' => (-2147483648 ≤ z ∧ z ≤ 2147483647) ∧ KA M2 M')) (fun _ M' => KA M2 M')) := by
        intro a2 ha2
        refine tb_X11_decide_105 (c := true) ?_
        simp only [kb_X11_decide_105, w_inc5, tkl_n, tkl_i, tkl_l, tkl_r, w_goto, w64_r, true_and, and_true, Nat.reduceAdd, Nat.reduceSub, eq_self]
        repeat refine And.intro (by omega) ?_
        rw [show ((m : Nat) : Int) + 1 = ((m + 1 : Nat) : Int) by omega]
        exact ih M7 (m + 1) a2 _ (by omega) (by omega) ha2 ff7
      have n103 : ∀ (a2 : Int), (-1 ≤ a2 ∧ a2 ≤ 40) → tT e d 3352 103 [some (.inr (.inr (.inl (0)))), some (.inl (x1)), some (.inl (x2)), some (.inl ((i : Int))), some (.inl (a)), some (.inl ((m : Int))), some (.inl (z7))] [.inl a2] M7 n (tQx n (tQi n (fun z M' => (-2147483648 ≤ z ∧ z ≤ 2147483647) ∧ KA M2 M')) (fun _ M' => KA M2 M')) := by
        intro a2 ha2
        refine tb_X11_decide_103 (c := true) ?_
        simp only [kb_X11_decide_103, w_ist4, tkl_n, tkl_i, tkl_l, tkl_r, w_nil, w64_r, true_and, and_true, Nat.reduceAdd, Nat.reduceSub, eq_self]
        exact n105 a2 ha2
      repeat refine And.intro (by omega) ?_
      refine ⟨fun _ => n105 a ha, fun _ => ?_⟩
      repeat refine And.intro (by omega) ?_
      refine ⟨fun _ => ?_, fun _ => n103 (m : Int) (by omega)⟩
      refine tb_X11_decide_98 (c := true) ?_
      simp only [kb_X11_decide_98, w_bi, w_ild5, w_iadd, w_nil, w64_r, true_and, and_true, Nat.reduceAdd, Nat.reduceSub, eq_self]
      repeat refine And.intro (by omega) ?_
      exact n103 _ (by omega)
  exact nl 11 M2 0 (-1) _ rfl (by decide) (by decide) ⟨⟨hK.1.1.2, hC⟩, fun _ _ _ _ _ => rfl⟩
end HAND
