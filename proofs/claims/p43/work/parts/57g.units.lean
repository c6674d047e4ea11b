/-! THE CLASS: decide and isSound change the unit, and set it back. -/
theorem tsh_499 : tsh 499 = 27 := by rw [tsh_def]; decide +kernel
theorem tyk_27 : tyk 27 = (3, 5, 4) := rfl
theorem tel_5 {k : Nat} {i x : Int} : tel 5 k i x = x.toNat := rfl
theorem tsh_650 : tsh 650 = 4 := by rw [tsh_def]; decide +kernel
theorem tsh_653 : tsh 653 = 4 := by rw [tsh_def]; decide +kernel
theorem cl_650 : cl 650 4 := ⟨tsh_650, by decide⟩
theorem cl_653 : cl 653 4 := ⟨tsh_653, by decide⟩
theorem fm_cl {M : tM} {i : Int} (hC : CI M) (h : 0 ≤ i ∧ i ≤ 3) : cl (M 499 i).toNat 7 := by
  have hc := hC.1 499 i (by decide) h.1
  rw [tsh_499] at hc
  rcases (show i = 0 ∨ i = 1 ∨ i = 2 ∨ i = 3 by omega) with rfl | rfl | rfl | rfl
  · exact hc
  · exact hc
  · exact hc
  · exact hc
theorem z00 {M : tM} (hC : CI M) : 0 ≤ M 0 0 ∧ M 0 0 ≤ 10 := by
  have h := hC.1 0 0 (by decide) (Int.le_refl 0)
  rw [tsh_0] at h
  exact h
theorem UN_p {M M' : tM} (h : UN M) (p : pE 0 M M') : UN M' := by
  unfold UN
  rw [p 78 5 (Or.inr (Or.inr (Or.inr ⟨rfl, rfl⟩))), p 0 0 (Or.inl (Or.inr (Or.inl ⟨rfl, rfl⟩)))]
  exact h
section TZ
variable {e : tE} {mi a D n d b : Nat} {o : bO} {vs rest : List tV} {L : tL} {M : tM} {Q : tR → tM → Nat → Prop} {k : tL → List tV → tM → Nat → Prop}
theorem tq_i {P : Int → Prop} (h : ∀ d', D ≤ d' → tC e d' a vs M n (sQ b M (fun r n' _ => SQi n P r n'))) (hd : D + 1 ≤ d) (hk : ∀ x M', P x → CI M' → pE b M M' → k L (.inl x :: rest) M' n) : tcall e d mi a o vs rest L M n Q k :=
  ⟨d - 1, by omega, _, h (d - 1) (by omega), fun v M' n' q => by obtain ⟨⟨c1, c2⟩, x, q1, rfl, q2⟩ := q; cases q1; exact hk x M' q2 c1 c2, fun v M' n' q => by obtain ⟨-, x, q1, q2⟩ := q; cases q1⟩
end TZ
section HAND
variable {e : tE} {d n : Nat} {M : tM}
theorem q_decide {x1 x2 x3 : Int} (hU : UN M) (h1 : -2147483648 ≤ x1 ∧ x1 ≤ 2147483647) (h2 : -2147483648 ≤ x2 ∧ x2 ≤ 2147483647) (h3 : -2147483648 ≤ x3 ∧ x3 ≤ 2147483647) (he : EO e) (hC : CI M) (hd : 10 ≤ d) : tC e d 3352 [.inr (.inr (.inl 0)), .inl x1, .inl x2, .inl x3] M n (sQ 0 M (fun r n' _ => SQx n (SQi n (fun z => (-1 ≤ z ∧ z ≤ 31))) (fun s => s = "java/lang/IndexOutOfBoundsException" ∨ s = "java/util/NoSuchElementException") r n')) := by
  refine tst_X11_decide ?_
  have n111 : ∀ (M1 : tM) (i4 i5 : Int) (w6 : Option tV), CI M1 → E8 M M1 → (-1 ≤ i4 ∧ i4 ≤ 31) → tT e d 3352 111 [some (.inr (.inr (.inl (0)))), some (.inl (x1)), some (.inl (x2)), some (.inl (x3)), some (.inl (i4)), some (.inl (i5)), w6] [] M1 n (sQ 0 M (fun r n' _ => SQx n (SQi n (fun z => (-1 ≤ z ∧ z ≤ 31))) (fun s => s = "java/lang/IndexOutOfBoundsException" ∨ s = "java/util/NoSuchElementException") r n')) := by
    intro M1 i4 i5 w6 c1 e1 hi
    have hz : M1 0 0 = M 0 0 := e1 0 0 (Or.inr ⟨rfl, rfl⟩)
    have hr := z00 hC
    refine tb_X11_decide_111 (c := true) ?_
    simp only [kb_X11_decide_111, w_ald_0, w_gf_13_4, tw_t, w_gf_13_0, w_iv1, tfr_0, tfr_1, tfr_2, tfr_3, tfr_4, w_ild4, w_ire, trg, w64_r, true_and, and_true, Nat.reduceAdd, Nat.reduceSub, eq_self, tsh_0, tyk_13, tsh_77, tyk_8, tcq_8, tsh_5, tyk_11, tcq_13, tcq_11, tsh_499, tyk_27, tel_5, tsh_650, tsh_653, tyk_4, tcq_4]
    rw [hz]
    refine tc_n (D := 2) (fun d' hd' => t_useD hr hd') (by omega) ?_
    rintro M2 rfl
    try simp only [kb_X11_decide_111, w_ald_0, w_gf_13_4, tw_t, w_gf_13_0, w_iv1, tfr_0, tfr_1, tfr_2, tfr_3, tfr_4, w_ild4, w_ire, trg, w64_r, true_and, and_true, Nat.reduceAdd, Nat.reduceSub, eq_self, tsh_0, tyk_13, tsh_77, tyk_8, tcq_8, tsh_5, tyk_11, tcq_13, tcq_11, tsh_499, tyk_27, tel_5, tsh_650, tsh_653, tyk_4, tcq_4]
    exact ⟨⟨CI_un c1, E8_end hU e1⟩, Or.inl ⟨_, rfl, rfl, hi⟩⟩
  have n36 : ∀ (fu : Nat) (M1 : tM) (i4 i5 : Int) (w6 : Option tV), 11 - i5 + 1 ≤ (fu : Int) → (-1 ≤ i4 ∧ i4 ≤ 31) → (0 ≤ i5 ∧ i5 ≤ 11) → (0 ≤ x1 ∧ x1 ≤ 3) → (0 ≤ x2 ∧ x2 ≤ 3) → CI M1 → E8 M M1 → tT e d 3352 36 [some (.inr (.inr (.inl (0)))), some (.inl (x1)), some (.inl (x2)), some (.inl (x3)), some (.inl (i4)), some (.inl (i5)), w6] [] M1 n (sQ 0 M (fun r n' _ => SQx n (SQi n (fun z => (-1 ≤ z ∧ z ≤ 31))) (fun s => s = "java/lang/IndexOutOfBoundsException" ∨ s = "java/util/NoSuchElementException") r n')) := by
    intro fu
    induction fu with
    | zero =>
      intro M1 i4 i5 w6 hm y0 y1
      exfalso; omega
    | succ fu ih =>
      intro M1 i4 i5 w6 hm y0 y1 hx1 hx2 c1 e1
      refine tb_X11_decide_36 (c := true) ?_
      simp only [kb_X11_decide_36, w_ild5, w_bi, w_ic_gt, w_ild4, w_if_ge, w_ald_0, w_gf_13_4, tw_t, w_iv1, tfr_0, tfr_1, tfr_2, tfr_3, tfr_4, w_gf_13_5, w_ild_1, w_aa, w_ild_2, w_gf_13_3, w_ild_3, w_iv3, w_ist6, tkl_n, tkl_i, tkl_l, tkl_r, w_ild6, w_if_eq, w_goto, w64_r, true_and, and_true, Nat.reduceAdd, Nat.reduceSub, eq_self, tsh_0, tyk_13, tsh_77, tyk_8, tcq_8, tsh_5, tyk_11, tcq_13, tcq_11, tsh_499, tyk_27, tel_5, tsh_650, tsh_653, tyk_4, tcq_4]
      refine ⟨by omega, fun h => n111 _ _ _ _ c1 e1 y0, fun h => ?_⟩
      refine ⟨by omega, fun h => n111 _ _ _ _ c1 e1 y0, fun h6 => ?_⟩
      refine tc_n (D := 2) (fun d' hd' => t_useD (by omega) hd') (by omega) ?_
      intro M2 hM2
      have c2 : CI M2 := by rw [hM2]; exact CI_un c1
      have e2 : E8 M M2 := by rw [hM2]; exact E8_tr e1 E8_u
      clear hM2
      try simp only [kb_X11_decide_36, w_ild5, w_bi, w_ic_gt, w_ild4, w_if_ge, w_ald_0, w_gf_13_4, tw_t, w_iv1, tfr_0, tfr_1, tfr_2, tfr_3, tfr_4, w_gf_13_5, w_ild_1, w_aa, w_ild_2, w_gf_13_3, w_ild_3, w_iv3, w_ist6, tkl_n, tkl_i, tkl_l, tkl_r, w_ild6, w_if_eq, w_goto, w64_r, true_and, and_true, Nat.reduceAdd, Nat.reduceSub, eq_self, tsh_0, tyk_13, tsh_77, tyk_8, tcq_8, tsh_5, tyk_11, tcq_13, tcq_11, tsh_499, tyk_27, tel_5, tsh_650, tsh_653, tyk_4, tcq_4]
      refine ⟨by omega, by omega, ?_⟩
      refine tz_r (D := 1) (fun d' hd' => k_X9_box cl_5 h3 hd') c2 (by omega) ?_
      intro x5 hx5
      try simp only [kb_X11_decide_36, w_ild5, w_bi, w_ic_gt, w_ild4, w_if_ge, w_ald_0, w_gf_13_4, tw_t, w_iv1, tfr_0, tfr_1, tfr_2, tfr_3, tfr_4, w_gf_13_5, w_ild_1, w_aa, w_ild_2, w_gf_13_3, w_ild_3, w_iv3, w_ist6, tkl_n, tkl_i, tkl_l, tkl_r, w_ild6, w_if_eq, w_goto, w64_r, true_and, and_true, Nat.reduceAdd, Nat.reduceSub, eq_self, tsh_0, tyk_13, tsh_77, tyk_8, tcq_8, tsh_5, tyk_11, tcq_13, tcq_11, tsh_499, tyk_27, tel_5, tsh_650, tsh_653, tyk_4, tcq_4]
      refine ts_i (b := 0) (D := 9) (fun d' hd' => k_X11_sideOf cl_0 (fm_cl c2 hx1) (fm_cl c2 hx2) hx5 he (by omega) hd') c2 (by omega) ?_
      intro z M3 hz c3 p3
      have e3 := E8_tr e2 (E8_p p3)
      try simp only [kb_X11_decide_36, w_ild5, w_bi, w_ic_gt, w_ild4, w_if_ge, w_ald_0, w_gf_13_4, tw_t, w_iv1, tfr_0, tfr_1, tfr_2, tfr_3, tfr_4, w_gf_13_5, w_ild_1, w_aa, w_ild_2, w_gf_13_3, w_ild_3, w_iv3, w_ist6, tkl_n, tkl_i, tkl_l, tkl_r, w_ild6, w_if_eq, w_goto, w64_r, true_and, and_true, Nat.reduceAdd, Nat.reduceSub, eq_self, tsh_0, tyk_13, tsh_77, tyk_8, tcq_8, tsh_5, tyk_11, tcq_13, tcq_11, tsh_499, tyk_27, tel_5, tsh_650, tsh_653, tyk_4, tcq_4]
      have n105 : ∀ (i4 i6 : Int), (-1 ≤ i4 ∧ i4 ≤ 31) → tT e d 3352 105 [some (.inr (.inr (.inl (0)))), some (.inl (x1)), some (.inl (x2)), some (.inl (x3)), some (.inl (i4)), some (.inl (i5)), some (.inl (i6))] [] M3 n (sQ 0 M (fun r n' _ => SQx n (SQi n (fun z => (-1 ≤ z ∧ z ≤ 31))) (fun s => s = "java/lang/IndexOutOfBoundsException" ∨ s = "java/util/NoSuchElementException") r n')) := by
        intro i4 i6 hi4
        refine tb_X11_decide_105 (c := true) ?_
        simp only [kb_X11_decide_105, w_inc5, tkl_n, tkl_i, tkl_l, tkl_r, w_goto, w64_r, true_and, and_true, Nat.reduceAdd, Nat.reduceSub, eq_self]
        exact ih M3 _ _ _ (by omega) hi4 (by omega) hx1 hx2 c3 e3
      have n103 : ∀ (i4 i6 v : Int), (-1 ≤ v ∧ v ≤ 31) → tT e d 3352 103 [some (.inr (.inr (.inl (0)))), some (.inl (x1)), some (.inl (x2)), some (.inl (x3)), some (.inl (i4)), some (.inl (i5)), some (.inl (i6))] [.inl v] M3 n (sQ 0 M (fun r n' _ => SQx n (SQi n (fun z => (-1 ≤ z ∧ z ≤ 31))) (fun s => s = "java/lang/IndexOutOfBoundsException" ∨ s = "java/util/NoSuchElementException") r n')) := by
        intro i4 i6 v hv
        refine tb_X11_decide_103 (c := true) ?_
        simp only [kb_X11_decide_103, w_ist4, tkl_n, tkl_i, tkl_l, tkl_r, w_nil, w64_r, true_and, and_true, Nat.reduceAdd, Nat.reduceSub, eq_self]
        exact n105 _ _ hv
      refine ⟨by omega, fun h => n105 _ _ y0, fun h => ?_⟩
      refine ⟨by omega, fun h => ?_, fun h => n103 _ _ _ (by omega)⟩
      refine tb_X11_decide_98 (c := true) ?_
      simp only [kb_X11_decide_98, w_bi, w_ild5, w_iadd, w_nil, w64_r, true_and, and_true, Nat.reduceAdd, Nat.reduceSub, eq_self]
      exact n103 _ _ _ (by omega)
  refine tb_X11_decide_0 (c := true) ?_
  simp only [kb_X11_decide_0, w_ald_0, w_ild_1, w_iv1, tfr_0, tfr_1, tfr_2, tfr_3, tfr_4, w_ild_2, w_ild_3, w_ic, w_ist4, tkl_n, tkl_i, tkl_l, tkl_r, w_ist5, w_nil, w64_r, true_and, and_true, Nat.reduceAdd, Nat.reduceSub, eq_self, tsh_0, tyk_13, tsh_77, tyk_8, tcq_8, tsh_5, tyk_11, tcq_13, tcq_11, tsh_499, tyk_27, tel_5, tsh_650, tsh_653, tyk_4, tcq_4]
  have hx : ∀ s, s = "java/lang/IndexOutOfBoundsException" ∨ s = "java/util/NoSuchElementException" → (sQ 0 M (fun r n' _ => SQx n (SQi n (fun z => (-1 ≤ z ∧ z ≤ 31))) (fun s => s = "java/lang/IndexOutOfBoundsException" ∨ s = "java/util/NoSuchElementException") r n')) (.inr s) M (n + 1) := fun s hs => ⟨⟨hC, pE_refl⟩, Or.inr ⟨_, rfl, rfl, hs⟩⟩
  refine tz_xn (D := 0) (fun d' hd' => k_X11_checkFormula cl_0 h1 hd') hC (by omega) rfl ?_ (fun s hs => hx s (Or.inl hs))
  intro g1
  try simp only [kb_X11_decide_0, w_ald_0, w_ild_1, w_iv1, tfr_0, tfr_1, tfr_2, tfr_3, tfr_4, w_ild_2, w_ild_3, w_ic, w_ist4, tkl_n, tkl_i, tkl_l, tkl_r, w_ist5, w_nil, w64_r, true_and, and_true, Nat.reduceAdd, Nat.reduceSub, eq_self, tsh_0, tyk_13, tsh_77, tyk_8, tcq_8, tsh_5, tyk_11, tcq_13, tcq_11, tsh_499, tyk_27, tel_5, tsh_650, tsh_653, tyk_4, tcq_4]
  refine tz_xn (D := 0) (fun d' hd' => k_X11_checkFormula cl_0 h2 hd') hC (by omega) rfl ?_ (fun s hs => hx s (Or.inl hs))
  intro g2
  try simp only [kb_X11_decide_0, w_ald_0, w_ild_1, w_iv1, tfr_0, tfr_1, tfr_2, tfr_3, tfr_4, w_ild_2, w_ild_3, w_ic, w_ist4, tkl_n, tkl_i, tkl_l, tkl_r, w_ist5, w_nil, w64_r, true_and, and_true, Nat.reduceAdd, Nat.reduceSub, eq_self, tsh_0, tyk_13, tsh_77, tyk_8, tcq_8, tsh_5, tyk_11, tcq_13, tcq_11, tsh_499, tyk_27, tel_5, tsh_650, tsh_653, tyk_4, tcq_4]
  refine tz_xn (D := 0) (fun d' hd' => k_X11_checkShelf cl_0 h3 hd') hC (by omega) rfl ?_ (fun s hs => hx s (Or.inl hs))
  intro g3
  try simp only [kb_X11_decide_0, w_ald_0, w_ild_1, w_iv1, tfr_0, tfr_1, tfr_2, tfr_3, tfr_4, w_ild_2, w_ild_3, w_ic, w_ist4, tkl_n, tkl_i, tkl_l, tkl_r, w_ist5, w_nil, w64_r, true_and, and_true, Nat.reduceAdd, Nat.reduceSub, eq_self, tsh_0, tyk_13, tsh_77, tyk_8, tcq_8, tsh_5, tyk_11, tcq_13, tcq_11, tsh_499, tyk_27, tel_5, tsh_650, tsh_653, tyk_4, tcq_4]
  refine tz_xn (D := 0) (fun d' hd' => k_X11_checkDefined cl_0 g1 hd') hC (by omega) rfl ?_ (fun s hs => hx s (Or.inr hs))
  intro _
  try simp only [kb_X11_decide_0, w_ald_0, w_ild_1, w_iv1, tfr_0, tfr_1, tfr_2, tfr_3, tfr_4, w_ild_2, w_ild_3, w_ic, w_ist4, tkl_n, tkl_i, tkl_l, tkl_r, w_ist5, w_nil, w64_r, true_and, and_true, Nat.reduceAdd, Nat.reduceSub, eq_self, tsh_0, tyk_13, tsh_77, tyk_8, tcq_8, tsh_5, tyk_11, tcq_13, tcq_11, tsh_499, tyk_27, tel_5, tsh_650, tsh_653, tyk_4, tcq_4]
  refine tz_xn (D := 0) (fun d' hd' => k_X11_checkDefined cl_0 g2 hd') hC (by omega) rfl ?_ (fun s hs => hx s (Or.inr hs))
  intro _
  try simp only [kb_X11_decide_0, w_ald_0, w_ild_1, w_iv1, tfr_0, tfr_1, tfr_2, tfr_3, tfr_4, w_ild_2, w_ild_3, w_ic, w_ist4, tkl_n, tkl_i, tkl_l, tkl_r, w_ist5, w_nil, w64_r, true_and, and_true, Nat.reduceAdd, Nat.reduceSub, eq_self, tsh_0, tyk_13, tsh_77, tyk_8, tcq_8, tsh_5, tyk_11, tcq_13, tcq_11, tsh_499, tyk_27, tel_5, tsh_650, tsh_653, tyk_4, tcq_4]
  refine tz_xn (D := 2) (fun d' hd' => k_X11_checkHeld cl_0 h3 hd') hC (by omega) rfl ?_ (fun s hs => hx s (Or.inr hs))
  intro _
  try simp only [kb_X11_decide_0, w_ald_0, w_ild_1, w_iv1, tfr_0, tfr_1, tfr_2, tfr_3, tfr_4, w_ild_2, w_ild_3, w_ic, w_ist4, tkl_n, tkl_i, tkl_l, tkl_r, w_ist5, w_nil, w64_r, true_and, and_true, Nat.reduceAdd, Nat.reduceSub, eq_self, tsh_0, tyk_13, tsh_77, tyk_8, tcq_8, tsh_5, tyk_11, tcq_13, tcq_11, tsh_499, tyk_27, tel_5, tsh_650, tsh_653, tyk_4, tcq_4]
  exact n36 13 M _ _ _ (by omega) (by omega) (by omega) g1 g2 hC E8_refl
theorem q_isConstantSound {x1 : Int} (hU : UN M) (h1 : 0 ≤ x1 ∧ x1 ≤ 65535) (hq : x1 ≠ 114) (he : EO e) (hC : CI M) (hd : 8 ≤ d) : tC e d 3362 [.inr (.inr (.inl 0)), .inl x1] M n (sQ 0 M (fun r n' _ => SQi n (fun z => (0 ≤ z ∧ z ≤ 1)) r n')) := by
  refine tst_X11_isConstantSound ?_
  have hr := z00 hC
  have n71 : ∀ (M1 : tM) (i2 : Int), CI M1 → E8 M M1 → (0 ≤ i2 ∧ i2 ≤ 2) → tT e d 3362 71 [some (.inr (.inr (.inl (0)))), some (.inl (x1)), some (.inl (i2))] [] M1 n (sQ 0 M (fun r n' _ => SQi n (fun z => (0 ≤ z ∧ z ≤ 1)) r n')) := by
    intro M1 i2 c1 e1 hi
    have hz : M1 0 0 = M 0 0 := e1 0 0 (Or.inr ⟨rfl, rfl⟩)
    refine tb_X11_isConstantSound_71 (c := true) ?_
    simp only [kb_X11_isConstantSound_71, w_ald_0, w_gf_13_4, tw_t, w_gf_13_0, w_iv1, tfr_0, tfr_1, tfr_2, tfr_3, tfr_4, w_ild_2, w_if_ne, w_iv0, w_gf_13_11, w_if_eq, w_nil, w64_r, true_and, and_true, Nat.reduceAdd, Nat.reduceSub, eq_self, tsh_0, tyk_13, tsh_77, tyk_8, tcq_8, tsh_5, tyk_11, tcq_13, tcq_11, tsh_499, tyk_27, tel_5, tsh_650, tsh_653, tyk_4, tcq_4]
    rw [hz]
    refine tc_n (D := 2) (fun d' hd' => t_useD hr hd') (by omega) ?_
    intro M2 hM2
    have c2 : CI M2 := by rw [hM2]; exact CI_un c1
    have p2 : pE 0 M M2 := by rw [hM2]; exact E8_end hU e1
    clear hM2
    try simp only [kb_X11_isConstantSound_71, w_ald_0, w_gf_13_4, tw_t, w_gf_13_0, w_iv1, tfr_0, tfr_1, tfr_2, tfr_3, tfr_4, w_ild_2, w_if_ne, w_iv0, w_gf_13_11, w_if_eq, w_nil, w64_r, true_and, and_true, Nat.reduceAdd, Nat.reduceSub, eq_self, tsh_0, tyk_13, tsh_77, tyk_8, tcq_8, tsh_5, tyk_11, tcq_13, tcq_11, tsh_499, tyk_27, tel_5, tsh_650, tsh_653, tyk_4, tcq_4]
    have n108 : ∀ v : Int, (0 ≤ v ∧ v ≤ 1) → tT e d 3362 108 [some (.inr (.inr (.inl (0)))), some (.inl (x1)), some (.inl (i2))] [.inl v] M2 n (sQ 0 M (fun r n' _ => SQi n (fun z => (0 ≤ z ∧ z ≤ 1)) r n')) := by
      intro v hv
      refine tb_X11_isConstantSound_108 (c := true) ?_
      simp only [kb_X11_isConstantSound_108, w_ire, trg, w64_r, true_and, and_true, Nat.reduceAdd, Nat.reduceSub, eq_self]
      exact ⟨hv, ⟨c2, p2⟩, _, rfl, rfl, hv⟩
    have n103 : tT e d 3362 103 [some (.inr (.inr (.inl (0)))), some (.inl (x1)), some (.inl (i2))] [] M2 n (sQ 0 M (fun r n' _ => SQi n (fun z => (0 ≤ z ∧ z ≤ 1)) r n')) := by
      refine tb_X11_isConstantSound_103 (c := true) ?_
      simp only [kb_X11_isConstantSound_103, w_ic, w_goto, w64_r, true_and, and_true, Nat.reduceAdd, Nat.reduceSub, eq_self]
      exact n108 1 (by omega)
    refine ⟨by omega, fun h => n103, fun h => ?_⟩
    refine tz_r (D := 1) (fun d' hd' => k_X6_result cl_77 hd') c2 (by omega) ?_
    intro x5 hx5
    have hs5 := hx5.1
    try simp only [kb_X11_isConstantSound_71, w_ald_0, w_gf_13_4, tw_t, w_gf_13_0, w_iv1, tfr_0, tfr_1, tfr_2, tfr_3, tfr_4, w_ild_2, w_if_ne, w_iv0, w_gf_13_11, w_if_eq, w_nil, w64_r, true_and, and_true, Nat.reduceAdd, Nat.reduceSub, eq_self, tsh_0, tyk_13, tsh_77, tyk_8, tcq_8, tsh_5, tyk_11, tcq_13, tcq_11, tsh_499, tyk_27, tel_5, tsh_650, tsh_653, tyk_4, tcq_4, hs5]
    refine tz_i (D := 1) (fun d' hd' => k_X2_liesIn hx5 cl_650 hd') c2 (by omega) ?_
    intro z hz2
    try simp only [kb_X11_isConstantSound_71, w_ald_0, w_gf_13_4, tw_t, w_gf_13_0, w_iv1, tfr_0, tfr_1, tfr_2, tfr_3, tfr_4, w_ild_2, w_if_ne, w_iv0, w_gf_13_11, w_if_eq, w_nil, w64_r, true_and, and_true, Nat.reduceAdd, Nat.reduceSub, eq_self, tsh_0, tyk_13, tsh_77, tyk_8, tcq_8, tsh_5, tyk_11, tcq_13, tcq_11, tsh_499, tyk_27, tel_5, tsh_650, tsh_653, tyk_4, tcq_4]
    refine ⟨by omega, fun h => ?_, fun h => n103⟩
    refine tb_X11_isConstantSound_107 (c := true) ?_
    simp only [kb_X11_isConstantSound_107, w_ic, w_nil, w64_r, true_and, and_true, Nat.reduceAdd, Nat.reduceSub, eq_self]
    exact n108 0 (by omega)
  refine tb_X11_isConstantSound_0 (c := true) ?_
  simp only [kb_X11_isConstantSound_0, w_ald_0, w_gf_13_0, tw_t, w_bi, w_ic_lt, w_ic, w_ire, trg, w64_r, true_and, and_true, Nat.reduceAdd, Nat.reduceSub, eq_self, tsh_0, tyk_13, tsh_77, tyk_8, tcq_8, tsh_5, tyk_11, tcq_13, tcq_11, tsh_499, tyk_27, tel_5, tsh_650, tsh_653, tyk_4, tcq_4]
  refine ⟨by omega, fun h => ?_, fun h => ?_⟩
  · refine tb_X11_isConstantSound_11 (c := true) ?_
    simp only [kb_X11_isConstantSound_11, w_ald_0, w_gf_13_4, tw_t, w_iv0, tfr_0, tfr_1, tfr_2, tfr_3, tfr_4, w_ild_1, w_lc0, w_ic, w_iv3, w_ist_2, tkl_n, tkl_i, tkl_l, tkl_r, w_gf_13_11, w_iv1, w_gf_13_0, w_iadd, w_ild_2, w_if_ne, w_nil, w64_r, true_and, and_true, Nat.reduceAdd, Nat.reduceSub, eq_self, tsh_0, tyk_13, tsh_77, tyk_8, tcq_8, tsh_5, tyk_11, tcq_13, tcq_11, tsh_499, tyk_27, tel_5, tsh_650, tsh_653, tyk_4, tcq_4]
    refine ts_n (b := 0) (D := 0) (fun d' hd' => k_X6_clear cl_77 (by omega) hd') hC (by omega) ?_
    intro M1 _ c1 p1
    try simp only [kb_X11_isConstantSound_11, w_ald_0, w_gf_13_4, tw_t, w_iv0, tfr_0, tfr_1, tfr_2, tfr_3, tfr_4, w_ild_1, w_lc0, w_ic, w_iv3, w_ist_2, tkl_n, tkl_i, tkl_l, tkl_r, w_gf_13_11, w_iv1, w_gf_13_0, w_iadd, w_ild_2, w_if_ne, w_nil, w64_r, true_and, and_true, Nat.reduceAdd, Nat.reduceSub, eq_self, tsh_0, tyk_13, tsh_77, tyk_8, tcq_8, tsh_5, tyk_11, tcq_13, tcq_11, tsh_499, tyk_27, tel_5, tsh_650, tsh_653, tyk_4, tcq_4]
    refine ts_i (b := 0) (D := 7) (fun d' hd' => k_X6_make cl_77 h1 (by omega) (by omega) (fun q => absurd q hq) he (by omega) hd') c1 (by omega) ?_
    intro z M2 hz c2 p2
    try simp only [kb_X11_isConstantSound_11, w_ald_0, w_gf_13_4, tw_t, w_iv0, tfr_0, tfr_1, tfr_2, tfr_3, tfr_4, w_ild_1, w_lc0, w_ic, w_iv3, w_ist_2, tkl_n, tkl_i, tkl_l, tkl_r, w_gf_13_11, w_iv1, w_gf_13_0, w_iadd, w_ild_2, w_if_ne, w_nil, w64_r, true_and, and_true, Nat.reduceAdd, Nat.reduceSub, eq_self, tsh_0, tyk_13, tsh_77, tyk_8, tcq_8, tsh_5, tyk_11, tcq_13, tcq_11, tsh_499, tyk_27, tel_5, tsh_650, tsh_653, tyk_4, tcq_4]
    refine tz_r (D := 1) (fun d' hd' => k_X6_result cl_77 hd') c2 (by omega) ?_
    intro x5 hx5
    try simp only [kb_X11_isConstantSound_11, w_ald_0, w_gf_13_4, tw_t, w_iv0, tfr_0, tfr_1, tfr_2, tfr_3, tfr_4, w_ild_1, w_lc0, w_ic, w_iv3, w_ist_2, tkl_n, tkl_i, tkl_l, tkl_r, w_gf_13_11, w_iv1, w_gf_13_0, w_iadd, w_ild_2, w_if_ne, w_nil, w64_r, true_and, and_true, Nat.reduceAdd, Nat.reduceSub, eq_self, tsh_0, tyk_13, tsh_77, tyk_8, tcq_8, tsh_5, tyk_11, tcq_13, tcq_11, tsh_499, tyk_27, tel_5, tsh_650, tsh_653, tyk_4, tcq_4]
    refine ts_n (b := 0) (D := 1) (fun d' hd' => k_X2_copy cl_650 hx5 (Or.inl (by omega)) hd') c2 (by omega) ?_
    intro M3 _ c3 p3
    try simp only [kb_X11_isConstantSound_11, w_ald_0, w_gf_13_4, tw_t, w_iv0, tfr_0, tfr_1, tfr_2, tfr_3, tfr_4, w_ild_1, w_lc0, w_ic, w_iv3, w_ist_2, tkl_n, tkl_i, tkl_l, tkl_r, w_gf_13_11, w_iv1, w_gf_13_0, w_iadd, w_ild_2, w_if_ne, w_nil, w64_r, true_and, and_true, Nat.reduceAdd, Nat.reduceSub, eq_self, tsh_0, tyk_13, tsh_77, tyk_8, tcq_8, tsh_5, tyk_11, tcq_13, tcq_11, tsh_499, tyk_27, tel_5, tsh_650, tsh_653, tyk_4, tcq_4]
    have p03 := pE_tr p1 (pE_tr p2 p3)
    have hz3 : M3 0 0 = M 0 0 := p03 0 0 (Or.inl (Or.inr (Or.inl ⟨rfl, rfl⟩)))
    refine tc_n (D := 2) (fun d' hd' => t_useD (by omega) hd') (by omega) ?_
    intro M4 hM4
    have c4 : CI M4 := by rw [hM4]; exact CI_un c3
    have e4 : E8 M M4 := by rw [hM4]; exact E8_tr (E8_p p03) E8_u
    clear hM4
    try simp only [kb_X11_isConstantSound_11, w_ald_0, w_gf_13_4, tw_t, w_iv0, tfr_0, tfr_1, tfr_2, tfr_3, tfr_4, w_ild_1, w_lc0, w_ic, w_iv3, w_ist_2, tkl_n, tkl_i, tkl_l, tkl_r, w_gf_13_11, w_iv1, w_gf_13_0, w_iadd, w_ild_2, w_if_ne, w_nil, w64_r, true_and, and_true, Nat.reduceAdd, Nat.reduceSub, eq_self, tsh_0, tyk_13, tsh_77, tyk_8, tcq_8, tsh_5, tyk_11, tcq_13, tcq_11, tsh_499, tyk_27, tel_5, tsh_650, tsh_653, tyk_4, tcq_4]
    refine ⟨by omega, fun h => n71 _ _ c4 e4 (by omega), fun h => ?_⟩
    refine ts_i (b := 0) (D := 7) (fun d' hd' => k_X6_make cl_77 h1 (by omega) (by omega) (fun q => absurd q hq) he (by omega) hd') c4 (by omega) ?_
    intro z2 M5 hz2 c5 p5
    try simp only [kb_X11_isConstantSound_11, w_ald_0, w_gf_13_4, tw_t, w_iv0, tfr_0, tfr_1, tfr_2, tfr_3, tfr_4, w_ild_1, w_lc0, w_ic, w_iv3, w_ist_2, tkl_n, tkl_i, tkl_l, tkl_r, w_gf_13_11, w_iv1, w_gf_13_0, w_iadd, w_ild_2, w_if_ne, w_nil, w64_r, true_and, and_true, Nat.reduceAdd, Nat.reduceSub, eq_self, tsh_0, tyk_13, tsh_77, tyk_8, tcq_8, tsh_5, tyk_11, tcq_13, tcq_11, tsh_499, tyk_27, tel_5, tsh_650, tsh_653, tyk_4, tcq_4]
    exact n71 _ _ c5 (E8_tr e4 (E8_p p5)) (by omega)
  exact ⟨by decide, ⟨hC, pE_refl⟩, _, rfl, rfl, by omega⟩
theorem q_isValueSound {x1 x2 : Nat} (hU : UN M) (h1 : cl x1 7) (h2 : cl x2 4) (he : EO e) (hC : CI M) (hd : 9 ≤ d) : tC e d 3364 [.inr (.inr (.inl 0)), .inr (.inr (.inl x1)), .inr (.inr (.inl x2))] M n (sQ 0 M (fun r n' _ => SQi n (fun z => (0 ≤ z ∧ z ≤ 1)) r n')) := by
  refine tst_X11_isValueSound ?_
  have hr := z00 hC
  have n105 : ∀ (M1 : tM) (i3 : Int) (w4 : Option tV), CI M1 → pE 0 M M1 → (0 ≤ i3 ∧ i3 ≤ 1) → tT e d 3364 105 [some (.inr (.inr (.inl (0)))), some (.inr (.inr (.inl (x1)))), some (.inr (.inr (.inl (x2)))), some (.inl (i3)), w4] [] M1 n (sQ 0 M (fun r n' _ => SQi n (fun z => (0 ≤ z ∧ z ≤ 1)) r n')) := by
    intro M1 i3 w4 c1 p1 hi
    have n185 : ∀ (M2 : tM) (i4 v : Int), CI M2 → pE 0 M M2 → (0 ≤ v ∧ v ≤ 1) → tT e d 3364 185 [some (.inr (.inr (.inl (0)))), some (.inr (.inr (.inl (x1)))), some (.inr (.inr (.inl (x2)))), some (.inl (i3)), some (.inl (i4))] [.inl v] M2 n (sQ 0 M (fun r n' _ => SQi n (fun z => (0 ≤ z ∧ z ≤ 1)) r n')) := by
      intro M2 i4 v c2 p2 hv
      refine tb_X11_isValueSound_185 (c := true) ?_
      simp only [kb_X11_isValueSound_185, w_ire, trg, w64_r, true_and, and_true, Nat.reduceAdd, Nat.reduceSub, eq_self]
      exact ⟨hv, ⟨c2, p2⟩, _, rfl, rfl, hv⟩
    have n184 : ∀ (M2 : tM) (i4 : Int), CI M2 → pE 0 M M2 → tT e d 3364 184 [some (.inr (.inr (.inl (0)))), some (.inr (.inr (.inl (x1)))), some (.inr (.inr (.inl (x2)))), some (.inl (i3)), some (.inl (i4))] [] M2 n (sQ 0 M (fun r n' _ => SQi n (fun z => (0 ≤ z ∧ z ≤ 1)) r n')) := by
      intro M2 i4 c2 p2
      refine tb_X11_isValueSound_184 (c := true) ?_
      simp only [kb_X11_isValueSound_184, w_ic, w_nil, w64_r, true_and, and_true, Nat.reduceAdd, Nat.reduceSub, eq_self]
      exact n185 _ _ _ c2 p2 (by omega)
    have n169 : ∀ (M2 : tM) (w4 : Option tV) (v : Int), CI M2 → pE 0 M M2 → (0 ≤ v ∧ v ≤ 1) → tT e d 3364 169 [some (.inr (.inr (.inl (0)))), some (.inr (.inr (.inl (x1)))), some (.inr (.inr (.inl (x2)))), some (.inl (i3)), w4] [.inl v] M2 n (sQ 0 M (fun r n' _ => SQi n (fun z => (0 ≤ z ∧ z ≤ 1)) r n')) := by
      intro M2 w4 v c2 p2 hv
      refine tb_X11_isValueSound_169 (c := true) ?_
      simp only [kb_X11_isValueSound_169, w_ist4, tkl_n, tkl_i, tkl_l, tkl_r, w_ild_3, w_if_eq, w_ild4, w_ic, w_goto, w64_r, true_and, and_true, Nat.reduceAdd, Nat.reduceSub, eq_self]
      refine ⟨by omega, fun h => n184 _ _ c2 p2, fun h => ?_⟩
      refine ⟨by omega, fun h => n184 _ _ c2 p2, fun h => n185 _ _ _ c2 p2 (by omega)⟩
    have n164 : ∀ (M2 : tM) (w4 : Option tV), CI M2 → pE 0 M M2 → tT e d 3364 164 [some (.inr (.inr (.inl (0)))), some (.inr (.inr (.inl (x1)))), some (.inr (.inr (.inl (x2)))), some (.inl (i3)), w4] [] M2 n (sQ 0 M (fun r n' _ => SQi n (fun z => (0 ≤ z ∧ z ≤ 1)) r n')) := by
      intro M2 w4 c2 p2
      refine tb_X11_isValueSound_164 (c := true) ?_
      simp only [kb_X11_isValueSound_164, w_ic, w_goto, w64_r, true_and, and_true, Nat.reduceAdd, Nat.reduceSub, eq_self]
      exact n169 _ _ _ c2 p2 (by omega)
    refine tb_X11_isValueSound_105 (c := true) ?_
    simp only [kb_X11_isValueSound_105, w_ald_0, w_gf_13_12, tw_t, w_ald_2, w_gf_13_4, w_iv0, tfr_0, tfr_1, tfr_2, tfr_3, tfr_4, w_iv2, w_popi, w_popr, w_ald_1, w_iv1, w_if_ne, w_gf_13_11, w_if_eq, w_nil, w64_r, true_and, and_true, Nat.reduceAdd, Nat.reduceSub, eq_self, tsh_0, tyk_13, tsh_77, tyk_8, tcq_8, tsh_5, tyk_11, tcq_13, tcq_11, tsh_499, tyk_27, tel_5, tsh_650, tsh_653, tyk_4, tcq_4]
    refine ts_l (b := 2) (D := 0) (fun d' hd' => k_X6_unit cl_77 hd') c1 (by omega) ?_
    intro u M2 hu c2 p2
    cases pE_2 p2
    try simp only [kb_X11_isValueSound_105, w_ald_0, w_gf_13_12, tw_t, w_ald_2, w_gf_13_4, w_iv0, tfr_0, tfr_1, tfr_2, tfr_3, tfr_4, w_iv2, w_popi, w_popr, w_ald_1, w_iv1, w_if_ne, w_gf_13_11, w_if_eq, w_nil, w64_r, true_and, and_true, Nat.reduceAdd, Nat.reduceSub, eq_self, tsh_0, tyk_13, tsh_77, tyk_8, tcq_8, tsh_5, tyk_11, tcq_13, tcq_11, tsh_499, tyk_27, tel_5, tsh_650, tsh_653, tyk_4, tcq_4]
    refine ts_i (b := 0) (D := 2) (fun d' hd' => k_X2_toMiddle cl_653 h2 hu (by omega) hd') c1 (by omega) ?_
    intro z M3 _ c3 p3
    try simp only [kb_X11_isValueSound_105, w_ald_0, w_gf_13_12, tw_t, w_ald_2, w_gf_13_4, w_iv0, tfr_0, tfr_1, tfr_2, tfr_3, tfr_4, w_iv2, w_popi, w_popr, w_ald_1, w_iv1, w_if_ne, w_gf_13_11, w_if_eq, w_nil, w64_r, true_and, and_true, Nat.reduceAdd, Nat.reduceSub, eq_self, tsh_0, tyk_13, tsh_77, tyk_8, tcq_8, tsh_5, tyk_11, tcq_13, tcq_11, tsh_499, tyk_27, tel_5, tsh_650, tsh_653, tyk_4, tcq_4]
    refine ts_n (b := 0) (D := 0) (fun d' hd' => k_X6_aim cl_77 cl_653 cl_653 (by omega) hd') c3 (by omega) ?_
    intro M4 _ c4 p4
    try simp only [kb_X11_isValueSound_105, w_ald_0, w_gf_13_12, tw_t, w_ald_2, w_gf_13_4, w_iv0, tfr_0, tfr_1, tfr_2, tfr_3, tfr_4, w_iv2, w_popi, w_popr, w_ald_1, w_iv1, w_if_ne, w_gf_13_11, w_if_eq, w_nil, w64_r, true_and, and_true, Nat.reduceAdd, Nat.reduceSub, eq_self, tsh_0, tyk_13, tsh_77, tyk_8, tcq_8, tsh_5, tyk_11, tcq_13, tcq_11, tsh_499, tyk_27, tel_5, tsh_650, tsh_653, tyk_4, tcq_4]
    refine ts_i (b := 0) (D := 8) (fun d' hd' => k_X6_makeValue cl_77 h1 he (by omega) hd') c4 (by omega) ?_
    intro z2 M5 hz2 c5 p5
    have p05 := pE_tr p1 (pE_tr p3 (pE_tr p4 p5))
    try simp only [kb_X11_isValueSound_105, w_ald_0, w_gf_13_12, tw_t, w_ald_2, w_gf_13_4, w_iv0, tfr_0, tfr_1, tfr_2, tfr_3, tfr_4, w_iv2, w_popi, w_popr, w_ald_1, w_iv1, w_if_ne, w_gf_13_11, w_if_eq, w_nil, w64_r, true_and, and_true, Nat.reduceAdd, Nat.reduceSub, eq_self, tsh_0, tyk_13, tsh_77, tyk_8, tcq_8, tsh_5, tyk_11, tcq_13, tcq_11, tsh_499, tyk_27, tel_5, tsh_650, tsh_653, tyk_4, tcq_4]
    refine ⟨by omega, fun h => n164 _ _ c5 p05, fun h => ?_⟩
    refine tz_r (D := 1) (fun d' hd' => k_X6_result cl_77 hd') c5 (by omega) ?_
    intro x5 hx5
    have hs5 := hx5.1
    try simp only [kb_X11_isValueSound_105, w_ald_0, w_gf_13_12, tw_t, w_ald_2, w_gf_13_4, w_iv0, tfr_0, tfr_1, tfr_2, tfr_3, tfr_4, w_iv2, w_popi, w_popr, w_ald_1, w_iv1, w_if_ne, w_gf_13_11, w_if_eq, w_nil, w64_r, true_and, and_true, Nat.reduceAdd, Nat.reduceSub, eq_self, tsh_0, tyk_13, tsh_77, tyk_8, tcq_8, tsh_5, tyk_11, tcq_13, tcq_11, tsh_499, tyk_27, tel_5, tsh_650, tsh_653, tyk_4, tcq_4, hs5]
    refine tz_i (D := 1) (fun d' hd' => k_X2_liesIn hx5 cl_650 hd') c5 (by omega) ?_
    intro z3 hz3
    try simp only [kb_X11_isValueSound_105, w_ald_0, w_gf_13_12, tw_t, w_ald_2, w_gf_13_4, w_iv0, tfr_0, tfr_1, tfr_2, tfr_3, tfr_4, w_iv2, w_popi, w_popr, w_ald_1, w_iv1, w_if_ne, w_gf_13_11, w_if_eq, w_nil, w64_r, true_and, and_true, Nat.reduceAdd, Nat.reduceSub, eq_self, tsh_0, tyk_13, tsh_77, tyk_8, tcq_8, tsh_5, tyk_11, tcq_13, tcq_11, tsh_499, tyk_27, tel_5, tsh_650, tsh_653, tyk_4, tcq_4]
    refine ⟨by omega, fun h => ?_, fun h => n164 _ _ c5 p05⟩
    refine tb_X11_isValueSound_168 (c := true) ?_
    simp only [kb_X11_isValueSound_168, w_ic, w_nil, w64_r, true_and, and_true, Nat.reduceAdd, Nat.reduceSub, eq_self]
    exact n169 _ _ _ c5 p05 (by omega)
  have n93 : ∀ (M1 : tM) (w3 w4 : Option tV) (v : Int), CI M1 → E8 M M1 → (0 ≤ v ∧ v ≤ 1) → tT e d 3364 93 [some (.inr (.inr (.inl (0)))), some (.inr (.inr (.inl (x1)))), some (.inr (.inr (.inl (x2)))), w3, w4] [.inl v] M1 n (sQ 0 M (fun r n' _ => SQi n (fun z => (0 ≤ z ∧ z ≤ 1)) r n')) := by
    intro M1 w3 w4 v c1 e1 hv
    have hz : M1 0 0 = M 0 0 := e1 0 0 (Or.inr ⟨rfl, rfl⟩)
    refine tb_X11_isValueSound_93 (c := true) ?_
    simp only [kb_X11_isValueSound_93, w_ist_3, tkl_n, tkl_i, tkl_l, tkl_r, w_ald_0, w_gf_13_4, tw_t, w_gf_13_0, w_iv1, tfr_0, tfr_1, tfr_2, tfr_3, tfr_4, w_nil, w64_r, true_and, and_true, Nat.reduceAdd, Nat.reduceSub, eq_self, tsh_0, tyk_13, tsh_77, tyk_8, tcq_8, tsh_5, tyk_11, tcq_13, tcq_11, tsh_499, tyk_27, tel_5, tsh_650, tsh_653, tyk_4, tcq_4]
    rw [hz]
    refine tc_n (D := 2) (fun d' hd' => t_useD hr hd') (by omega) ?_
    intro M2 hM2
    have c2 : CI M2 := by rw [hM2]; exact CI_un c1
    have p2 : pE 0 M M2 := by rw [hM2]; exact E8_end hU e1
    clear hM2
    try simp only [kb_X11_isValueSound_93, w_ist_3, tkl_n, tkl_i, tkl_l, tkl_r, w_ald_0, w_gf_13_4, tw_t, w_gf_13_0, w_iv1, tfr_0, tfr_1, tfr_2, tfr_3, tfr_4, w_nil, w64_r, true_and, and_true, Nat.reduceAdd, Nat.reduceSub, eq_self, tsh_0, tyk_13, tsh_77, tyk_8, tcq_8, tsh_5, tyk_11, tcq_13, tcq_11, tsh_499, tyk_27, tel_5, tsh_650, tsh_653, tyk_4, tcq_4]
    exact n105 _ _ _ c2 p2 hv
  have n88 : ∀ (M1 : tM) (w3 w4 : Option tV), CI M1 → E8 M M1 → tT e d 3364 88 [some (.inr (.inr (.inl (0)))), some (.inr (.inr (.inl (x1)))), some (.inr (.inr (.inl (x2)))), w3, w4] [] M1 n (sQ 0 M (fun r n' _ => SQi n (fun z => (0 ≤ z ∧ z ≤ 1)) r n')) := by
    intro M1 w3 w4 c1 e1
    refine tb_X11_isValueSound_88 (c := true) ?_
    simp only [kb_X11_isValueSound_88, w_ic, w_goto, w64_r, true_and, and_true, Nat.reduceAdd, Nat.reduceSub, eq_self]
    exact n93 _ _ _ _ c1 e1 (by omega)
  have hs2 := h2.1
  refine tb_X11_isValueSound_0 (c := true) ?_
  simp only [kb_X11_isValueSound_0, w_ald_0, w_gf_13_4, tw_t, w_ald_2, w_iv2, tfr_0, tfr_1, tfr_2, tfr_3, tfr_4, w_ald_1, w_iv1, w_if_eq, w_ic, w_ire, trg, w64_r, true_and, and_true, Nat.reduceAdd, Nat.reduceSub, eq_self, tsh_0, tyk_13, tsh_77, tyk_8, tcq_8, tsh_5, tyk_11, tcq_13, tcq_11, tsh_499, tyk_27, tel_5, tsh_650, tsh_653, tyk_4, tcq_4, hs2]
  refine ts_n (b := 0) (D := 0) (fun d' hd' => k_X6_aim cl_77 h2 h2 (by omega) hd') hC (by omega) ?_
  intro M1 _ c1 p1
  try simp only [kb_X11_isValueSound_0, w_ald_0, w_gf_13_4, tw_t, w_ald_2, w_iv2, tfr_0, tfr_1, tfr_2, tfr_3, tfr_4, w_ald_1, w_iv1, w_if_eq, w_ic, w_ire, trg, w64_r, true_and, and_true, Nat.reduceAdd, Nat.reduceSub, eq_self, tsh_0, tyk_13, tsh_77, tyk_8, tcq_8, tsh_5, tyk_11, tcq_13, tcq_11, tsh_499, tyk_27, tel_5, tsh_650, tsh_653, tyk_4, tcq_4]
  refine ts_i (b := 0) (D := 8) (fun d' hd' => k_X6_makeValue cl_77 h1 he (by omega) hd') c1 (by omega) ?_
  intro z M2 hz c2 p2
  have p02 := pE_tr p1 p2
  try simp only [kb_X11_isValueSound_0, w_ald_0, w_gf_13_4, tw_t, w_ald_2, w_iv2, tfr_0, tfr_1, tfr_2, tfr_3, tfr_4, w_ald_1, w_iv1, w_if_eq, w_ic, w_ire, trg, w64_r, true_and, and_true, Nat.reduceAdd, Nat.reduceSub, eq_self, tsh_0, tyk_13, tsh_77, tyk_8, tcq_8, tsh_5, tyk_11, tcq_13, tcq_11, tsh_499, tyk_27, tel_5, tsh_650, tsh_653, tyk_4, tcq_4]
  refine ⟨by omega, fun h => ?_, fun h => ?_⟩
  · refine tb_X11_isValueSound_22 (c := true) ?_
    simp only [kb_X11_isValueSound_22, w_ald_0, w_gf_13_11, tw_t, w_gf_13_4, w_iv0, tfr_0, tfr_1, tfr_2, tfr_3, tfr_4, w_iv1, w_ic, w_ist_3, tkl_n, tkl_i, tkl_l, tkl_r, w_gf_13_0, w_bi, w_ic_ge, w_iadd, w_ald_1, w_if_ne, w_if_eq, w_nil, w64_r, true_and, and_true, Nat.reduceAdd, Nat.reduceSub, eq_self, tsh_0, tyk_13, tsh_77, tyk_8, tcq_8, tsh_5, tyk_11, tcq_13, tcq_11, tsh_499, tyk_27, tel_5, tsh_650, tsh_653, tyk_4, tcq_4]
    refine tz_r (D := 1) (fun d' hd' => k_X6_result cl_77 hd') c2 (by omega) ?_
    intro x5 hx5
    try simp only [kb_X11_isValueSound_22, w_ald_0, w_gf_13_11, tw_t, w_gf_13_4, w_iv0, tfr_0, tfr_1, tfr_2, tfr_3, tfr_4, w_iv1, w_ic, w_ist_3, tkl_n, tkl_i, tkl_l, tkl_r, w_gf_13_0, w_bi, w_ic_ge, w_iadd, w_ald_1, w_if_ne, w_if_eq, w_nil, w64_r, true_and, and_true, Nat.reduceAdd, Nat.reduceSub, eq_self, tsh_0, tyk_13, tsh_77, tyk_8, tcq_8, tsh_5, tyk_11, tcq_13, tcq_11, tsh_499, tyk_27, tel_5, tsh_650, tsh_653, tyk_4, tcq_4]
    refine ts_n (b := 0) (D := 1) (fun d' hd' => k_X2_copy cl_650 hx5 (Or.inl (by omega)) hd') c2 (by omega) ?_
    intro M3 _ c3 p3
    have p03 := pE_tr p02 p3
    have hz3 : M3 0 0 = M 0 0 := p03 0 0 (Or.inl (Or.inr (Or.inl ⟨rfl, rfl⟩)))
    try simp only [kb_X11_isValueSound_22, w_ald_0, w_gf_13_11, tw_t, w_gf_13_4, w_iv0, tfr_0, tfr_1, tfr_2, tfr_3, tfr_4, w_iv1, w_ic, w_ist_3, tkl_n, tkl_i, tkl_l, tkl_r, w_gf_13_0, w_bi, w_ic_ge, w_iadd, w_ald_1, w_if_ne, w_if_eq, w_nil, w64_r, true_and, and_true, Nat.reduceAdd, Nat.reduceSub, eq_self, tsh_0, tyk_13, tsh_77, tyk_8, tcq_8, tsh_5, tyk_11, tcq_13, tcq_11, tsh_499, tyk_27, tel_5, tsh_650, tsh_653, tyk_4, tcq_4]
    refine ⟨by omega, fun h => n105 _ _ _ c3 p03 (by omega), fun h => ?_⟩
    refine tc_n (D := 2) (fun d' hd' => t_useD (by omega) hd') (by omega) ?_
    intro M4 hM4
    have c4 : CI M4 := by rw [hM4]; exact CI_un c3
    have e4 : E8 M M4 := by rw [hM4]; exact E8_tr (E8_p p03) E8_u
    clear hM4
    try simp only [kb_X11_isValueSound_22, w_ald_0, w_gf_13_11, tw_t, w_gf_13_4, w_iv0, tfr_0, tfr_1, tfr_2, tfr_3, tfr_4, w_iv1, w_ic, w_ist_3, tkl_n, tkl_i, tkl_l, tkl_r, w_gf_13_0, w_bi, w_ic_ge, w_iadd, w_ald_1, w_if_ne, w_if_eq, w_nil, w64_r, true_and, and_true, Nat.reduceAdd, Nat.reduceSub, eq_self, tsh_0, tyk_13, tsh_77, tyk_8, tcq_8, tsh_5, tyk_11, tcq_13, tcq_11, tsh_499, tyk_27, tel_5, tsh_650, tsh_653, tyk_4, tcq_4]
    refine ts_i (b := 0) (D := 8) (fun d' hd' => k_X6_makeValue cl_77 h1 he (by omega) hd') c4 (by omega) ?_
    intro z2 M5 hz2 c5 p5
    have e5 := E8_tr e4 (E8_p p5)
    try simp only [kb_X11_isValueSound_22, w_ald_0, w_gf_13_11, tw_t, w_gf_13_4, w_iv0, tfr_0, tfr_1, tfr_2, tfr_3, tfr_4, w_iv1, w_ic, w_ist_3, tkl_n, tkl_i, tkl_l, tkl_r, w_gf_13_0, w_bi, w_ic_ge, w_iadd, w_ald_1, w_if_ne, w_if_eq, w_nil, w64_r, true_and, and_true, Nat.reduceAdd, Nat.reduceSub, eq_self, tsh_0, tyk_13, tsh_77, tyk_8, tcq_8, tsh_5, tyk_11, tcq_13, tcq_11, tsh_499, tyk_27, tel_5, tsh_650, tsh_653, tyk_4, tcq_4]
    refine ⟨by omega, fun h => n88 _ _ _ c5 e5, fun h => ?_⟩
    refine tz_r (D := 1) (fun d' hd' => k_X6_result cl_77 hd') c5 (by omega) ?_
    intro x6 hx6
    have hs6 := hx6.1
    try simp only [kb_X11_isValueSound_22, w_ald_0, w_gf_13_11, tw_t, w_gf_13_4, w_iv0, tfr_0, tfr_1, tfr_2, tfr_3, tfr_4, w_iv1, w_ic, w_ist_3, tkl_n, tkl_i, tkl_l, tkl_r, w_gf_13_0, w_bi, w_ic_ge, w_iadd, w_ald_1, w_if_ne, w_if_eq, w_nil, w64_r, true_and, and_true, Nat.reduceAdd, Nat.reduceSub, eq_self, tsh_0, tyk_13, tsh_77, tyk_8, tcq_8, tsh_5, tyk_11, tcq_13, tcq_11, tsh_499, tyk_27, tel_5, tsh_650, tsh_653, tyk_4, tcq_4, hs6]
    refine tz_i (D := 1) (fun d' hd' => k_X2_liesIn hx6 cl_650 hd') c5 (by omega) ?_
    intro z3 hz4
    try simp only [kb_X11_isValueSound_22, w_ald_0, w_gf_13_11, tw_t, w_gf_13_4, w_iv0, tfr_0, tfr_1, tfr_2, tfr_3, tfr_4, w_iv1, w_ic, w_ist_3, tkl_n, tkl_i, tkl_l, tkl_r, w_gf_13_0, w_bi, w_ic_ge, w_iadd, w_ald_1, w_if_ne, w_if_eq, w_nil, w64_r, true_and, and_true, Nat.reduceAdd, Nat.reduceSub, eq_self, tsh_0, tyk_13, tsh_77, tyk_8, tcq_8, tsh_5, tyk_11, tcq_13, tcq_11, tsh_499, tyk_27, tel_5, tsh_650, tsh_653, tyk_4, tcq_4]
    refine ⟨by omega, fun h => ?_, fun h => n88 _ _ _ c5 e5⟩
    refine tb_X11_isValueSound_92 (c := true) ?_
    simp only [kb_X11_isValueSound_92, w_ic, w_nil, w64_r, true_and, and_true, Nat.reduceAdd, Nat.reduceSub, eq_self]
    exact n93 _ _ _ _ c5 e5 (by omega)
  exact ⟨by decide, ⟨c2, p02⟩, _, rfl, rfl, by omega⟩
theorem q_isSound (hU : UN M) (he : EO e) (hC : CI M) (hd : 10 ≤ d) : tC e d 3363 [.inr (.inr (.inl 0))] M n (sQ 0 M (fun r n' _ => SQi n (fun z => (0 ≤ z ∧ z ≤ 1)) r n')) := by
  refine tst_X11_isSound ?_
  have n101 : ∀ (M1 : tM) (i1 i2 : Int) (w3 : Option tV), CI M1 → pE 0 M M1 → (0 ≤ i1 ∧ i1 ≤ 1) → tT e d 3363 101 [some (.inr (.inr (.inl (0)))), some (.inl (i1)), some (.inl (i2)), w3] [] M1 n (sQ 0 M (fun r n' _ => SQi n (fun z => (0 ≤ z ∧ z ≤ 1)) r n')) := by
    intro M1 i1 i2 w3 c1 p1 hi
    refine tb_X11_isSound_101 (c := true) ?_
    simp only [kb_X11_isSound_101, w_ild_1, w_ire, trg, w64_r, true_and, and_true, Nat.reduceAdd, Nat.reduceSub, eq_self]
    exact ⟨hi, ⟨c1, p1⟩, _, rfl, rfl, hi⟩
  have n26 : ∀ (fu : Nat) (M1 : tM) (i1 i2 : Int) (w3 : Option tV), 4 - i2 + 1 ≤ (fu : Int) → CI M1 → pE 0 M M1 → (0 ≤ i1 ∧ i1 ≤ 1) → (0 ≤ i2 ∧ i2 ≤ 4) → tT e d 3363 26 [some (.inr (.inr (.inl (0)))), some (.inl (i1)), some (.inl (i2)), w3] [] M1 n (sQ 0 M (fun r n' _ => SQi n (fun z => (0 ≤ z ∧ z ≤ 1)) r n')) := by
    intro fu
    induction fu with
    | zero =>
      intro M1 i1 i2 w3 hm
      intros
      exfalso; omega
    | succ fu ih =>
      intro M1 i1 i2 w3 hm c1 p1 y1 y2
      have ih26 := ih
      clear ih
      refine tb_X11_isSound_26 (c := true) ?_
      simp only [kb_X11_isSound_26, w_ild_2, w_ic, w_ic_ge, w_ild_1, w_if_eq, w_ist_3, tkl_n, tkl_i, tkl_l, tkl_r, w_nil, w64_r, true_and, and_true, Nat.reduceAdd, Nat.reduceSub, eq_self]
      refine ⟨by omega, fun h => n101 _ _ _ _ c1 p1 y1, fun h => ?_⟩
      refine ⟨by omega, fun h => n101 _ _ _ _ c1 p1 y1, fun h1 => ?_⟩
      have n37 : ∀ (fu : Nat) (M2 : tM) (i1 i3 : Int), 10 - i3 + 1 ≤ (fu : Int) → CI M2 → pE 0 M M2 → (0 ≤ i1 ∧ i1 ≤ 1) → (0 ≤ i3 ∧ i3 ≤ 10) → tT e d 3363 37 [some (.inr (.inr (.inl (0)))), some (.inl (i1)), some (.inl (i2)), some (.inl (i3))] [] M2 n (sQ 0 M (fun r n' _ => SQi n (fun z => (0 ≤ z ∧ z ≤ 1)) r n')) := by
        intro fu
        induction fu with
        | zero =>
          intro M2 i1 i3 hm
          intros
          exfalso; omega
        | succ fu ih =>
          intro M2 i1 i3 hm c2 p2 z1 z3
          have n95 : tT e d 3363 95 [some (.inr (.inr (.inl (0)))), some (.inl (i1)), some (.inl (i2)), some (.inl (i3))] [] M2 n (sQ 0 M (fun r n' _ => SQi n (fun z => (0 ≤ z ∧ z ≤ 1)) r n')) := by
            refine tb_X11_isSound_95 (c := true) ?_
            simp only [kb_X11_isSound_95, w_inc2, tkl_n, tkl_i, tkl_l, tkl_r, w_goto, w64_r, true_and, and_true, Nat.reduceAdd, Nat.reduceSub, eq_self]
            exact ih26 _ _ _ _ (by omega) c2 p2 z1 (by omega)
          have n89 : ∀ (M3 : tM) (i1 : Int), CI M3 → pE 0 M M3 → (0 ≤ i1 ∧ i1 ≤ 1) → i3 ≤ 9 → tT e d 3363 89 [some (.inr (.inr (.inl (0)))), some (.inl (i1)), some (.inl (i2)), some (.inl (i3))] [] M3 n (sQ 0 M (fun r n' _ => SQi n (fun z => (0 ≤ z ∧ z ≤ 1)) r n')) := by
            intro M3 i1 c3 p3 w1 w3
            refine tb_X11_isSound_89 (c := true) ?_
            simp only [kb_X11_isSound_89, w_inc3, tkl_n, tkl_i, tkl_l, tkl_r, w_goto, w64_r, true_and, and_true, Nat.reduceAdd, Nat.reduceSub, eq_self]
            exact ih _ _ _ (by omega) c3 p3 w1 (by omega)
          have hf := fm_cl c2 (show 0 ≤ i2 ∧ i2 ≤ 3 by omega)
          have hv := CI_i (f := 6) c2 hf rfl
          refine tb_X11_isSound_37 (c := true) ?_
          simp only [kb_X11_isSound_37, w_ild_3, w_bi, w_ic_ge, w_ild_1, w_if_eq, w_ald_0, w_gf_13_5, tw_t, w_ild_2, w_aa, w_gf_7_6, w_gf_13_3, w_iv1, tfr_0, tfr_1, tfr_2, tfr_3, tfr_4, w_iv2, w_ist_1, tkl_n, tkl_i, tkl_l, tkl_r, w_nil, w64_r, true_and, and_true, Nat.reduceAdd, Nat.reduceSub, eq_self, tsh_0, tyk_13, tsh_77, tyk_8, tcq_8, tsh_5, tyk_11, tcq_13, tcq_11, tsh_499, tyk_27, tel_5, tsh_650, tsh_653, tyk_4, tcq_4]
          refine ⟨by omega, fun h => n95, fun h => ?_⟩
          refine ⟨by omega, fun h => n95, fun h => ?_⟩
          refine ⟨by omega, hf.1, ?_⟩
          have hv : 0 ≤ M2 (M2 499 i2).toNat 6 ∧ M2 (M2 499 i2).toNat 6 ≤ 1 := hv
          refine ⟨by omega, fun h => n89 _ _ c2 p2 z1 (by omega), fun h => ?_⟩
          refine tz_i (D := 1) (fun d' hd' => k_X9_holds cl_5 (by omega) hd') c2 (by omega) ?_
          intro z hz
          try simp only [kb_X11_isSound_37, w_ild_3, w_bi, w_ic_ge, w_ild_1, w_if_eq, w_ald_0, w_gf_13_5, tw_t, w_ild_2, w_aa, w_gf_7_6, w_gf_13_3, w_iv1, tfr_0, tfr_1, tfr_2, tfr_3, tfr_4, w_iv2, w_ist_1, tkl_n, tkl_i, tkl_l, tkl_r, w_nil, w64_r, true_and, and_true, Nat.reduceAdd, Nat.reduceSub, eq_self, tsh_0, tyk_13, tsh_77, tyk_8, tcq_8, tsh_5, tyk_11, tcq_13, tcq_11, tsh_499, tyk_27, tel_5, tsh_650, tsh_653, tyk_4, tcq_4]
          refine ⟨by omega, fun h => n89 _ _ c2 p2 z1 (by omega), fun h => ?_⟩
          refine ⟨by omega, ?_⟩
          refine tz_r (D := 1) (fun d' hd' => k_X9_box cl_5 (by omega) hd') c2 (by omega) ?_
          intro x5 hx5
          try simp only [kb_X11_isSound_37, w_ild_3, w_bi, w_ic_ge, w_ild_1, w_if_eq, w_ald_0, w_gf_13_5, tw_t, w_ild_2, w_aa, w_gf_7_6, w_gf_13_3, w_iv1, tfr_0, tfr_1, tfr_2, tfr_3, tfr_4, w_iv2, w_ist_1, tkl_n, tkl_i, tkl_l, tkl_r, w_nil, w64_r, true_and, and_true, Nat.reduceAdd, Nat.reduceSub, eq_self, tsh_0, tyk_13, tsh_77, tyk_8, tcq_8, tsh_5, tyk_11, tcq_13, tcq_11, tsh_499, tyk_27, tel_5, tsh_650, tsh_653, tyk_4, tcq_4]
          refine tq_i (b := 0) (D := 9) (fun d' hd' => q_isValueSound (UN_p hU p2) hf hx5 he c2 hd') (by omega) ?_
          intro z2 M3 hz2 c3 p3
          try simp only [kb_X11_isSound_37, w_ild_3, w_bi, w_ic_ge, w_ild_1, w_if_eq, w_ald_0, w_gf_13_5, tw_t, w_ild_2, w_aa, w_gf_7_6, w_gf_13_3, w_iv1, tfr_0, tfr_1, tfr_2, tfr_3, tfr_4, w_iv2, w_ist_1, tkl_n, tkl_i, tkl_l, tkl_r, w_nil, w64_r, true_and, and_true, Nat.reduceAdd, Nat.reduceSub, eq_self, tsh_0, tyk_13, tsh_77, tyk_8, tcq_8, tsh_5, tyk_11, tcq_13, tcq_11, tsh_499, tyk_27, tel_5, tsh_650, tsh_653, tyk_4, tcq_4]
          exact n89 _ _ c3 (pE_tr p2 p3) hz2 (by omega)
      exact n37 12 _ _ _ (by omega) c1 p1 y1 (by omega)
  have n23 : ∀ (M1 : tM) (w1 w2 w3 : Option tV) (v : Int), CI M1 → pE 0 M M1 → (0 ≤ v ∧ v ≤ 1) → tT e d 3363 23 [some (.inr (.inr (.inl (0)))), w1, w2, w3] [.inl v] M1 n (sQ 0 M (fun r n' _ => SQi n (fun z => (0 ≤ z ∧ z ≤ 1)) r n')) := by
    intro M1 w1 w2 w3 v c1 p1 hv
    refine tb_X11_isSound_23 (c := true) ?_
    simp only [kb_X11_isSound_23, w_ist_1, tkl_n, tkl_i, tkl_l, tkl_r, w_ic, w_ist_2, w_nil, w64_r, true_and, and_true, Nat.reduceAdd, Nat.reduceSub, eq_self]
    exact n26 6 _ _ _ _ (by omega) c1 p1 hv (by omega)
  have n22 : ∀ (M1 : tM) (w1 w2 w3 : Option tV), CI M1 → pE 0 M M1 → tT e d 3363 22 [some (.inr (.inr (.inl (0)))), w1, w2, w3] [] M1 n (sQ 0 M (fun r n' _ => SQi n (fun z => (0 ≤ z ∧ z ≤ 1)) r n')) := by
    intro M1 w1 w2 w3 c1 p1
    refine tb_X11_isSound_22 (c := true) ?_
    simp only [kb_X11_isSound_22, w_ic, w_nil, w64_r, true_and, and_true, Nat.reduceAdd, Nat.reduceSub, eq_self]
    exact n23 _ _ _ _ _ c1 p1 (by omega)
  refine tb_X11_isSound_0 (c := true) ?_
  simp only [kb_X11_isSound_0, w_ald_0, w_bi, w_iv1, tfr_0, tfr_1, tfr_2, tfr_3, tfr_4, w_if_eq, w_ic, w_goto, w64_r, true_and, and_true, Nat.reduceAdd, Nat.reduceSub, eq_self, tsh_0, tyk_13, tsh_77, tyk_8, tcq_8, tsh_5, tyk_11, tcq_13, tcq_11, tsh_499, tyk_27, tel_5, tsh_650, tsh_653, tyk_4, tcq_4]
  refine tq_i (b := 0) (D := 8) (fun d' hd' => q_isConstantSound hU (by omega) (by decide) he hC hd') (by omega) ?_
  intro z1 M1 hz1 c1 p1
  try simp only [kb_X11_isSound_0, w_ald_0, w_bi, w_iv1, tfr_0, tfr_1, tfr_2, tfr_3, tfr_4, w_if_eq, w_ic, w_goto, w64_r, true_and, and_true, Nat.reduceAdd, Nat.reduceSub, eq_self, tsh_0, tyk_13, tsh_77, tyk_8, tcq_8, tsh_5, tyk_11, tcq_13, tcq_11, tsh_499, tyk_27, tel_5, tsh_650, tsh_653, tyk_4, tcq_4]
  refine ⟨by omega, fun h => n22 _ _ _ _ c1 p1, fun h => ?_⟩
  refine tq_i (b := 0) (D := 8) (fun d' hd' => q_isConstantSound (UN_p hU p1) (by omega) (by decide) he c1 hd') (by omega) ?_
  intro z2 M2 hz2 c2 p2
  try simp only [kb_X11_isSound_0, w_ald_0, w_bi, w_iv1, tfr_0, tfr_1, tfr_2, tfr_3, tfr_4, w_if_eq, w_ic, w_goto, w64_r, true_and, and_true, Nat.reduceAdd, Nat.reduceSub, eq_self, tsh_0, tyk_13, tsh_77, tyk_8, tcq_8, tsh_5, tyk_11, tcq_13, tcq_11, tsh_499, tyk_27, tel_5, tsh_650, tsh_653, tyk_4, tcq_4]
  refine ⟨by omega, fun h => n22 _ _ _ _ c2 (pE_tr p1 p2), fun h => ?_⟩
  exact n23 _ _ _ _ _ c2 (pE_tr p1 p2) (by omega)
end HAND
