/-! WHAT HOLDS BETWEEN CALLS: kept by zeros, the call. -/
theorem tsh_560 : tsh 560 = 9 := by rw [tsh_def]; decide +kernel
/-- a row of boxes, more than these are not in it -/
theorem PCG_i {P a : Nat} {M' : tM} {c : Nat} (h : PCG M' P (c + 1) ∨ (8 ≤ c ∧ PCG M' P c)) : ∃ b : Nat, PCG M' P b := by
  rcases h with g | ⟨_, g⟩
  · exact ⟨_, g⟩
  · exact ⟨_, g⟩
section HAND
variable {e : tE} {d n : Nat} {M : tM}
theorem v_zeros {x1 x2 x3 : Int} (h1 : (-2147483648 ≤ x1 ∧ x1 ≤ 2147483647)) (h2 : (-2147483648 ≤ x2 ∧ x2 ≤ 2147483647)) (h3 : (-2147483648 ≤ x3 ∧ x3 ≤ 2147483647)) (he : EVr e) (hl : ESL e) (hK : KW M) (hC : CI M) (hd : 10 ≤ d) : tC e d 3400 [.inr (.inr (.inl 0)), .inl x1, .inl x2, .inl x3] M n (tQx n (tQi n (fun z M' => (-2147483648 ≤ z ∧ z ≤ 2147483647) ∧ KA M M')) (fun _ M' => KA M M')) := by
  refine tst_X11_zeros ?_
  refine tb_X11_zeros_0 (c := true) ?_
  simp only [kb_X11_zeros_0, w_ald_0, w_ild_2, w_iv1, tfr_0, tfr_1, tfr_2, tfr_3, tfr_4, w_ild_1, w_ild_3, w_ic, w_iv2, w_gf_13_7, tw_t, w_iv0, w_gf_13_8, w_gf_13_3, w_ist4, tkl_n, tkl_i, tkl_l, tkl_r, w_nil, w64_r, true_and, and_true, Nat.reduceAdd, Nat.reduceSub, eq_self, tsh_0, tyk_13, tcq_13, tsh_77, tyk_8, tcq_8, tyk_4, tcq_4, tsh_499, tyk_27, tel_5, tyk_7, tcq_7, tsh_5, tyk_11, tcq_11, tsh_650, tsh_653, tsh_530, tsh_560, tyk_9, tcq_9, tsh_662, tyk_3, tcq_3]
  refine tz_xn (D := 0) (fun d' hd' => k_X11_checkShelf cl_0 h2 hd') hC (by omega) rfl ?_ (fun s q => Or.inr ⟨_, rfl, rfl, KA_refl hC hK⟩)
  intro a2
  try simp only [kb_X11_zeros_0, w_ald_0, w_ild_2, w_iv1, tfr_0, tfr_1, tfr_2, tfr_3, tfr_4, w_ild_1, w_ild_3, w_ic, w_iv2, w_gf_13_7, tw_t, w_iv0, w_gf_13_8, w_gf_13_3, w_ist4, tkl_n, tkl_i, tkl_l, tkl_r, w_nil, w64_r, true_and, and_true, Nat.reduceAdd, Nat.reduceSub, eq_self, tsh_0, tyk_13, tcq_13, tsh_77, tyk_8, tcq_8, tyk_4, tcq_4, tsh_499, tyk_27, tel_5, tyk_7, tcq_7, tsh_5, tyk_11, tcq_11, tsh_650, tsh_653, tsh_530, tsh_560, tyk_9, tcq_9, tsh_662, tyk_3, tcq_3]
  refine tz_xn (D := 0) (fun d' hd' => k_X11_checkFormula cl_0 h1 hd') hC (by omega) rfl ?_ (fun s q => Or.inr ⟨_, rfl, rfl, KA_refl hC hK⟩)
  intro a1
  try simp only [kb_X11_zeros_0, w_ald_0, w_ild_2, w_iv1, tfr_0, tfr_1, tfr_2, tfr_3, tfr_4, w_ild_1, w_ild_3, w_ic, w_iv2, w_gf_13_7, tw_t, w_iv0, w_gf_13_8, w_gf_13_3, w_ist4, tkl_n, tkl_i, tkl_l, tkl_r, w_nil, w64_r, true_and, and_true, Nat.reduceAdd, Nat.reduceSub, eq_self, tsh_0, tyk_13, tcq_13, tsh_77, tyk_8, tcq_8, tyk_4, tcq_4, tsh_499, tyk_27, tel_5, tyk_7, tcq_7, tsh_5, tyk_11, tcq_11, tsh_650, tsh_653, tsh_530, tsh_560, tyk_9, tcq_9, tsh_662, tyk_3, tcq_3]
  refine tz_xn (D := 0) (fun d' hd' => k_X11_checkCuts cl_0 h3 (by decide) hd') hC (by omega) rfl ?_ (fun s q => Or.inr ⟨_, rfl, rfl, KA_refl hC hK⟩)
  intro a3
  try simp only [kb_X11_zeros_0, w_ald_0, w_ild_2, w_iv1, tfr_0, tfr_1, tfr_2, tfr_3, tfr_4, w_ild_1, w_ild_3, w_ic, w_iv2, w_gf_13_7, tw_t, w_iv0, w_gf_13_8, w_gf_13_3, w_ist4, tkl_n, tkl_i, tkl_l, tkl_r, w_nil, w64_r, true_and, and_true, Nat.reduceAdd, Nat.reduceSub, eq_self, tsh_0, tyk_13, tcq_13, tsh_77, tyk_8, tcq_8, tyk_4, tcq_4, tsh_499, tyk_27, tel_5, tyk_7, tcq_7, tsh_5, tyk_11, tcq_11, tsh_650, tsh_653, tsh_530, tsh_560, tyk_9, tcq_9, tsh_662, tyk_3, tcq_3]
  refine tc_xn (D := 0) (fun d' hd' => x_cdef a1 hC) (by omega) rfl ?_ (fun s M' q => Or.inr ⟨_, rfl, rfl, by rw [q]; exact KA_refl hC hK⟩)
  rintro M4 ⟨b1, rfl⟩
  try simp only [kb_X11_zeros_0, w_ald_0, w_ild_2, w_iv1, tfr_0, tfr_1, tfr_2, tfr_3, tfr_4, w_ild_1, w_ild_3, w_ic, w_iv2, w_gf_13_7, tw_t, w_iv0, w_gf_13_8, w_gf_13_3, w_ist4, tkl_n, tkl_i, tkl_l, tkl_r, w_nil, w64_r, true_and, and_true, Nat.reduceAdd, Nat.reduceSub, eq_self, tsh_0, tyk_13, tcq_13, tsh_77, tyk_8, tcq_8, tyk_4, tcq_4, tsh_499, tyk_27, tel_5, tyk_7, tcq_7, tsh_5, tyk_11, tcq_11, tsh_650, tsh_653, tsh_530, tsh_560, tyk_9, tcq_9, tsh_662, tyk_3, tcq_3]
  refine tz_xn (D := 2) (fun d' hd' => k_X11_checkHeld cl_0 h2 hd') hC (by omega) rfl ?_ (fun s q => Or.inr ⟨_, rfl, rfl, KA_refl hC hK⟩)
  intro _
  obtain ⟨j, rfl⟩ : ∃ k : Nat, x2 = (k : Int) := ⟨x2.toNat, by omega⟩
  try simp only [kb_X11_zeros_0, w_ald_0, w_ild_2, w_iv1, tfr_0, tfr_1, tfr_2, tfr_3, tfr_4, w_ild_1, w_ild_3, w_ic, w_iv2, w_gf_13_7, tw_t, w_iv0, w_gf_13_8, w_gf_13_3, w_ist4, tkl_n, tkl_i, tkl_l, tkl_r, w_nil, w64_r, true_and, and_true, Nat.reduceAdd, Nat.reduceSub, eq_self, tsh_0, tyk_13, tcq_13, tsh_77, tyk_8, tcq_8, tyk_4, tcq_4, tsh_499, tyk_27, tel_5, tyk_7, tcq_7, tsh_5, tyk_11, tcq_11, tsh_650, tsh_653, tsh_530, tsh_560, tyk_9, tcq_9, tsh_662, tyk_3, tcq_3]
  refine tz_xn (D := 0) (fun d' hd' => k_X11_checkNoY cl_0 a1 hd') hC (by omega) rfl ?_ (fun s q => Or.inr ⟨_, rfl, rfl, KA_refl hC hK⟩)
  intro _
  have cj := (cl_sh (s := j) (by omega)).1
  have P5 : PCS 530 := Or.inl rfl
  have P6 : PCS 560 := Or.inr (Or.inl rfl)
  try simp only [kb_X11_zeros_0, w_ald_0, w_ild_2, w_iv1, tfr_0, tfr_1, tfr_2, tfr_3, tfr_4, w_ild_1, w_ild_3, w_ic, w_iv2, w_gf_13_7, tw_t, w_iv0, w_gf_13_8, w_gf_13_3, w_ist4, tkl_n, tkl_i, tkl_l, tkl_r, w_nil, w64_r, true_and, and_true, Nat.reduceAdd, Nat.reduceSub, eq_self, tsh_0, tyk_13, tcq_13, tsh_77, tyk_8, tcq_8, tyk_4, tcq_4, tsh_499, tyk_27, tel_5, tyk_7, tcq_7, tsh_5, tyk_11, tcq_11, tsh_650, tsh_653, tsh_530, tsh_560, tyk_9, tcq_9, tsh_662, tyk_3, tcq_3]
  refine tc_n (D := 0) (fun d' hd' => z_pclear P5 hK hC) (by omega) ?_
  rintro M5 ⟨k5, p5, f5⟩
  try simp only [kb_X11_zeros_0, w_ald_0, w_ild_2, w_iv1, tfr_0, tfr_1, tfr_2, tfr_3, tfr_4, w_ild_1, w_ild_3, w_ic, w_iv2, w_gf_13_7, tw_t, w_iv0, w_gf_13_8, w_gf_13_3, w_ist4, tkl_n, tkl_i, tkl_l, tkl_r, w_nil, w64_r, true_and, and_true, Nat.reduceAdd, Nat.reduceSub, eq_self, tsh_0, tyk_13, tcq_13, tsh_77, tyk_8, tcq_8, tyk_4, tcq_4, tsh_499, tyk_27, tel_5, tyk_7, tcq_7, tsh_5, tyk_11, tcq_11, tsh_650, tsh_653, tsh_530, tsh_560, tyk_9, tcq_9, tsh_662, tyk_3, tcq_3]
  refine tc_n (D := 0) (fun d' hd' => z_pclear P6 k5.2 k5.1.1) (by omega) ?_
  rintro M6 ⟨k6, p6, f6⟩
  have kk6 := KA_tr k5.1.2 k6
  have p56 : PCG M6 530 0 := PCG_u p5 (f6 _ _ (by decide)) (fun k i a b => f6 k i (by omega))
  try simp only [kb_X11_zeros_0, w_ald_0, w_ild_2, w_iv1, tfr_0, tfr_1, tfr_2, tfr_3, tfr_4, w_ild_1, w_ild_3, w_ic, w_iv2, w_gf_13_7, tw_t, w_iv0, w_gf_13_8, w_gf_13_3, w_ist4, tkl_n, tkl_i, tkl_l, tkl_r, w_nil, w64_r, true_and, and_true, Nat.reduceAdd, Nat.reduceSub, eq_self, tsh_0, tyk_13, tcq_13, tsh_77, tyk_8, tcq_8, tyk_4, tcq_4, tsh_499, tyk_27, tel_5, tyk_7, tcq_7, tsh_5, tyk_11, tcq_11, tsh_650, tsh_653, tsh_530, tsh_560, tyk_9, tcq_9, tsh_662, tyk_3, tcq_3]
  refine tc_r (D := 1) (fun d' hd' => z_box (s := j) (by omega) hd') (by omega) ?_
  rintro y M7 ⟨rfl, rfl⟩
  try simp only [kb_X11_zeros_0, w_ald_0, w_ild_2, w_iv1, tfr_0, tfr_1, tfr_2, tfr_3, tfr_4, w_ild_1, w_ild_3, w_ic, w_iv2, w_gf_13_7, tw_t, w_iv0, w_gf_13_8, w_gf_13_3, w_ist4, tkl_n, tkl_i, tkl_l, tkl_r, w_nil, w64_r, true_and, and_true, Nat.reduceAdd, Nat.reduceSub, eq_self, tsh_0, tyk_13, tcq_13, tsh_77, tyk_8, tcq_8, tyk_4, tcq_4, tsh_499, tyk_27, tel_5, tyk_7, tcq_7, tsh_5, tyk_11, tcq_11, tsh_650, tsh_653, tsh_530, tsh_560, tyk_9, tcq_9, tsh_662, tyk_3, tcq_3, cj]
  obtain ⟨v, v1⟩ := kk6.2.1.2.1 j (by omega)
  refine tc_n (D := 2) (fun d' hd' => z_append P6 p6 (cl_sh (by omega)) v1 (by decide) kk6.2 kk6.1.1 hd') (by omega) ?_
  rintro M8 ⟨k8, p8, f8⟩
  have kk8 := KA_tr kk6.1.2 k8
  try simp only [kb_X11_zeros_0, w_ald_0, w_ild_2, w_iv1, tfr_0, tfr_1, tfr_2, tfr_3, tfr_4, w_ild_1, w_ild_3, w_ic, w_iv2, w_gf_13_7, tw_t, w_iv0, w_gf_13_8, w_gf_13_3, w_ist4, tkl_n, tkl_i, tkl_l, tkl_r, w_nil, w64_r, true_and, and_true, Nat.reduceAdd, Nat.reduceSub, eq_self, tsh_0, tyk_13, tcq_13, tsh_77, tyk_8, tcq_8, tyk_4, tcq_4, tsh_499, tyk_27, tel_5, tyk_7, tcq_7, tsh_5, tyk_11, tcq_11, tsh_650, tsh_653, tsh_530, tsh_560, tyk_9, tcq_9, tsh_662, tyk_3, tcq_3, cj]
  have pp8 : PCG M8 530 0 := PCG_u p56 (f8 _ _ (by decide)) (fun k i a b => f8 k i (by omega))
  have q8 := PCG_i (a := 0) p8
  -- the loop
  have ff : ∀ (k : Nat) (i : Int), (499 ≤ k ∧ k < 530) → M8 k i = M4 k i := fun k i g => (f8 k i (by omega)).trans ((f6 k i (by omega)).trans (f5 k i (by omega)))
  have nl : ∀ (fu : Nat) (N : tM) (p : Nat) (w5 w6 : Option tV), 16 - p = fu → p ≤ 16 → KA M4 N → (∃ a : Nat, PCG N 560 a) → (∃ b : Nat, PCG N 530 b) → (∀ (k : Nat) (i : Int), (499 ≤ k ∧ k < 530) → N k i = M4 k i) → tT e d 3400 64 [some (.inr (.inr (.inl (0)))), some (.inl (x1)), some (.inl ((j : Int))), some (.inl (x3)), some (.inl ((p : Int))), w5, w6] [] N n (tQx n (tQi n (fun z M' => (-2147483648 ≤ z ∧ z ≤ 2147483647) ∧ KA M4 M')) (fun _ M' => KA M4 M')) := by
    have n253 : ∀ (N : tM) (p : Nat) (w5 w6 : Option tV), KA M4 N → (∃ b : Nat, PCG N 530 b) → tT e d 3400 253 [some (.inr (.inr (.inl (0)))), some (.inl (x1)), some (.inl ((j : Int))), some (.inl (x3)), some (.inl ((p : Int))), w5, w6] [] N n (tQx n (tQi n (fun z M' => (-2147483648 ≤ z ∧ z ≤ 2147483647) ∧ KA M4 M')) (fun _ M' => KA M4 M')) := by
      rintro N p w5 w6 kN ⟨b, pb⟩
      have tb := pb.1
      refine tb_X11_zeros_253 (c := true) ?_
      simp only [kb_X11_zeros_253, w_ald_0, w_gf_13_7, tw_t, w_gf_9_3, w_ire, trg, w64_r, true_and, and_true, Nat.reduceAdd, Nat.reduceSub, eq_self, tsh_0, tyk_13, tcq_13, tsh_77, tyk_8, tcq_8, tyk_4, tcq_4, tsh_499, tyk_27, tel_5, tyk_7, tcq_7, tsh_5, tyk_11, tcq_11, tsh_650, tsh_653, tsh_530, tsh_560, tyk_9, tcq_9, tsh_662, tyk_3, tcq_3]
      exact Or.inl ⟨_, rfl, rfl, by omega, kN⟩
    intro fu
    induction fu with
    | zero =>
      rintro N p w5 w6 hf hp kN pa pb fN
      refine tb_X11_zeros_64 (c := true) ?_
      simp only [kb_X11_zeros_64, w_ild4, w_bi, w_ic_ge, w_ald_0, w_gf_13_8, tw_t, w_gf_9_3, w_if_le, w_gf_13_11, w_iv1, tfr_0, tfr_1, tfr_2, tfr_3, tfr_4, w_ist5, tkl_n, tkl_i, tkl_l, tkl_r, w_gf_13_5, w_ild_1, w_aa, w_iv2, w_ist6, w_ild6, w_ic_ne, w_ild5, w_ild_3, w_gf_13_12, w_gf_13_4, w_iv0, w_if_eq, w_gf_13_15, w_gf_4_0, w_gf_4_1, w_ic, w_iadd, w_goto, w64_r, true_and, and_true, Nat.reduceAdd, Nat.reduceSub, eq_self, tsh_0, tyk_13, tcq_13, tsh_77, tyk_8, tcq_8, tyk_4, tcq_4, tsh_499, tyk_27, tel_5, tyk_7, tcq_7, tsh_5, tyk_11, tcq_11, tsh_650, tsh_653, tsh_530, tsh_560, tyk_9, tcq_9, tsh_662, tyk_3, tcq_3]
      repeat refine And.intro (by omega) ?_
      refine ⟨fun _ => n253 N p w5 w6 kN pb, fun q => absurd (by omega) q⟩
    | succ fu ih =>
      rintro N p w5 w6 hf hp kN ⟨a, pa⟩ ⟨b, pb⟩ fN
      have n247 : ∀ (N2 : tM) (w5 w6 : Option tV), KA M4 N2 → (∃ a : Nat, PCG N2 560 a) → (∃ b : Nat, PCG N2 530 b) → (∀ (k : Nat) (i : Int), (499 ≤ k ∧ k < 530) → N2 k i = M4 k i) → tT e d 3400 247 [some (.inr (.inr (.inl (0)))), some (.inl (x1)), some (.inl ((j : Int))), some (.inl (x3)), some (.inl ((p : Int))), w5, w6] [] N2 n (tQx n (tQi n (fun z M' => (-2147483648 ≤ z ∧ z ≤ 2147483647) ∧ KA M4 M')) (fun _ M' => KA M4 M')) := by
        intro N2 w5 w6 k2 pa2 pb2 fN2
        refine tb_X11_zeros_247 (c := true) ?_
        simp only [kb_X11_zeros_247, w_inc4, tkl_n, tkl_i, tkl_l, tkl_r, w_goto, w64_r, true_and, and_true, Nat.reduceAdd, Nat.reduceSub, eq_self]
        repeat refine And.intro (by omega) ?_
        rw [show ((p : Nat) : Int) + 1 = ((p + 1 : Nat) : Int) by omega]
        exact ih N2 (p + 1) w5 w6 (by omega) (by omega) k2 pa2 pb2 fN2
      have ta := pa.1.1
      have ta8 := pa.1.2
      refine tb_X11_zeros_64 (c := true) ?_
      simp only [kb_X11_zeros_64, w_ild4, w_bi, w_ic_ge, w_ald_0, w_gf_13_8, tw_t, w_gf_9_3, w_if_le, w_gf_13_11, w_iv1, tfr_0, tfr_1, tfr_2, tfr_3, tfr_4, w_ist5, tkl_n, tkl_i, tkl_l, tkl_r, w_gf_13_5, w_ild_1, w_aa, w_iv2, w_ist6, w_ild6, w_ic_ne, w_ild5, w_ild_3, w_gf_13_12, w_gf_13_4, w_iv0, w_if_eq, w_gf_13_15, w_gf_4_0, w_gf_4_1, w_ic, w_iadd, w_goto, w64_r, true_and, and_true, Nat.reduceAdd, Nat.reduceSub, eq_self, tsh_0, tyk_13, tcq_13, tsh_77, tyk_8, tcq_8, tyk_4, tcq_4, tsh_499, tyk_27, tel_5, tyk_7, tcq_7, tsh_5, tyk_11, tcq_11, tsh_650, tsh_653, tsh_530, tsh_560, tyk_9, tcq_9, tsh_662, tyk_3, tcq_3]
      rw [ta]
      repeat refine And.intro (by omega) ?_
      first | refine ⟨fun q => absurd q (by omega), fun _ => ?_⟩ | refine fun _ => ?_
      repeat refine And.intro (by omega) ?_
      refine ⟨fun _ => n253 N p w5 w6 kN ⟨b, pb⟩, fun g => ?_⟩
      obtain ⟨a', rfl⟩ : ∃ k : Nat, a = k + 1 := ⟨a - 1, by omega⟩
      refine tc_i (D := 2) (fun d' hd' => z_takeLast P6 pa cl_650 (by decide) kN.2 kN.1.1 hd') (by omega) ?_
      rintro dp N2 ⟨hdp, k2, pa2, gX, f2⟩
      have kk2 := KA_tr kN.1.2 k2
      have pb2 : PCG N2 530 b := PCG_u pb (f2 _ _ (by decide) (by decide) (by decide)) (fun k i a b => f2 k i (by omega) (by omega) (by omega))
      have fN2 : ∀ (k : Nat) (i : Int), (499 ≤ k ∧ k < 530) → N2 k i = M4 k i := fun k i g => (f2 k i (by omega) (by omega) (by omega)).trans (fN k i g)
      have hfN := fm_cl kk2.1.1 a1
      have sfN := hfN.1
      have hfm := FM_cl hfN
      have hfr := hfm
      unfold FMC at hfr
      have h6N : N2 (N2 499 x1).toNat 6 = 1 := by
        rw [fN2 499 x1 (by omega)] at hfr ⊢
        exact (fN2 _ 6 (by omega)).trans b1
      obtain ⟨X, hX⟩ := gX
      try simp only [kb_X11_zeros_64, w_ild4, w_bi, w_ic_ge, w_ald_0, w_gf_13_8, tw_t, w_gf_9_3, w_if_le, w_gf_13_11, w_iv1, tfr_0, tfr_1, tfr_2, tfr_3, tfr_4, w_ist5, tkl_n, tkl_i, tkl_l, tkl_r, w_gf_13_5, w_ild_1, w_aa, w_iv2, w_ist6, w_ild6, w_ic_ne, w_ild5, w_ild_3, w_gf_13_12, w_gf_13_4, w_iv0, w_if_eq, w_gf_13_15, w_gf_4_0, w_gf_4_1, w_ic, w_iadd, w_goto, w64_r, true_and, and_true, Nat.reduceAdd, Nat.reduceSub, eq_self, tsh_0, tyk_13, tcq_13, tsh_77, tyk_8, tcq_8, tyk_4, tcq_4, tsh_499, tyk_27, tel_5, tyk_7, tcq_7, tsh_5, tyk_11, tcq_11, tsh_650, tsh_653, tsh_530, tsh_560, tyk_9, tcq_9, tsh_662, tyk_3, tcq_3, sfN]
      repeat refine And.intro (by omega) ?_
      refine tc_i (D := 9) (fun d' hd' => v_judge hfm h6N hX he hl kk2.2 kk2.1.1 hd') (by omega) ?_
      rintro z3 N3 ⟨hz3, k3, j3⟩
      have kk3 := KA_tr kk2.1.2 k3
      have pa3 : PCG N3 560 a' := PCG_u pa2 (j3 _ _ (by decide)) (fun k i a b => j3 k i (by omega))
      have pb3 : PCG N3 530 b := PCG_u pb2 (j3 _ _ (by decide)) (fun k i a b => j3 k i (by omega))
      have fN3 : ∀ (k : Nat) (i : Int), (499 ≤ k ∧ k < 530) → N3 k i = M4 k i := fun k i g => (j3 k i (by omega)).trans (fN2 k i g)
      have X3 : BX N3 650 X.1 X.2 := BX_f hX.1 (fun q => j3 _ _ (by decide)) (fun q => j3 _ _ (by decide))
      have n227 : ∀ (N4 : tM), KA M4 N4 → PCG N4 560 a' → PCG N4 530 b → BX N4 650 X.1 X.2 → (∀ (k : Nat) (i : Int), (499 ≤ k ∧ k < 530) → N4 k i = M4 k i) → tT e d 3400 227 [some (.inr (.inr (.inl (0)))), some (.inl (x1)), some (.inl ((j : Int))), some (.inl (x3)), some (.inl ((p : Int))), some (.inl (dp)), some (.inl (z3))] [] N4 n (tQx n (tQi n (fun z M' => (-2147483648 ≤ z ∧ z ≤ 2147483647) ∧ KA M4 M')) (fun _ M' => KA M4 M')) := by
        intro N4 k4 pa4 pb4 X4 fN4
        refine tb_X11_zeros_227 (c := true) ?_
        simp only [kb_X11_zeros_227, w_ild6, w_bi, w_ic_eq, w_ald_0, w_gf_13_7, tw_t, w_gf_13_11, w_iv2, tfr_0, tfr_1, tfr_2, tfr_3, tfr_4, w_nil, w64_r, true_and, and_true, Nat.reduceAdd, Nat.reduceSub, eq_self, tsh_0, tyk_13, tcq_13, tsh_77, tyk_8, tcq_8, tyk_4, tcq_4, tsh_499, tyk_27, tel_5, tyk_7, tcq_7, tsh_5, tyk_11, tcq_11, tsh_650, tsh_653, tsh_530, tsh_560, tyk_9, tcq_9, tsh_662, tyk_3, tcq_3]
        repeat refine And.intro (by omega) ?_
        refine ⟨fun _ => n247 N4 _ _ k4 ⟨_, pa4⟩ ⟨_, pb4⟩ fN4, fun _ => ?_⟩
        refine tc_n (D := 2) (fun d' hd' => z_append P5 pb4 cl_650 ⟨X4, hX.2⟩ (by omega) k4.2 k4.1.1 hd') (by omega) ?_
        rintro N5 ⟨k5, p5, f5⟩
        try simp only [kb_X11_zeros_227, w_ild6, w_bi, w_ic_eq, w_ald_0, w_gf_13_7, tw_t, w_gf_13_11, w_iv2, tfr_0, tfr_1, tfr_2, tfr_3, tfr_4, w_nil, w64_r, true_and, and_true, Nat.reduceAdd, Nat.reduceSub, eq_self, tsh_0, tyk_13, tcq_13, tsh_77, tyk_8, tcq_8, tyk_4, tcq_4, tsh_499, tyk_27, tel_5, tyk_7, tcq_7, tsh_5, tyk_11, tcq_11, tsh_650, tsh_653, tsh_530, tsh_560, tyk_9, tcq_9, tsh_662, tyk_3, tcq_3]
        exact n247 N5 _ _ (KA_tr k4.1.2 k5) ⟨_, PCG_u pa4 (f5 _ _ (by decide)) (fun k i a b => f5 k i (by omega))⟩ (PCG_i (a := 0) p5) (fun k i g => (f5 k i (by omega)).trans (fN4 k i g))
      try simp only [kb_X11_zeros_64, w_ild4, w_bi, w_ic_ge, w_ald_0, w_gf_13_8, tw_t, w_gf_9_3, w_if_le, w_gf_13_11, w_iv1, tfr_0, tfr_1, tfr_2, tfr_3, tfr_4, w_ist5, tkl_n, tkl_i, tkl_l, tkl_r, w_gf_13_5, w_ild_1, w_aa, w_iv2, w_ist6, w_ild6, w_ic_ne, w_ild5, w_ild_3, w_gf_13_12, w_gf_13_4, w_iv0, w_if_eq, w_gf_13_15, w_gf_4_0, w_gf_4_1, w_ic, w_iadd, w_goto, w64_r, true_and, and_true, Nat.reduceAdd, Nat.reduceSub, eq_self, tsh_0, tyk_13, tcq_13, tsh_77, tyk_8, tcq_8, tyk_4, tcq_4, tsh_499, tyk_27, tel_5, tyk_7, tcq_7, tsh_5, tyk_11, tcq_11, tsh_650, tsh_653, tsh_530, tsh_560, tyk_9, tcq_9, tsh_662, tyk_3, tcq_3, sfN]
      repeat refine And.intro (by omega) ?_
      refine ⟨fun _ => n227 N3 kk3 pa3 pb3 X3 fN3, fun _ => ?_⟩
      repeat refine And.intro (by omega) ?_
      refine ⟨fun _ => n227 N3 kk3 pa3 pb3 X3 fN3, fun g3 => ?_⟩
      refine tc_l (D := 0) (fun d' hd' => z_unit) (by omega) ?_
      rintro u N4 ⟨rfl, rfl⟩
      have hu := KU kk3.2 kk3.1.1
      have hu1 := hu.1
      have md := md_in hu hX.2
      try simp only [kb_X11_zeros_64, w_ild4, w_bi, w_ic_ge, w_ald_0, w_gf_13_8, tw_t, w_gf_9_3, w_if_le, w_gf_13_11, w_iv1, tfr_0, tfr_1, tfr_2, tfr_3, tfr_4, w_ist5, tkl_n, tkl_i, tkl_l, tkl_r, w_gf_13_5, w_ild_1, w_aa, w_iv2, w_ist6, w_ild6, w_ic_ne, w_ild5, w_ild_3, w_gf_13_12, w_gf_13_4, w_iv0, w_if_eq, w_gf_13_15, w_gf_4_0, w_gf_4_1, w_ic, w_iadd, w_goto, w64_r, true_and, and_true, Nat.reduceAdd, Nat.reduceSub, eq_self, tsh_0, tyk_13, tcq_13, tsh_77, tyk_8, tcq_8, tyk_4, tcq_4, tsh_499, tyk_27, tel_5, tyk_7, tcq_7, tsh_5, tyk_11, tcq_11, tsh_650, tsh_653, tsh_530, tsh_560, tyk_9, tcq_9, tsh_662, tyk_3, tcq_3, sfN]
      repeat refine And.intro (by omega) ?_
      refine tc_i (D := 2) (fun d' hd' => z_toMiddle (b := 0) cl_653 cl_650 (by decide) X3 hX.2.1 hu (by decide) kk3.1.1 hd') (by omega) ?_
      rintro z5 N5 ⟨x5, f5, hz5⟩
      have hz5' : 0 ≤ z5 ∧ z5 ≤ 1 := by rcases hz5 with ⟨h, _⟩ | ⟨h, _⟩ <;> rw [h] <;> decide
      clear hz5
      generalize hmm : mdv (N4 78 5) X.1 X.2 = mm at *
      have kk5 := KA_tr kk3.1.2 (KA_b kk3.2 (by decide) f5)
      have pa5 : PCG N5 560 a' := PCG_u pa3 (f5.2 _ _ (by decide) (by decide)) (fun k i a b => f5.2 k i (by omega) (by omega))
      have pb5 : PCG N5 530 b := PCG_u pb3 (f5.2 _ _ (by decide) (by decide)) (fun k i a b => f5.2 k i (by omega) (by omega))
      have X5 : BX N5 650 X.1 X.2 := BX_f X3 (fun q => f5.2 _ _ (by decide) (by decide)) (fun q => f5.2 _ _ (by decide) (by decide))
      have fN5 : ∀ (k : Nat) (i : Int), (499 ≤ k ∧ k < 530) → N5 k i = M4 k i := fun k i g => (f5.2 k i (by omega) (by omega)).trans (fN3 k i g)
      try simp only [kb_X11_zeros_64, w_ild4, w_bi, w_ic_ge, w_ald_0, w_gf_13_8, tw_t, w_gf_9_3, w_if_le, w_gf_13_11, w_iv1, tfr_0, tfr_1, tfr_2, tfr_3, tfr_4, w_ist5, tkl_n, tkl_i, tkl_l, tkl_r, w_gf_13_5, w_ild_1, w_aa, w_iv2, w_ist6, w_ild6, w_ic_ne, w_ild5, w_ild_3, w_gf_13_12, w_gf_13_4, w_iv0, w_if_eq, w_gf_13_15, w_gf_4_0, w_gf_4_1, w_ic, w_iadd, w_goto, w64_r, true_and, and_true, Nat.reduceAdd, Nat.reduceSub, eq_self, tsh_0, tyk_13, tcq_13, tsh_77, tyk_8, tcq_8, tyk_4, tcq_4, tsh_499, tyk_27, tel_5, tyk_7, tcq_7, tsh_5, tyk_11, tcq_11, tsh_650, tsh_653, tsh_530, tsh_560, tyk_9, tcq_9, tsh_662, tyk_3, tcq_3, sfN]
      repeat refine And.intro (by omega) ?_
      refine ⟨fun _ => n227 N5 kk5 pa5 pb5 X5 fN5, fun _ => ?_⟩
      refine tc_n (D := 0) (fun d' hd' => y_copy (b := 0) cl_662 (bxl_1 cl_653) x5.1 (Or.inl (by decide)) kk5.1.1) (by omega) ?_
      rintro N6 ⟨x6, f6⟩
      have kk6 := KA_tr kk5.1.2 (KA_s kk5.2 f6)
      have pa6 : PCG N6 560 a' := PCG_u pa5 (f6.2.2 _ _ (by decide)) (fun k i a b => f6.2.2 k i (by omega))
      have pb6 : PCG N6 530 b := PCG_u pb5 (f6.2.2 _ _ (by decide)) (fun k i a b => f6.2.2 k i (by omega))
      have X6 : BX N6 650 X.1 X.2 := BX_f X5 (fun q => f6.2.2 _ _ (by decide)) (fun q => f6.2.2 _ _ (by decide))
      have fN6 : ∀ (k : Nat) (i : Int), (499 ≤ k ∧ k < 530) → N6 k i = M4 k i := fun k i g => (f6.2.2 k i (by omega)).trans (fN5 k i g)
      try simp only [kb_X11_zeros_64, w_ild4, w_bi, w_ic_ge, w_ald_0, w_gf_13_8, tw_t, w_gf_9_3, w_if_le, w_gf_13_11, w_iv1, tfr_0, tfr_1, tfr_2, tfr_3, tfr_4, w_ist5, tkl_n, tkl_i, tkl_l, tkl_r, w_gf_13_5, w_ild_1, w_aa, w_iv2, w_ist6, w_ild6, w_ic_ne, w_ild5, w_ild_3, w_gf_13_12, w_gf_13_4, w_iv0, w_if_eq, w_gf_13_15, w_gf_4_0, w_gf_4_1, w_ic, w_iadd, w_goto, w64_r, true_and, and_true, Nat.reduceAdd, Nat.reduceSub, eq_self, tsh_0, tyk_13, tcq_13, tsh_77, tyk_8, tcq_8, tyk_4, tcq_4, tsh_499, tyk_27, tel_5, tyk_7, tcq_7, tsh_5, tyk_11, tcq_11, tsh_650, tsh_653, tsh_530, tsh_560, tyk_9, tcq_9, tsh_662, tyk_3, tcq_3, sfN]
      refine tc_n (D := 1) (fun d' hd' => z_between (b := 0) cl_653 cl_662 (bxl_2 cl_650) x6 X6.2 (by decide) (by decide) kk6.1.1 hd') (by omega) ?_
      rintro N7 ⟨x7, f7⟩
      have kk7 := KA_tr kk6.1.2 (KA_b kk6.2 (by decide) f7)
      have pa7 : PCG N7 560 a' := PCG_u pa6 (f7.2 _ _ (by decide) (by decide)) (fun k i a b => f7.2 k i (by omega) (by omega))
      have pb7 : PCG N7 530 b := PCG_u pb6 (f7.2 _ _ (by decide) (by decide)) (fun k i a b => f7.2 k i (by omega) (by omega))
      have X7 : BX N7 650 X.1 X.2 := BX_f X6 (fun q => f7.2 _ _ (by decide) (by decide)) (fun q => f7.2 _ _ (by decide) (by decide))
      have s7 : BB N7 662 mm := BB_u x6 (fun q => f7.2 _ _ (by decide) (by decide))
      have fN7 : ∀ (k : Nat) (i : Int), (499 ≤ k ∧ k < 530) → N7 k i = M4 k i := fun k i g => (f7.2 k i (by omega) (by omega)).trans (fN6 k i g)
      try simp only [kb_X11_zeros_64, w_ild4, w_bi, w_ic_ge, w_ald_0, w_gf_13_8, tw_t, w_gf_9_3, w_if_le, w_gf_13_11, w_iv1, tfr_0, tfr_1, tfr_2, tfr_3, tfr_4, w_ist5, tkl_n, tkl_i, tkl_l, tkl_r, w_gf_13_5, w_ild_1, w_aa, w_iv2, w_ist6, w_ild6, w_ic_ne, w_ild5, w_ild_3, w_gf_13_12, w_gf_13_4, w_iv0, w_if_eq, w_gf_13_15, w_gf_4_0, w_gf_4_1, w_ic, w_iadd, w_goto, w64_r, true_and, and_true, Nat.reduceAdd, Nat.reduceSub, eq_self, tsh_0, tyk_13, tcq_13, tsh_77, tyk_8, tcq_8, tyk_4, tcq_4, tsh_499, tyk_27, tel_5, tyk_7, tcq_7, tsh_5, tyk_11, tcq_11, tsh_650, tsh_653, tsh_530, tsh_560, tyk_9, tcq_9, tsh_662, tyk_3, tcq_3, sfN]
      repeat refine And.intro (by omega) ?_
      refine tc_n (D := 2) (fun d' hd' => z_append (v := (mm, X.2)) P6 pa7 cl_653 ⟨x7, ⟨⟨md.2.1.1, hX.2.1.2⟩, md.1.2⟩⟩ (by omega) kk7.2 kk7.1.1 hd') (by omega) ?_
      rintro N8 ⟨k8, p8, f8⟩
      have kk8 := KA_tr kk7.1.2 k8
      obtain ⟨a8, pa8⟩ := PCG_i (a := 0) p8
      have pb8 : PCG N8 530 b := PCG_u pb7 (f8 _ _ (by decide)) (fun k i a b => f8 k i (by omega))
      have X8 : BX N8 650 X.1 X.2 := BX_f X7 (fun q => f8 _ _ (by decide)) (fun q => f8 _ _ (by decide))
      have s8 : BB N8 662 mm := BB_u s7 (fun q => f8 _ _ (by decide))
      have fN8 : ∀ (k : Nat) (i : Int), (499 ≤ k ∧ k < 530) → N8 k i = M4 k i := fun k i g => (f8 k i (by omega)).trans (fN7 k i g)
      try simp only [kb_X11_zeros_64, w_ild4, w_bi, w_ic_ge, w_ald_0, w_gf_13_8, tw_t, w_gf_9_3, w_if_le, w_gf_13_11, w_iv1, tfr_0, tfr_1, tfr_2, tfr_3, tfr_4, w_ist5, tkl_n, tkl_i, tkl_l, tkl_r, w_gf_13_5, w_ild_1, w_aa, w_iv2, w_ist6, w_ild6, w_ic_ne, w_ild5, w_ild_3, w_gf_13_12, w_gf_13_4, w_iv0, w_if_eq, w_gf_13_15, w_gf_4_0, w_gf_4_1, w_ic, w_iadd, w_goto, w64_r, true_and, and_true, Nat.reduceAdd, Nat.reduceSub, eq_self, tsh_0, tyk_13, tcq_13, tsh_77, tyk_8, tcq_8, tyk_4, tcq_4, tsh_499, tyk_27, tel_5, tyk_7, tcq_7, tsh_5, tyk_11, tcq_11, tsh_650, tsh_653, tsh_530, tsh_560, tyk_9, tcq_9, tsh_662, tyk_3, tcq_3, sfN]
      refine tc_n (D := 1) (fun d' hd' => z_between (b := 0) cl_653 (bxl_1 cl_650) cl_662 X8.1 s8 (by decide) (by decide) kk8.1.1 hd') (by omega) ?_
      rintro N9 ⟨x9, f9⟩
      have kk9 := KA_tr kk8.1.2 (KA_b kk8.2 (by decide) f9)
      have pa9 : PCG N9 560 a8 := PCG_u pa8 (f9.2 _ _ (by decide) (by decide)) (fun k i a b => f9.2 k i (by omega) (by omega))
      have pb9 : PCG N9 530 b := PCG_u pb8 (f9.2 _ _ (by decide) (by decide)) (fun k i a b => f9.2 k i (by omega) (by omega))
      have fN9 : ∀ (k : Nat) (i : Int), (499 ≤ k ∧ k < 530) → N9 k i = M4 k i := fun k i g => (f9.2 k i (by omega) (by omega)).trans (fN8 k i g)
      try simp only [kb_X11_zeros_64, w_ild4, w_bi, w_ic_ge, w_ald_0, w_gf_13_8, tw_t, w_gf_9_3, w_if_le, w_gf_13_11, w_iv1, tfr_0, tfr_1, tfr_2, tfr_3, tfr_4, w_ist5, tkl_n, tkl_i, tkl_l, tkl_r, w_gf_13_5, w_ild_1, w_aa, w_iv2, w_ist6, w_ild6, w_ic_ne, w_ild5, w_ild_3, w_gf_13_12, w_gf_13_4, w_iv0, w_if_eq, w_gf_13_15, w_gf_4_0, w_gf_4_1, w_ic, w_iadd, w_goto, w64_r, true_and, and_true, Nat.reduceAdd, Nat.reduceSub, eq_self, tsh_0, tyk_13, tcq_13, tsh_77, tyk_8, tcq_8, tyk_4, tcq_4, tsh_499, tyk_27, tel_5, tyk_7, tcq_7, tsh_5, tyk_11, tcq_11, tsh_650, tsh_653, tsh_530, tsh_560, tyk_9, tcq_9, tsh_662, tyk_3, tcq_3, sfN]
      repeat refine And.intro (by omega) ?_
      refine tc_n (D := 2) (fun d' hd' => z_append (v := (X.1, mm)) P6 pa9 cl_653 ⟨x9, ⟨⟨hX.2.1.1, md.2.1.1⟩, md.1.1⟩⟩ (by omega) kk9.2 kk9.1.1 hd') (by omega) ?_
      rintro N10 ⟨k10, p10, f10⟩
      try simp only [kb_X11_zeros_64, w_ild4, w_bi, w_ic_ge, w_ald_0, w_gf_13_8, tw_t, w_gf_9_3, w_if_le, w_gf_13_11, w_iv1, tfr_0, tfr_1, tfr_2, tfr_3, tfr_4, w_ist5, tkl_n, tkl_i, tkl_l, tkl_r, w_gf_13_5, w_ild_1, w_aa, w_iv2, w_ist6, w_ild6, w_ic_ne, w_ild5, w_ild_3, w_gf_13_12, w_gf_13_4, w_iv0, w_if_eq, w_gf_13_15, w_gf_4_0, w_gf_4_1, w_ic, w_iadd, w_goto, w64_r, true_and, and_true, Nat.reduceAdd, Nat.reduceSub, eq_self, tsh_0, tyk_13, tcq_13, tsh_77, tyk_8, tcq_8, tyk_4, tcq_4, tsh_499, tyk_27, tel_5, tyk_7, tcq_7, tsh_5, tyk_11, tcq_11, tsh_650, tsh_653, tsh_530, tsh_560, tyk_9, tcq_9, tsh_662, tyk_3, tcq_3, sfN]
      exact n247 N10 _ _ (KA_tr kk9.1.2 k10) (PCG_i (a := 0) p10) ⟨_, PCG_u pb9 (f10 _ _ (by decide)) (fun k i a b => f10 k i (by omega))⟩ (fun k i g => (f10 k i (by omega)).trans (fN9 k i g))
  exact nl 16 M8 0 _ _ rfl (by decide) kk8 q8 ⟨_, pp8⟩ ff
end HAND
