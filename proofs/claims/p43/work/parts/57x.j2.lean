/-! THE CLASS BY VALUES: isSound answers true. -/
theorem md_in {u : Int} {X : Int × Int} (hu : UU u) (hX : GBX X) : (X.1 ≤ mdv u X.1 X.2 ∧ mdv u X.1 X.2 ≤ X.2) ∧ GBX (mdv u X.1 X.2, mdv u X.1 X.2) := by
  obtain ⟨⟨n1, n2⟩, o⟩ := hX
  have hu1 := hu.1
  have g := dnv_r (u := u) (v := (X.1 + X.2) / 2) (by omega)
  have h : X.1 ≤ mdv u X.1 X.2 ∧ mdv u X.1 X.2 ≤ X.2 := by
    unfold mdv
    split <;> omega
  refine ⟨h, ⟨?_, ?_⟩, Int.le_refl _⟩
  · unfold NF at n1 n2 ⊢
    omega
  · unfold NF at n1 n2 ⊢
    omega
section HAND
variable {e : tE} {b d n : Nat} {M : tM}
theorem e_isValue {r c x : Nat} {X : Int × Int} (hr : FMC r) (hw : WFF M r c) (hx : cl x 4) (hx2 : x + 2 < 77) (hX : BX M x X.1 X.2 ∧ GBX X) (hU : UN M) (he : EVr e) (hro : RO M) (hC : CI M) (hd : 9 ≤ d) : tC e d 3364 [.inr (.inr (.inl 0)), .inr (.inr (.inl r)), .inr (.inr (.inl x))] M n (tQi n (fun z M' => z = 1 ∧ RO M' ∧ SFF M M' ∧ M' 78 5 = M 78 5)) := by
  have hz0 := z00 hC
  have hu0 : UU (M 78 5) := by rw [hU]; exact un_UU hz0
  have sx := hx.1
  have sr := (FM_of hr).1
  have hr2 : 499 < r ∧ r + 5 < 530 := by unfold FMC at hr; omega
  -- what holds of a memory with the same formula and box
  have wf : ∀ M1 : tM, SFF M M1 → WFF M1 r c := fun M1 f => by
    have q : ∀ (k : Nat) (i : Int), r ≤ k ∧ k ≤ r + 5 → M1 k i = M k i := fun k i g => f.2 k i (by omega) (by omega) (by omega) (by omega) (by omega)
    have q1 : (fun k : Nat => M1 (r + 1) (k : Int)) = fun k : Nat => M (r + 1) (k : Int) := funext fun k => q _ _ (by omega)
    unfold WFF
    rw [q1, q r 4 (by omega)]
    refine ⟨hw.1, fun k hk => ?_, hw.2.2⟩
    rw [q (r + 1) _ (by omega), q (r + 2) _ (by omega), q (r + 3) _ (by omega)]
    exact hw.2.1 k hk
  have ev : ∀ (M1 : tM) (u : Int) (Y Z : Int × Int) (k m : Nat) (B : Nat → Int × Int), SFF M M1 → EVS u Y Z M1 r k m B → EVS u Y Z M r k m B := fun M1 u Y Z k m B f h => EVS_u (fun k i g => f.2 k i (by omega) (by omega) (by omega) (by omega) (by omega)) k m B h
  have xb : ∀ M1 : tM, SFF M M1 → BX M1 x X.1 X.2 := fun M1 f => BX_f hX.1 (fun j => f.2 _ _ (by omega) (by omega) (by omega) (by omega) (by omega)) (fun j => f.2 _ _ (by omega) (by omega) (by omega) (by omega) (by omega))
  refine tst_X11_isValueSound ?_
  -- the middle
  have n105 : ∀ (M1 : tM) (w4 : Option tV) (B0 : Nat → Int × Int), SFF M M1 → RO M1 → M1 78 5 = M 78 5 → EVS (M 78 5) X X M r c 1 B0 → BX M1 650 (B0 0).1 (B0 0).2 → tT e d 3364 105 [some (.inr (.inr (.inl (0)))), some (.inr (.inr (.inl (r)))), some (.inr (.inr (.inl (x)))), some (.inl (1)), w4] [] M1 n (tQi n (fun z M' => z = 1 ∧ RO M' ∧ SFF M M' ∧ M' 78 5 = M 78 5)) := by
    intro M1 w4 B0 f1 ro1 u1 e0 b650
    have g0 := EVS_g e0 0 (by decide)
    have md := md_in hu0 hX.2
    refine tb_X11_isValueSound_105 (c := false) ?_
    simp only [kb_X11_isValueSound_105, w_ald_0, w_gf_13_12, tw_f, w_ald_2, w_gf_13_4, w_iv0, tfr_0, tfr_1, tfr_2, tfr_3, tfr_4, w_iv2, w_popi, w_popr, w_ald_1, w_iv1, w_if_ne, w_gf_13_11, w_if_eq, w_nil, true_and, and_true, Nat.reduceAdd, Nat.reduceSub, eq_self, tsh_0, tyk_13, tcq_13, tsh_77, tyk_8, tcq_8, tsh_650, tsh_653, tyk_4, tcq_4, tsh_113, tsh_78, tyk_2, tcq_2, sx, sr]
    refine tc_l (D := 0) (fun d' hd' => z_unit) (by omega) ?_
    rintro u M2 ⟨rfl, rfl⟩
    try simp only [kb_X11_isValueSound_105, w_ald_0, w_gf_13_12, tw_f, w_ald_2, w_gf_13_4, w_iv0, tfr_0, tfr_1, tfr_2, tfr_3, tfr_4, w_iv2, w_popi, w_popr, w_ald_1, w_iv1, w_if_ne, w_gf_13_11, w_if_eq, w_nil, true_and, and_true, Nat.reduceAdd, Nat.reduceSub, eq_self, tsh_0, tyk_13, tcq_13, tsh_77, tyk_8, tcq_8, tsh_650, tsh_653, tyk_4, tcq_4, tsh_113, tsh_78, tyk_2, tcq_2, sx, sr]
    rw [u1]
    refine tc_i (D := 2) (fun d' hd' => z_toMiddle (b := 0) cl_653 hx (by omega) (xb M2 f1) hX.2.1 hu0 (by decide) f1.1 hd') (by omega) ?_
    rintro z M3 ⟨p1, p2, _⟩
    try simp only [kb_X11_isValueSound_105, w_ald_0, w_gf_13_12, tw_f, w_ald_2, w_gf_13_4, w_iv0, tfr_0, tfr_1, tfr_2, tfr_3, tfr_4, w_iv2, w_popi, w_popr, w_ald_1, w_iv1, w_if_ne, w_gf_13_11, w_if_eq, w_nil, true_and, and_true, Nat.reduceAdd, Nat.reduceSub, eq_self, tsh_0, tyk_13, tcq_13, tsh_77, tyk_8, tcq_8, tsh_650, tsh_653, tyk_4, tcq_4, tsh_113, tsh_78, tyk_2, tcq_2, sx, sr]
    generalize hm : mdv (M 78 5) X.1 X.2 = m at p1 md
    refine tc_n (D := 0) (fun d' hd' => z_aim (b := 0) cl_653 cl_653 (by decide) p2.1.1) (by omega) ?_
    rintro M4 ⟨⟨a1, a2, a3⟩, a4, a5⟩
    try simp only [kb_X11_isValueSound_105, w_ald_0, w_gf_13_12, tw_f, w_ald_2, w_gf_13_4, w_iv0, tfr_0, tfr_1, tfr_2, tfr_3, tfr_4, w_iv2, w_popi, w_popr, w_ald_1, w_iv1, w_if_ne, w_gf_13_11, w_if_eq, w_nil, true_and, and_true, Nat.reduceAdd, Nat.reduceSub, eq_self, tsh_0, tyk_13, tcq_13, tsh_77, tyk_8, tcq_8, tsh_650, tsh_653, tyk_4, tcq_4, tsh_113, tsh_78, tyk_2, tcq_2, sx, sr]
    have f3 : SFF M M3 := SFF_tr f1 (SFF_2 p2)
    have f4 : SFF M M4 := SFF_tr f3 ⟨a4.1, fun k i q _ _ _ _ => a5 k i (by omega)⟩
    have u4 : M4 78 5 = M 78 5 := (a5 78 5 (by decide)).trans ((p2.2 78 5 (by decide) (by decide)).trans u1)
    have ro4 : RO M4 := RO_u (RO_b ro1 p2 (by decide)) (a5 79 4 (by decide)) (a5 79 5 (by decide))
    have b653 : BX M4 653 m m := BX_f p1 (fun j => a5 _ _ (by decide)) (fun j => a5 _ _ (by decide))
    have b650' : BX M4 650 (B0 0).1 (B0 0).2 := BX_f b650 (fun j => (a5 _ _ (by decide)).trans (p2.2 _ _ (by decide) (by decide))) (fun j => (a5 _ _ (by decide)).trans (p2.2 _ _ (by decide) (by decide)))
    refine tc_i (D := 8) (fun d' hd' => z_makeValue (b := 0) (xr := 653) (yr := 653) (X := (m, m)) (Y := (m, m)) hr (wf M4 f4) ⟨a1, cl_653, by decide⟩ ⟨a2, cl_653, by decide⟩ ⟨b653, md.2⟩ ⟨b653, md.2⟩ (by rw [u4]; exact hu0) he ro4 (by decide) f4.1 hd') (by omega) ?_
    rintro z5 M5 ⟨v0, v1, v2, v3⟩
    try simp only [kb_X11_isValueSound_105, w_ald_0, w_gf_13_12, tw_f, w_ald_2, w_gf_13_4, w_iv0, tfr_0, tfr_1, tfr_2, tfr_3, tfr_4, w_iv2, w_popi, w_popr, w_ald_1, w_iv1, w_if_ne, w_gf_13_11, w_if_eq, w_nil, true_and, and_true, Nat.reduceAdd, Nat.reduceSub, eq_self, tsh_0, tyk_13, tcq_13, tsh_77, tyk_8, tcq_8, tsh_650, tsh_653, tyk_4, tcq_4, tsh_113, tsh_78, tyk_2, tcq_2, sx, sr]
    have f5 : SFF M M5 := SFF_tr f4 (SFF_m v3)
    have u5 : M5 78 5 = M 78 5 := (UN_78 v3.1.2).trans u4
    have n164 : tT e d 3364 164 [some (.inr (.inr (.inl (0)))), some (.inr (.inr (.inl (r)))), some (.inr (.inr (.inl (x)))), some (.inl (1)), w4] [] M5 n (tQi n (fun z M' => z = 1 ∧ RO M' ∧ SFF M M' ∧ M' 78 5 = M 78 5)) := by
      refine tb_X11_isValueSound_164 (c := false) ?_
      simp only [kb_X11_isValueSound_164, w_ic, w_goto, true_and, and_true, Nat.reduceAdd, Nat.reduceSub, eq_self]
      refine tb_X11_isValueSound_169 (c := false) ?_
      simp only [kb_X11_isValueSound_169, w_ist4, tkl_n, tkl_i, tkl_l, tkl_r, w_ild_3, w_if_eq, w_ild4, w_ic, w_goto, true_and, and_true, Nat.reduceAdd, Nat.reduceSub, eq_self]
      repeat refine And.intro (by omega) ?_
      first | refine ⟨fun q => absurd q (by omega), fun _ => ?_⟩ | refine fun _ => ?_
      repeat refine And.intro (by omega) ?_
      first | refine ⟨fun q => absurd q (by omega), fun _ => ?_⟩ | refine fun _ => ?_
      refine tb_X11_isValueSound_185 (c := false) ?_
      simp only [kb_X11_isValueSound_185, w_ire, trg, true_and, and_true, Nat.reduceAdd, Nat.reduceSub, eq_self]
      exact ⟨by decide, _, rfl, rfl, rfl, v2, f5, u5⟩
    repeat refine And.intro (by omega) ?_
    refine ⟨fun g => n164, fun g => ?_⟩
    obtain ⟨B1, e1, s1⟩ := v1 (by omega)
    rw [u4] at e1
    have e1' := ev M4 _ _ _ _ _ _ f4 e1
    have inc := (EVS_iso (X0 := X) (Y0 := X) (X := (m, m)) (Y := (m, m)) hu0 hu0 (Int.dvd_refl _) ⟨md.1.1, md.1.2⟩ ⟨md.1.1, md.1.2⟩ c 1 1 B0 B1 e0 e1').2 0 (by decide)
    refine tc_r (D := 1) (fun d' hd' => z_result s1.1 hd') (by omega) ?_
    rintro y M6 ⟨rfl, rfl⟩
    try simp only [kb_X11_isValueSound_105, w_ald_0, w_gf_13_12, tw_f, w_ald_2, w_gf_13_4, w_iv0, tfr_0, tfr_1, tfr_2, tfr_3, tfr_4, w_iv2, w_popi, w_popr, w_ald_1, w_iv1, w_if_ne, w_gf_13_11, w_if_eq, w_nil, true_and, and_true, Nat.reduceAdd, Nat.reduceSub, eq_self, tsh_0, tyk_13, tcq_13, tsh_77, tyk_8, tcq_8, tsh_650, tsh_653, tyk_4, tcq_4, tsh_113, tsh_78, tyk_2, tcq_2, sx, sr]
    have s0 := s1.2 0 (by decide)
    refine tc_i (D := 1) (fun d' hd' => z_liesIn (cl_cs (i := 0) (by decide)) cl_650 s0.1 (BX_f b650' (fun j => v3.2.2 _ _ (by decide)) (fun j => v3.2.2 _ _ (by decide))) ⟨NF_r s0.2.1.1, NF_r s0.2.1.2⟩ ⟨NF_r g0.1.1, NF_r g0.1.2⟩ hd') (by omega) ?_
    rintro w M7 ⟨hw7, rfl⟩
    try simp only [kb_X11_isValueSound_105, w_ald_0, w_gf_13_12, tw_f, w_ald_2, w_gf_13_4, w_iv0, tfr_0, tfr_1, tfr_2, tfr_3, tfr_4, w_iv2, w_popi, w_popr, w_ald_1, w_iv1, w_if_ne, w_gf_13_11, w_if_eq, w_nil, true_and, and_true, Nat.reduceAdd, Nat.reduceSub, eq_self, tsh_0, tyk_13, tcq_13, tsh_77, tyk_8, tcq_8, tsh_650, tsh_653, tyk_4, tcq_4, tsh_113, tsh_78, tyk_2, tcq_2, sx, sr]
    unfold INB at inc
    repeat refine And.intro (by omega) ?_
    exact fun _ => n164
  -- the finer digits are set back
  have n93 : ∀ (M1 : tM) (w3 w4 : Option tV) (B0 : Nat → Int × Int), SFF M M1 → RO M1 → EVS (M 78 5) X X M r c 1 B0 → BX M1 650 (B0 0).1 (B0 0).2 → tT e d 3364 93 [some (.inr (.inr (.inl (0)))), some (.inr (.inr (.inl (r)))), some (.inr (.inr (.inl (x)))), w3, w4] [.inl 1] M1 n (tQi n (fun z M' => z = 1 ∧ RO M' ∧ SFF M M' ∧ M' 78 5 = M 78 5)) := by
    intro M1 w3 w4 B0 f1 ro1 e0 b650
    have e00 : M1 0 0 = M 0 0 := f1.2 0 0 (by decide) (by decide) (by decide) (by decide) (by decide)
    refine tb_X11_isValueSound_93 (c := false) ?_
    simp only [kb_X11_isValueSound_93, w_ist_3, tkl_n, tkl_i, tkl_l, tkl_r, w_ald_0, w_gf_13_4, tw_f, w_gf_13_0, w_iv1, tfr_0, tfr_1, tfr_2, tfr_3, tfr_4, w_nil, true_and, and_true, Nat.reduceAdd, Nat.reduceSub, eq_self, tsh_0, tyk_13, tcq_13, tsh_77, tyk_8, tcq_8, tsh_650, tsh_653, tyk_4, tcq_4, tsh_113, tsh_78, tyk_2, tcq_2, e00]
    refine tc_n (D := 2) (fun d' hd' => t_useD hz0 hd') (by omega) ?_
    rintro M2 hM2
    have f2 : SFF M M2 := by rw [hM2]; exact SFF_tr f1 (SFF_u f1.1)
    have u2 : M2 78 5 = M 78 5 := by rw [hM2, tU_eq]; exact hU.symm
    have ro2 : RO M2 := by rw [hM2]; exact RO_u ro1 (tU_nk (by decide)) (tU_nk (by decide))
    have b2 : BX M2 650 (B0 0).1 (B0 0).2 := by rw [hM2]; exact BX_f b650 (fun j => tU_nk (by decide)) (fun j => tU_nk (by decide))
    clear hM2
    try simp only [kb_X11_isValueSound_93, w_ist_3, tkl_n, tkl_i, tkl_l, tkl_r, w_ald_0, w_gf_13_4, tw_f, w_gf_13_0, w_iv1, tfr_0, tfr_1, tfr_2, tfr_3, tfr_4, w_nil, true_and, and_true, Nat.reduceAdd, Nat.reduceSub, eq_self, tsh_0, tyk_13, tcq_13, tsh_77, tyk_8, tcq_8, tsh_650, tsh_653, tyk_4, tcq_4, tsh_113, tsh_78, tyk_2, tcq_2, e00]
    exact n105 M2 _ B0 f2 ro2 u2 e0 b2
  have n88 : ∀ (M1 : tM) (w3 w4 : Option tV) (B0 : Nat → Int × Int), SFF M M1 → RO M1 → EVS (M 78 5) X X M r c 1 B0 → BX M1 650 (B0 0).1 (B0 0).2 → tT e d 3364 88 [some (.inr (.inr (.inl (0)))), some (.inr (.inr (.inl (r)))), some (.inr (.inr (.inl (x)))), w3, w4] [] M1 n (tQi n (fun z M' => z = 1 ∧ RO M' ∧ SFF M M' ∧ M' 78 5 = M 78 5)) := by
    intro M1 w3 w4 B0 f1 ro1 e0 b650
    refine tb_X11_isValueSound_88 (c := false) ?_
    simp only [kb_X11_isValueSound_88, w_ic, w_goto, true_and, and_true, Nat.reduceAdd, Nat.reduceSub, eq_self]
    exact n93 M1 _ _ B0 f1 ro1 e0 b650
  refine tb_X11_isValueSound_0 (c := false) ?_
  simp only [kb_X11_isValueSound_0, w_ald_0, w_gf_13_4, tw_f, w_ald_2, w_iv2, tfr_0, tfr_1, tfr_2, tfr_3, tfr_4, w_ald_1, w_iv1, w_if_eq, w_ic, w_ire, trg, true_and, and_true, Nat.reduceAdd, Nat.reduceSub, eq_self, tsh_0, tyk_13, tcq_13, tsh_77, tyk_8, tcq_8, tsh_650, tsh_653, tyk_4, tcq_4, tsh_113, tsh_78, tyk_2, tcq_2, sx, sr]
  refine tc_n (D := 0) (fun d' hd' => z_aim (b := 0) hx hx (by decide) hC) (by omega) ?_
  rintro M1 ⟨⟨a1, a2, a3⟩, a4, a5⟩
  try simp only [kb_X11_isValueSound_0, w_ald_0, w_gf_13_4, tw_f, w_ald_2, w_iv2, tfr_0, tfr_1, tfr_2, tfr_3, tfr_4, w_ald_1, w_iv1, w_if_eq, w_ic, w_ire, trg, true_and, and_true, Nat.reduceAdd, Nat.reduceSub, eq_self, tsh_0, tyk_13, tcq_13, tsh_77, tyk_8, tcq_8, tsh_650, tsh_653, tyk_4, tcq_4, tsh_113, tsh_78, tyk_2, tcq_2, sx, sr]
  have f1 : SFF M M1 := ⟨a4.1, fun k i q _ _ _ _ => a5 k i (by omega)⟩
  have u1 : M1 78 5 = M 78 5 := a5 78 5 (by decide)
  have ro1 : RO M1 := RO_u hro (a5 79 4 (by decide)) (a5 79 5 (by decide))
  refine tc_i (D := 8) (fun d' hd' => z_makeValue (b := 0) (xr := x) (yr := x) (X := X) (Y := X) hr (wf M1 f1) ⟨a1, hx, Or.inl hx2⟩ ⟨a2, hx, Or.inl hx2⟩ ⟨xb M1 f1, hX.2⟩ ⟨xb M1 f1, hX.2⟩ (by rw [u1]; exact hu0) he ro1 (by decide) f1.1 hd') (by omega) ?_
  rintro z M2 ⟨v0, v1, v2, v3⟩
  try simp only [kb_X11_isValueSound_0, w_ald_0, w_gf_13_4, tw_f, w_ald_2, w_iv2, tfr_0, tfr_1, tfr_2, tfr_3, tfr_4, w_ald_1, w_iv1, w_if_eq, w_ic, w_ire, trg, true_and, and_true, Nat.reduceAdd, Nat.reduceSub, eq_self, tsh_0, tyk_13, tcq_13, tsh_77, tyk_8, tcq_8, tsh_650, tsh_653, tyk_4, tcq_4, tsh_113, tsh_78, tyk_2, tcq_2, sx, sr]
  have f2 : SFF M M2 := SFF_tr f1 (SFF_m v3)
  have u2 : M2 78 5 = M 78 5 := (UN_78 v3.1.2).trans u1
  repeat refine And.intro (by omega) ?_
  refine ⟨fun g => ?_, fun g => ⟨by decide, _, rfl, rfl, rfl, v2, f2, u2⟩⟩
  obtain ⟨B0, e0, s0⟩ := v1 (by omega)
  rw [u1] at e0
  have e0' := ev M1 _ _ _ _ _ _ f1 e0
  have b0 := s0.2 0 (by decide)
  refine tb_X11_isValueSound_22 (c := false) ?_
  simp only [kb_X11_isValueSound_22, w_ald_0, w_gf_13_11, tw_f, w_gf_13_4, w_iv0, tfr_0, tfr_1, tfr_2, tfr_3, tfr_4, w_iv1, w_ic, w_ist_3, tkl_n, tkl_i, tkl_l, tkl_r, w_gf_13_0, w_bi, w_ic_ge, w_iadd, w_ald_1, w_if_ne, w_if_eq, w_nil, true_and, and_true, Nat.reduceAdd, Nat.reduceSub, eq_self, tsh_0, tyk_13, tcq_13, tsh_77, tyk_8, tcq_8, tsh_650, tsh_653, tyk_4, tcq_4, tsh_113, tsh_78, tyk_2, tcq_2, sx, sr]
  refine tc_r (D := 1) (fun d' hd' => z_result s0.1 hd') (by omega) ?_
  rintro y M3 ⟨rfl, rfl⟩
  try simp only [kb_X11_isValueSound_22, w_ald_0, w_gf_13_11, tw_f, w_gf_13_4, w_iv0, tfr_0, tfr_1, tfr_2, tfr_3, tfr_4, w_iv1, w_ic, w_ist_3, tkl_n, tkl_i, tkl_l, tkl_r, w_gf_13_0, w_bi, w_ic_ge, w_iadd, w_ald_1, w_if_ne, w_if_eq, w_nil, true_and, and_true, Nat.reduceAdd, Nat.reduceSub, eq_self, tsh_0, tyk_13, tcq_13, tsh_77, tyk_8, tcq_8, tsh_650, tsh_653, tyk_4, tcq_4, tsh_113, tsh_78, tyk_2, tcq_2, sx, sr]
  refine tc_n (D := 1) (fun d' hd' => z_copy (b := 0) cl_650 (cl_cs (i := 0) (by decide)) b0.1 (by decide) f2.1 hd') (by omega) ?_
  rintro M4 ⟨w1, w2⟩
  have f4 : SFF M M4 := SFF_tr f2 (SFF_1 w2)
  have e4 : M4 0 0 = M 0 0 := f4.2 0 0 (by decide) (by decide) (by decide) (by decide) (by decide)
  have ro4 : RO M4 := RO_b v2 w2 (by decide)
  have u4 : M4 78 5 = M 78 5 := (w2.2 78 5 (by decide) (by decide)).trans u2
  try simp only [kb_X11_isValueSound_22, w_ald_0, w_gf_13_11, tw_f, w_gf_13_4, w_iv0, tfr_0, tfr_1, tfr_2, tfr_3, tfr_4, w_iv1, w_ic, w_ist_3, tkl_n, tkl_i, tkl_l, tkl_r, w_gf_13_0, w_bi, w_ic_ge, w_iadd, w_ald_1, w_if_ne, w_if_eq, w_nil, true_and, and_true, Nat.reduceAdd, Nat.reduceSub, eq_self, tsh_0, tyk_13, tcq_13, tsh_77, tyk_8, tcq_8, tsh_650, tsh_653, tyk_4, tcq_4, tsh_113, tsh_78, tyk_2, tcq_2, sx, sr, e4]
  repeat refine And.intro (by omega) ?_
  refine ⟨fun g2 => n105 M4 _ B0 f4 ro4 u4 e0' w1, fun g2 => ?_⟩
  repeat refine And.intro (by omega) ?_
  refine tc_n (D := 2) (fun d' hd' => t_useD (by omega) hd') (by omega) ?_
  rintro M5 hM5
  have f5 : SFF M M5 := by rw [hM5]; exact SFF_tr f4 (SFF_u f4.1)
  have u5 : M5 78 5 = un (M 0 0 + 1) := by rw [hM5, tU_eq]
  have ro5 : RO M5 := by rw [hM5]; exact RO_u ro4 (tU_nk (by decide)) (tU_nk (by decide))
  have k5 : ∀ (k : Nat) (i : Int), k ≠ 78 → M5 k i = M4 k i := fun k i q => by rw [hM5]; exact tU_nk q
  clear hM5
  try simp only [kb_X11_isValueSound_22, w_ald_0, w_gf_13_11, tw_f, w_gf_13_4, w_iv0, tfr_0, tfr_1, tfr_2, tfr_3, tfr_4, w_iv1, w_ic, w_ist_3, tkl_n, tkl_i, tkl_l, tkl_r, w_gf_13_0, w_bi, w_ic_ge, w_iadd, w_ald_1, w_if_ne, w_if_eq, w_nil, true_and, and_true, Nat.reduceAdd, Nat.reduceSub, eq_self, tsh_0, tyk_13, tcq_13, tsh_77, tyk_8, tcq_8, tsh_650, tsh_653, tyk_4, tcq_4, tsh_113, tsh_78, tyk_2, tcq_2, sx, sr, e4]
  have x5 : M5 77 3 = (x : Int) ∧ M5 77 4 = (x : Int) := ⟨(k5 77 3 (by decide)).trans ((w2.2 77 3 (by decide) (by decide)).trans ((v3.2.1 3 (by decide)).trans a1)), (k5 77 4 (by decide)).trans ((w2.2 77 4 (by decide) (by decide)).trans ((v3.2.1 4 (by decide)).trans a2))⟩
  have hu5 := un_UU (D := M 0 0 + 1) (by omega)
  refine tc_i (D := 8) (fun d' hd' => z_makeValue (b := 0) (xr := x) (yr := x) (X := X) (Y := X) hr (wf M5 f5) ⟨x5.1, hx, Or.inl hx2⟩ ⟨x5.2, hx, Or.inl hx2⟩ ⟨xb M5 f5, hX.2⟩ ⟨xb M5 f5, hX.2⟩ (by rw [u5]; exact hu5) he ro5 (by decide) f5.1 hd') (by omega) ?_
  rintro z6 M6 ⟨t0, t1, t2, t3⟩
  try simp only [kb_X11_isValueSound_22, w_ald_0, w_gf_13_11, tw_f, w_gf_13_4, w_iv0, tfr_0, tfr_1, tfr_2, tfr_3, tfr_4, w_iv1, w_ic, w_ist_3, tkl_n, tkl_i, tkl_l, tkl_r, w_gf_13_0, w_bi, w_ic_ge, w_iadd, w_ald_1, w_if_ne, w_if_eq, w_nil, true_and, and_true, Nat.reduceAdd, Nat.reduceSub, eq_self, tsh_0, tyk_13, tcq_13, tsh_77, tyk_8, tcq_8, tsh_650, tsh_653, tyk_4, tcq_4, tsh_113, tsh_78, tyk_2, tcq_2, sx, sr, e4]
  have f6 : SFF M M6 := SFF_tr f5 (SFF_m t3)
  have b6 : BX M6 650 (B0 0).1 (B0 0).2 := BX_f w1 (fun j => (t3.2.2 _ _ (by decide)).trans (k5 _ _ (by decide))) (fun j => (t3.2.2 _ _ (by decide)).trans (k5 _ _ (by decide)))
  repeat refine And.intro (by omega) ?_
  refine ⟨fun g3 => n88 M6 _ _ B0 f6 t2 e0' b6, fun g3 => ?_⟩
  obtain ⟨B1, e1, s1⟩ := t1 (by omega)
  rw [u5] at e1
  have e1' := ev M5 _ _ _ _ _ _ f5 e1
  have inc := (EVS_iso (X0 := X) (Y0 := X) (X := X) (Y := X) hu0 hu5 (by rw [hU]; exact un_dvd (by omega)) ⟨Int.le_refl _, Int.le_refl _⟩ ⟨Int.le_refl _, Int.le_refl _⟩ c 1 1 B0 B1 e0' e1').2 0 (by decide)
  have q1 := s1.2 0 (by decide)
  refine tc_r (D := 1) (fun d' hd' => z_result s1.1 hd') (by omega) ?_
  rintro y M7 ⟨rfl, rfl⟩
  try simp only [kb_X11_isValueSound_22, w_ald_0, w_gf_13_11, tw_f, w_gf_13_4, w_iv0, tfr_0, tfr_1, tfr_2, tfr_3, tfr_4, w_iv1, w_ic, w_ist_3, tkl_n, tkl_i, tkl_l, tkl_r, w_gf_13_0, w_bi, w_ic_ge, w_iadd, w_ald_1, w_if_ne, w_if_eq, w_nil, true_and, and_true, Nat.reduceAdd, Nat.reduceSub, eq_self, tsh_0, tyk_13, tcq_13, tsh_77, tyk_8, tcq_8, tsh_650, tsh_653, tyk_4, tcq_4, tsh_113, tsh_78, tyk_2, tcq_2, sx, sr, e4]
  refine tc_i (D := 1) (fun d' hd' => z_liesIn (cl_cs (i := 0) (by decide)) cl_650 q1.1 b6 ⟨NF_r q1.2.1.1, NF_r q1.2.1.2⟩ ⟨NF_r b0.2.1.1, NF_r b0.2.1.2⟩ hd') (by omega) ?_
  rintro w M8 ⟨hw8, rfl⟩
  try simp only [kb_X11_isValueSound_22, w_ald_0, w_gf_13_11, tw_f, w_gf_13_4, w_iv0, tfr_0, tfr_1, tfr_2, tfr_3, tfr_4, w_iv1, w_ic, w_ist_3, tkl_n, tkl_i, tkl_l, tkl_r, w_gf_13_0, w_bi, w_ic_ge, w_iadd, w_ald_1, w_if_ne, w_if_eq, w_nil, true_and, and_true, Nat.reduceAdd, Nat.reduceSub, eq_self, tsh_0, tyk_13, tcq_13, tsh_77, tyk_8, tcq_8, tsh_650, tsh_653, tyk_4, tcq_4, tsh_113, tsh_78, tyk_2, tcq_2, sx, sr, e4]
  unfold INB at inc
  repeat refine And.intro (by omega) ?_
  exact fun _ => n88 M8 _ _ B0 f6 t2 e0' b6
theorem z_box {s : Nat} (hs : s < 10) (hd : 1 ≤ d) : tC e d 2817 [.inr (.inr (.inl 5)), .inl (s : Int)] M n (tQr n (fun z M' => z = 8 + 3 * s ∧ M' = M)) := by
  refine tst_X9_box ?_
  refine tb_X9_box_0 (c := false) ?_
  simp only [kb_X9_box_0, w_ald_0, w_gf_11_0, tw_f, w_ild_1, w_iv1, tfr_0, tfr_1, tfr_2, tfr_3, tfr_4, w_if_eq, w_goto, true_and, and_true, Nat.reduceAdd, Nat.reduceSub, eq_self, tsh_5, tyk_11, tcq_11, tsh_6, tsh_7, tyk_16, tyk_17, tel_4, tqo_6]
  refine tc_i (D := 0) (fun d' hd' => x_isShelf (by omega)) (by omega) ?_
  rintro z M1 ⟨rfl, rfl⟩
  try simp only [kb_X9_box_0, w_ald_0, w_gf_11_0, tw_f, w_ild_1, w_iv1, tfr_0, tfr_1, tfr_2, tfr_3, tfr_4, w_if_eq, w_goto, true_and, and_true, Nat.reduceAdd, Nat.reduceSub, eq_self, tsh_5, tyk_11, tcq_11, tsh_6, tsh_7, tyk_16, tyk_17, tel_4, tqo_6]
  repeat refine And.intro (by omega) ?_
  first | refine ⟨fun q => absurd q (by omega), fun _ => ?_⟩ | refine fun _ => ?_
  refine tb_X9_box_17 (c := false) ?_
  simp only [kb_X9_box_17, w_aa, w_are, true_and, and_true, Nat.reduceAdd, Nat.reduceSub, eq_self, tsh_5, tyk_11, tcq_11, tsh_6, tsh_7, tyk_16, tyk_17, tel_4, tqo_6]
  refine ⟨by omega, _, rfl, rfl, ?_, rfl⟩
  rw [nat_n]
theorem cl_sh {s : Nat} (h : s < 10) : cl (8 + 3 * s) 4 := by
  have g : (List.range 10).all (fun i => Nat.beq (tshl.getD (8 + 3 * i) 0) 4) = true := by decide +kernel
  refine ⟨?_, by omega⟩
  rw [tsh_def]
  exact Nat.eq_of_beq_eq_true (List.all_eq_true.mp g s (List.mem_range.mpr h))
theorem FM_cl {r : Nat} (h : cl r 7) : FMC r := by
  have g : (List.range 664).all (fun i => !Nat.beq (tshl.getD i 0) 7 || (Nat.beq i 500 || Nat.beq i 506 || Nat.beq i 512 || Nat.beq i 518 || Nat.beq i 524)) = true := by decide +kernel
  obtain ⟨h1, h2⟩ := h
  rw [tsh_def] at h1
  have q := List.all_eq_true.mp g r (List.mem_range.mpr h2)
  rw [h1] at q
  have q : (Nat.beq r 500 || Nat.beq r 506 || Nat.beq r 512 || Nat.beq r 518 || Nat.beq r 524) = true := q
  simp only [Bool.or_eq_true] at q
  unfold FMC
  rcases q with (((q | q) | q) | q) | q
  · exact Or.inl (Nat.eq_of_beq_eq_true q)
  · exact Or.inr (Or.inl (Nat.eq_of_beq_eq_true q))
  · exact Or.inr (Or.inr (Or.inl (Nat.eq_of_beq_eq_true q)))
  · exact Or.inr (Or.inr (Or.inr (Or.inl (Nat.eq_of_beq_eq_true q))))
  · exact Or.inr (Or.inr (Or.inr (Or.inr (Nat.eq_of_beq_eq_true q))))
/-- what holds between calls, by values -/
def CV (M : tM) : Prop := (UN M ∧ RO M) ∧ (∀ s : Nat, s < 10 → BXG M (8 + 3 * s)) ∧ ∀ r : Nat, FMC r → M r 6 = 1 → ∃ c : Nat, WFF M r c
theorem WFF_f {M M1 : tM} {r c : Nat} (h : WFF M r c) (q : ∀ (k : Nat) (i : Int), r ≤ k ∧ k ≤ r + 5 → M1 k i = M k i) : WFF M1 r c := by
  have q1 : (fun k : Nat => M1 (r + 1) (k : Int)) = fun k : Nat => M (r + 1) (k : Int) := funext fun k => q _ _ (by omega)
  unfold WFF
  rw [q1, q r 4 (by omega)]
  refine ⟨h.1, fun k hk => ?_, h.2.2⟩
  rw [q (r + 1) _ (by omega), q (r + 2) _ (by omega), q (r + 3) _ (by omega)]
  exact h.2.1 k hk
theorem BXG_f {M M1 : tM} {r : Nat} (h : BXG M r) (f1 : ∀ i, M1 (r + 1) i = M (r + 1) i) (f2 : ∀ i, M1 (r + 2) i = M (r + 2) i) : BXG M1 r := by
  obtain ⟨v, h1, h2⟩ := h
  exact ⟨v, BX_f h1 f1 f2, h2⟩
theorem CV_S {M M1 : tM} (h : CV M) (f : SFF M M1) (ro : RO M1) (u : M1 78 5 = M 78 5) : CV M1 := by
  obtain ⟨⟨h1, h2⟩, h3, h4⟩ := h
  refine ⟨⟨?_, ro⟩, fun s hs => BXG_f (h3 s hs) (fun i => f.2 _ _ (by omega) (by omega) (by omega) (by omega) (by omega)) (fun i => f.2 _ _ (by omega) (by omega) (by omega) (by omega) (by omega)), fun r hr hd => ?_⟩
  · unfold UN
    rw [u, f.2 0 0 (by decide) (by decide) (by decide) (by decide) (by decide)]
    exact h1
  · have hr2 : 499 < r ∧ r + 5 < 530 := by unfold FMC at hr; omega
    have q : ∀ (k : Nat) (i : Int), r ≤ k ∧ k ≤ r + 5 → M1 k i = M k i := fun k i g => f.2 k i (by omega) (by omega) (by omega) (by omega) (by omega)
    rw [q r 6 (by omega)] at hd
    obtain ⟨c, hc⟩ := h4 r hr hd
    exact ⟨c, WFF_f hc q⟩
theorem e_isSound (hV : CV M) (he : EVr e) (hC : CI M) (hd : 10 ≤ d) : tC e d 3363 [.inr (.inr (.inl 0))] M n (tQi n (fun z M' => z = 1 ∧ RO M' ∧ SFF M M' ∧ M' 78 5 = M 78 5)) := by
  refine tst_X11_isSound ?_
  have n101 : ∀ (M1 : tM) (w2 w3 : Option tV), SFF M M1 → RO M1 → M1 78 5 = M 78 5 → tT e d 3363 101 [some (.inr (.inr (.inl (0)))), some (.inl (1)), w2, w3] [] M1 n (tQi n (fun z M' => z = 1 ∧ RO M' ∧ SFF M M' ∧ M' 78 5 = M 78 5)) := by
    intro M1 w2 w3 f1 r1 u1
    refine tb_X11_isSound_101 (c := false) ?_
    simp only [kb_X11_isSound_101, w_ild_1, w_ire, trg, true_and, and_true, Nat.reduceAdd, Nat.reduceSub, eq_self]
    exact ⟨by decide, _, rfl, rfl, rfl, r1, f1, u1⟩
  have n26 : ∀ (fu : Nat) (M1 : tM) (i2 : Nat) (w3 : Option tV), 4 - i2 = fu → i2 ≤ 4 → SFF M M1 → RO M1 → M1 78 5 = M 78 5 → tT e d 3363 26 [some (.inr (.inr (.inl (0)))), some (.inl (1)), some (.inl ((i2 : Int))), w3] [] M1 n (tQi n (fun z M' => z = 1 ∧ RO M' ∧ SFF M M' ∧ M' 78 5 = M 78 5)) := by
    intro fu
    induction fu with
    | zero =>
      intro M1 i2 w3 hf hi f1 r1 u1
      refine tb_X11_isSound_26 (c := false) ?_
      simp only [kb_X11_isSound_26, w_ild_2, w_ic, w_ic_ge, w_ild_1, w_if_eq, w_ist_3, tkl_n, tkl_i, tkl_l, tkl_r, w_nil, true_and, and_true, Nat.reduceAdd, Nat.reduceSub, eq_self]
      repeat refine And.intro (by omega) ?_
      refine ⟨fun _ => n101 M1 _ _ f1 r1 u1, fun q => absurd (by omega) q⟩
    | succ fu ih =>
      intro M1 i2 w3 hf hi f1 r1 u1
      have n37 : ∀ (fv : Nat) (M2 : tM) (i3 : Nat), 10 - i3 = fv → i3 ≤ 10 → SFF M M2 → RO M2 → M2 78 5 = M 78 5 → tT e d 3363 37 [some (.inr (.inr (.inl (0)))), some (.inl (1)), some (.inl ((i2 : Int))), some (.inl ((i3 : Int)))] [] M2 n (tQi n (fun z M' => z = 1 ∧ RO M' ∧ SFF M M' ∧ M' 78 5 = M 78 5)) := by
        intro fv
        induction fv with
        | zero =>
          intro M2 i3 hg hj f2 r2 u2
          refine tb_X11_isSound_37 (c := false) ?_
          simp only [kb_X11_isSound_37, w_ild_3, w_bi, w_ic_ge, w_ild_1, w_if_eq, w_ald_0, w_gf_13_5, tw_f, w_ild_2, w_aa, w_gf_7_6, w_gf_13_3, w_iv1, tfr_0, tfr_1, tfr_2, tfr_3, tfr_4, w_iv2, w_ist_1, tkl_n, tkl_i, tkl_l, tkl_r, w_nil, true_and, and_true, Nat.reduceAdd, Nat.reduceSub, eq_self, tsh_0, tyk_13, tcq_13, tsh_77, tyk_8, tcq_8, tsh_650, tsh_653, tyk_4, tcq_4, tsh_113, tsh_78, tyk_2, tcq_2, tsh_499, tyk_27, tel_5, tsh_5, tyk_11, tcq_11, tyk_7, tcq_7]
          repeat refine And.intro (by omega) ?_
          refine ⟨fun _ => ?_, fun q => absurd (by omega) q⟩
          refine tb_X11_isSound_95 (c := false) ?_
          simp only [kb_X11_isSound_95, w_inc2, tkl_n, tkl_i, tkl_l, tkl_r, w_goto, true_and, and_true, Nat.reduceAdd, Nat.reduceSub, eq_self]
          repeat refine And.intro (by omega) ?_
          rw [show ((i2 : Nat) : Int) + 1 = ((i2 + 1 : Nat) : Int) by omega]
          exact ih M2 (i2 + 1) _ (by omega) (by omega) f2 r2 u2
        | succ fv ih2 =>
          intro M2 i3 hg hj f2 r2 u2
          have n89 : ∀ M3 : tM, SFF M M3 → RO M3 → M3 78 5 = M 78 5 → tT e d 3363 89 [some (.inr (.inr (.inl (0)))), some (.inl (1)), some (.inl ((i2 : Int))), some (.inl ((i3 : Int)))] [] M3 n (tQi n (fun z M' => z = 1 ∧ RO M' ∧ SFF M M' ∧ M' 78 5 = M 78 5)) := by
            intro M3 f3 r3 u3
            refine tb_X11_isSound_89 (c := false) ?_
            simp only [kb_X11_isSound_89, w_inc3, tkl_n, tkl_i, tkl_l, tkl_r, w_goto, true_and, and_true, Nat.reduceAdd, Nat.reduceSub, eq_self]
            repeat refine And.intro (by omega) ?_
            rw [show ((i3 : Nat) : Int) + 1 = ((i3 + 1 : Nat) : Int) by omega]
            exact ih2 M3 (i3 + 1) (by omega) (by omega) f3 r3 u3
          have c2 := f2.1
          have hf0 := fm_cl c2 (show 0 ≤ (i2 : Int) ∧ (i2 : Int) ≤ 3 by omega)
          have hfm := FM_cl hf0
          have hv2 := CI_i (f := 6) c2 hf0 rfl
          have hv2 : 0 ≤ M2 (M2 499 (i2 : Int)).toNat 6 ∧ M2 (M2 499 (i2 : Int)).toNat 6 ≤ 1 := hv2
          have sf := hf0.1
          have cv2 := CV_S hV f2 r2 u2
          refine tb_X11_isSound_37 (c := false) ?_
          simp only [kb_X11_isSound_37, w_ild_3, w_bi, w_ic_ge, w_ild_1, w_if_eq, w_ald_0, w_gf_13_5, tw_f, w_ild_2, w_aa, w_gf_7_6, w_gf_13_3, w_iv1, tfr_0, tfr_1, tfr_2, tfr_3, tfr_4, w_iv2, w_ist_1, tkl_n, tkl_i, tkl_l, tkl_r, w_nil, true_and, and_true, Nat.reduceAdd, Nat.reduceSub, eq_self, tsh_0, tyk_13, tcq_13, tsh_77, tyk_8, tcq_8, tsh_650, tsh_653, tyk_4, tcq_4, tsh_113, tsh_78, tyk_2, tcq_2, tsh_499, tyk_27, tel_5, tsh_5, tyk_11, tcq_11, tyk_7, tcq_7, sf]
          repeat refine And.intro (by omega) ?_
          first | refine ⟨fun q => absurd q (by omega), fun _ => ?_⟩ | refine fun _ => ?_
          repeat refine And.intro (by omega) ?_
          first | refine ⟨fun q => absurd q (by omega), fun _ => ?_⟩ | refine fun _ => ?_
          repeat refine And.intro (by omega) ?_
          refine ⟨fun g => n89 M2 f2 r2 u2, fun g => ?_⟩
          refine tz_i (D := 1) (fun d' hd' => k_X9_holds cl_5 (by omega) hd') c2 (by omega) ?_
          intro z hz
          try simp only [kb_X11_isSound_37, w_ild_3, w_bi, w_ic_ge, w_ild_1, w_if_eq, w_ald_0, w_gf_13_5, tw_f, w_ild_2, w_aa, w_gf_7_6, w_gf_13_3, w_iv1, tfr_0, tfr_1, tfr_2, tfr_3, tfr_4, w_iv2, w_ist_1, tkl_n, tkl_i, tkl_l, tkl_r, w_nil, true_and, and_true, Nat.reduceAdd, Nat.reduceSub, eq_self, tsh_0, tyk_13, tcq_13, tsh_77, tyk_8, tcq_8, tsh_650, tsh_653, tyk_4, tcq_4, tsh_113, tsh_78, tyk_2, tcq_2, tsh_499, tyk_27, tel_5, tsh_5, tyk_11, tcq_11, tyk_7, tcq_7, sf]
          repeat refine And.intro (by omega) ?_
          refine ⟨fun g2 => n89 M2 f2 r2 u2, fun g2 => ?_⟩
          repeat refine And.intro (by omega) ?_
          refine tc_r (D := 1) (fun d' hd' => z_box (s := i3) (by omega) hd') (by omega) ?_
          rintro x M3 ⟨rfl, rfl⟩
          try simp only [kb_X11_isSound_37, w_ild_3, w_bi, w_ic_ge, w_ild_1, w_if_eq, w_ald_0, w_gf_13_5, tw_f, w_ild_2, w_aa, w_gf_7_6, w_gf_13_3, w_iv1, tfr_0, tfr_1, tfr_2, tfr_3, tfr_4, w_iv2, w_ist_1, tkl_n, tkl_i, tkl_l, tkl_r, w_nil, true_and, and_true, Nat.reduceAdd, Nat.reduceSub, eq_self, tsh_0, tyk_13, tcq_13, tsh_77, tyk_8, tcq_8, tsh_650, tsh_653, tyk_4, tcq_4, tsh_113, tsh_78, tyk_2, tcq_2, tsh_499, tyk_27, tel_5, tsh_5, tyk_11, tcq_11, tyk_7, tcq_7, sf]
          obtain ⟨X, hX⟩ := cv2.2.1 i3 (by omega)
          obtain ⟨c, hc⟩ := cv2.2.2 _ hfm (by omega)
          refine tc_i (D := 9) (fun d' hd' => e_isValue hfm hc (cl_sh (by omega)) (by omega) hX cv2.1.1 he r2 c2 hd') (by omega) ?_
          rintro z4 M4 ⟨rfl, r4, f4, u4⟩
          try simp only [kb_X11_isSound_37, w_ild_3, w_bi, w_ic_ge, w_ild_1, w_if_eq, w_ald_0, w_gf_13_5, tw_f, w_ild_2, w_aa, w_gf_7_6, w_gf_13_3, w_iv1, tfr_0, tfr_1, tfr_2, tfr_3, tfr_4, w_iv2, w_ist_1, tkl_n, tkl_i, tkl_l, tkl_r, w_nil, true_and, and_true, Nat.reduceAdd, Nat.reduceSub, eq_self, tsh_0, tyk_13, tcq_13, tsh_77, tyk_8, tcq_8, tsh_650, tsh_653, tyk_4, tcq_4, tsh_113, tsh_78, tyk_2, tcq_2, tsh_499, tyk_27, tel_5, tsh_5, tyk_11, tcq_11, tyk_7, tcq_7, sf]
          exact n89 M4 (SFF_tr f2 f4) r4 (u4.trans u2)
      refine tb_X11_isSound_26 (c := false) ?_
      simp only [kb_X11_isSound_26, w_ild_2, w_ic, w_ic_ge, w_ild_1, w_if_eq, w_ist_3, tkl_n, tkl_i, tkl_l, tkl_r, w_nil, true_and, and_true, Nat.reduceAdd, Nat.reduceSub, eq_self]
      repeat refine And.intro (by omega) ?_
      first | refine ⟨fun q => absurd q (by omega), fun _ => ?_⟩ | refine fun _ => ?_
      repeat refine And.intro (by omega) ?_
      first | refine ⟨fun q => absurd q (by omega), fun _ => ?_⟩ | refine fun _ => ?_
      repeat refine And.intro (by omega) ?_
      exact n37 10 M1 0 rfl (by decide) f1 r1 u1
  refine tb_X11_isSound_0 (c := false) ?_
  simp only [kb_X11_isSound_0, w_ald_0, w_bi, w_iv1, tfr_0, tfr_1, tfr_2, tfr_3, tfr_4, w_if_eq, w_ic, w_goto, true_and, and_true, Nat.reduceAdd, Nat.reduceSub, eq_self, tsh_0, tyk_13, tcq_13, tsh_77, tyk_8, tcq_8, tsh_650, tsh_653, tyk_4, tcq_4, tsh_113, tsh_78, tyk_2, tcq_2, tsh_499, tyk_27, tel_5, tsh_5, tyk_11, tcq_11, tyk_7, tcq_7]
  repeat refine And.intro (by omega) ?_
  refine tc_i (D := 9) (fun d' hd' => e_isConst (Or.inl rfl) hV.1.1 he hV.1.2 hC hd') (by omega) ?_
  rintro z1 M1 ⟨rfl, r1, f1, u1⟩
  try simp only [kb_X11_isSound_0, w_ald_0, w_bi, w_iv1, tfr_0, tfr_1, tfr_2, tfr_3, tfr_4, w_if_eq, w_ic, w_goto, true_and, and_true, Nat.reduceAdd, Nat.reduceSub, eq_self, tsh_0, tyk_13, tcq_13, tsh_77, tyk_8, tcq_8, tsh_650, tsh_653, tyk_4, tcq_4, tsh_113, tsh_78, tyk_2, tcq_2, tsh_499, tyk_27, tel_5, tsh_5, tyk_11, tcq_11, tyk_7, tcq_7]
  repeat refine And.intro (by omega) ?_
  first | refine ⟨fun q => absurd q (by omega), fun _ => ?_⟩ | refine fun _ => ?_
  repeat refine And.intro (by omega) ?_
  refine tc_i (D := 9) (fun d' hd' => e_isConst (Or.inr rfl) (CV_S hV f1 r1 u1).1.1 he r1 f1.1 hd') (by omega) ?_
  rintro z2 M2 ⟨rfl, r2, f2, u2⟩
  try simp only [kb_X11_isSound_0, w_ald_0, w_bi, w_iv1, tfr_0, tfr_1, tfr_2, tfr_3, tfr_4, w_if_eq, w_ic, w_goto, true_and, and_true, Nat.reduceAdd, Nat.reduceSub, eq_self, tsh_0, tyk_13, tcq_13, tsh_77, tyk_8, tcq_8, tsh_650, tsh_653, tyk_4, tcq_4, tsh_113, tsh_78, tyk_2, tcq_2, tsh_499, tyk_27, tel_5, tsh_5, tyk_11, tcq_11, tyk_7, tcq_7]
  repeat refine And.intro (by omega) ?_
  first | refine ⟨fun q => absurd q (by omega), fun _ => ?_⟩ | refine fun _ => ?_
  refine tb_X11_isSound_23 (c := false) ?_
  simp only [kb_X11_isSound_23, w_ist_1, tkl_n, tkl_i, tkl_l, tkl_r, w_ic, w_ist_2, w_nil, true_and, and_true, Nat.reduceAdd, Nat.reduceSub, eq_self]
  repeat refine And.intro (by omega) ?_
  exact n26 4 M2 0 _ rfl (by decide) (SFF_tr f1 f2) r2 (u2.trans u1)
end HAND
