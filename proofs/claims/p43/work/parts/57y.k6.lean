/-! WHAT HOLDS BETWEEN CALLS: kept by pairs; values of good formulas. -/
/-- what the machine aims at -/
def AIM (M : tM) (x y : Nat) (X Y : Int × Int) : Prop := (M 77 3 = (x : Int) ∧ cl x 4 ∧ (x + 2 < 77 ∨ 496 < x)) ∧ (M 77 4 = (y : Int) ∧ cl y 4 ∧ (y + 2 < 77 ∨ 496 < y)) ∧ (BX M x X.1 X.2 ∧ GBX X) ∧ (BX M y Y.1 Y.2 ∧ GBX Y)
theorem AIM_m {x y : Nat} {X Y : Int × Int} {M M1 : tM} (h : AIM M x y X Y) (f : MKF 0 M M1) : AIM M1 x y X Y := by
  obtain ⟨⟨a1, a2, a3⟩, ⟨b1, b2, b3⟩, ⟨c1, c2⟩, ⟨d1, d2⟩⟩ := h
  exact ⟨⟨(f.2.1 3 (by decide)).trans a1, a2, a3⟩, ⟨(f.2.1 4 (by decide)).trans b1, b2, b3⟩, ⟨BX_f c1 (fun j => f.2.2 _ _ (by omega)) (fun j => f.2.2 _ _ (by omega)), c2⟩, ⟨BX_f d1 (fun j => f.2.2 _ _ (by omega)) (fun j => f.2.2 _ _ (by omega)), d2⟩⟩
section HAND
variable {e : tE} {d n : Nat} {M : tM}
/-- aiming -/
theorem v_aim {x y : Nat} {X Y : Int × Int} (h1 : cl x 4 ∧ (x + 2 < 77 ∨ 496 < x)) (h2 : cl y 4 ∧ (y + 2 < 77 ∨ 496 < y)) (hX : BX M x X.1 X.2 ∧ GBX X) (hY : BX M y Y.1 Y.2 ∧ GBX Y) (hK : KW M) (hC : CI M) : tC e d 2050 [.inr (.inr (.inl 77)), .inr (.inr (.inl x)), .inr (.inr (.inl y))] M n (tQn n (fun M' => AIM M' x y X Y ∧ KA M M' ∧ (∀ (k : Nat) (i : Int), k ≠ 77 → M' k i = M k i))) := by
  refine tC_mono (z_aim (b := 0) h1.1 h2.1 (by decide) hC) ?_
  rintro v M' n' ⟨q1, rfl, ⟨a1, a2, a3⟩, a4, a5⟩
  have o1 := h1.2
  have o2 := h2.2
  exact ⟨q1, rfl, ⟨⟨a1, h1⟩, ⟨a2, h2⟩, ⟨BX_f hX.1 (fun j => a5 _ _ (by omega)) (fun j => a5 _ _ (by omega)), hX.2⟩, ⟨BX_f hY.1 (fun j => a5 _ _ (by omega)) (fun j => a5 _ _ (by omega)), hY.2⟩⟩, KA_f hK a4.1 a4.2 (RO_u hK.1.1.2 (a5 79 4 (by decide)) (a5 79 5 (by decide))) (fun k i g => a5 k i (by unfold KPC at g; omega)), a5⟩
/-- a value -/
theorem v_mkV {r x y : Nat} {X Y : Int × Int} (hr : FMC r) (h6 : M r 6 = 1) (hA : AIM M x y X Y) (he : EVr e) (hK : KW M) (hC : CI M) (hd : 8 ≤ d) : tC e d 2058 [.inr (.inr (.inl 77)), .inr (.inr (.inl r))] M n (tQi n (fun z M' => (0 ≤ z ∧ z ≤ 2) ∧ KA M M' ∧ MKF 0 M M' ∧ (z = 0 → ∃ B' : Nat → Int × Int, SK M' 1 B' ∧ ∃ c : Nat, WFF M r c ∧ EVS (M 78 5) X Y M r c 1 B'))) := by
  obtain ⟨c, hc⟩ := hK.1.2.2 r hr h6
  refine tC_mono (z_makeValue (b := 0) hr hc hA.1 hA.2.1 hA.2.2.1 hA.2.2.2 (KU hK hC) he hK.1.1.2 (by decide) hC hd) ?_
  rintro v M' n' ⟨z, q1, rfl, f1, f2, f3, f4⟩
  exact ⟨z, q1, rfl, f1, KA_m hK f3 f4, f4, fun q => by
    obtain ⟨B', g1, g2⟩ := f2 q
    exact ⟨B', g2, c, hc, g1⟩⟩
theorem tsh_590 : tsh 590 = 9 := by rw [tsh_def]; decide +kernel
theorem tsh_620 : tsh 620 = 9 := by rw [tsh_def]; decide +kernel
theorem v_canBeZero {r x y : Nat} {X Y : Int × Int} (hr : FMC r) (h6 : M r 6 = 1) (hA : AIM M x y X Y) (he : EVr e) (hK : KW M) (hC : CI M) (hd : 9 ≤ d) : tC e d 3333 [.inr (.inr (.inl 0)), .inr (.inr (.inl r))] M n (tQi n (fun z M' => (0 ≤ z ∧ z ≤ 1) ∧ KA M M' ∧ MKF 0 M M')) := by
  have sr := (FM_of hr).1
  refine tst_X11_canBeZero ?_
  have n29 : ∀ (M1 : tM) (z : Int), (0 ≤ z ∧ z ≤ 1) → KA M M1 → MKF 0 M M1 → tT e d 3333 29 [some (.inr (.inr (.inl (0)))), some (.inr (.inr (.inl (r))))] [.inl z] M1 n (tQi n (fun z M' => (0 ≤ z ∧ z ≤ 1) ∧ KA M M' ∧ MKF 0 M M')) := by
    intro M1 z hz k1 f1
    refine tb_X11_canBeZero_29 (c := true) ?_
    simp only [kb_X11_canBeZero_29, w_ire, trg, w64_r, true_and, and_true, Nat.reduceAdd, Nat.reduceSub, eq_self]
    exact ⟨by omega, _, rfl, rfl, hz, k1, f1⟩
  have n24 : ∀ (M1 : tM), KA M M1 → MKF 0 M M1 → tT e d 3333 24 [some (.inr (.inr (.inl (0)))), some (.inr (.inr (.inl (r))))] [] M1 n (tQi n (fun z M' => (0 ≤ z ∧ z ≤ 1) ∧ KA M M' ∧ MKF 0 M M')) := by
    intro M1 k1 f1
    refine tb_X11_canBeZero_24 (c := true) ?_
    simp only [kb_X11_canBeZero_24, w_ic, w_goto, w64_r, true_and, and_true, Nat.reduceAdd, Nat.reduceSub, eq_self]
    exact n29 M1 1 (by decide) k1 f1
  have n28 : ∀ (M1 : tM), KA M M1 → MKF 0 M M1 → tT e d 3333 28 [some (.inr (.inr (.inl (0)))), some (.inr (.inr (.inl (r))))] [] M1 n (tQi n (fun z M' => (0 ≤ z ∧ z ≤ 1) ∧ KA M M' ∧ MKF 0 M M')) := by
    intro M1 k1 f1
    refine tb_X11_canBeZero_28 (c := true) ?_
    simp only [kb_X11_canBeZero_28, w_ic, w_nil, w64_r, true_and, and_true, Nat.reduceAdd, Nat.reduceSub, eq_self]
    exact n29 M1 0 (by decide) k1 f1
  refine tb_X11_canBeZero_0 (c := true) ?_
  simp only [kb_X11_canBeZero_0, w_ald_0, w_gf_13_4, tw_t, w_ald_1, w_iv1, tfr_0, tfr_1, tfr_2, tfr_3, tfr_4, w_if_ne, w_iv0, w_if_eq, w_nil, w64_r, true_and, and_true, Nat.reduceAdd, Nat.reduceSub, eq_self, tsh_0, tyk_13, tsh_77, tyk_8, tcq_8, tsh_5, tyk_11, tcq_13, tcq_11, tyk_4, tcq_4, tsh_113, tsh_650, tsh_499, tyk_27, tel_5, tyk_7, tcq_7, tsh_590, tsh_620, tyk_9, tcq_9, sr]
  refine tc_i (D := 8) (fun d' hd' => v_mkV hr h6 hA he hK hC hd') (by omega) ?_
  rintro z M1 ⟨hz, k1, f1, g1⟩
  try simp only [kb_X11_canBeZero_0, w_ald_0, w_gf_13_4, tw_t, w_ald_1, w_iv1, tfr_0, tfr_1, tfr_2, tfr_3, tfr_4, w_if_ne, w_iv0, w_if_eq, w_nil, w64_r, true_and, and_true, Nat.reduceAdd, Nat.reduceSub, eq_self, tsh_0, tyk_13, tsh_77, tyk_8, tcq_8, tsh_5, tyk_11, tcq_13, tcq_11, tyk_4, tcq_4, tsh_113, tsh_650, tsh_499, tyk_27, tel_5, tyk_7, tcq_7, tsh_590, tsh_620, tyk_9, tcq_9, sr]
  repeat refine And.intro (by omega) ?_
  refine ⟨fun _ => n24 M1 k1 f1, fun q => ?_⟩
  obtain ⟨B, hB, -⟩ := g1 (by omega)
  obtain ⟨s1, s2⟩ := hB.2 0 (by decide)
  refine tc_r (D := 1) (fun d' hd' => z_result hB.1 hd') (by omega) ?_
  rintro y2 M2 ⟨rfl, rfl⟩
  try simp only [kb_X11_canBeZero_0, w_ald_0, w_gf_13_4, tw_t, w_ald_1, w_iv1, tfr_0, tfr_1, tfr_2, tfr_3, tfr_4, w_if_ne, w_iv0, w_if_eq, w_nil, w64_r, true_and, and_true, Nat.reduceAdd, Nat.reduceSub, eq_self, tsh_0, tyk_13, tsh_77, tyk_8, tcq_8, tsh_5, tyk_11, tcq_13, tcq_11, tyk_4, tcq_4, tsh_113, tsh_650, tsh_499, tyk_27, tel_5, tyk_7, tcq_7, tsh_590, tsh_620, tyk_9, tcq_9, sr]
  refine tc_i (D := 1) (fun d' hd' => z_holdsZero cl_113 s1 (NF_r s2.1.1) (NF_r s2.1.2) hd') (by omega) ?_
  rintro w M3 ⟨hw, rfl⟩
  try simp only [kb_X11_canBeZero_0, w_ald_0, w_gf_13_4, tw_t, w_ald_1, w_iv1, tfr_0, tfr_1, tfr_2, tfr_3, tfr_4, w_if_ne, w_iv0, w_if_eq, w_nil, w64_r, true_and, and_true, Nat.reduceAdd, Nat.reduceSub, eq_self, tsh_0, tyk_13, tsh_77, tyk_8, tcq_8, tsh_5, tyk_11, tcq_13, tcq_11, tyk_4, tcq_4, tsh_113, tsh_650, tsh_499, tyk_27, tel_5, tyk_7, tcq_7, tsh_590, tsh_620, tyk_9, tcq_9, sr]
  repeat refine And.intro (by omega) ?_
  exact ⟨fun _ => n28 M3 k1 f1, fun _ => n24 M3 k1 f1⟩
theorem PCG_m {P c : Nat} {M M1 : tM} (hP : PCS P) (h : PCG M P c) (f : ∀ (k : Nat) (i : Int), 496 < k → M1 k i = M k i) : PCG M1 P c := PCG_u h (f _ _ (by unfold PCS at hP; omega)) (fun k i a _ => f k i (by unfold PCS at hP; omega))
theorem v_pairs {x1 x2 x3 x4 x5 : Int} (h1 : (-2147483648 ≤ x1 ∧ x1 ≤ 2147483647)) (h2 : (-2147483648 ≤ x2 ∧ x2 ≤ 2147483647)) (h3 : (-2147483648 ≤ x3 ∧ x3 ≤ 2147483647)) (h4 : (-2147483648 ≤ x4 ∧ x4 ≤ 2147483647)) (h5 : (-2147483648 ≤ x5 ∧ x5 ≤ 2147483647)) (he : EVr e) (hK : KW M) (hC : CI M) (hd : 10 ≤ d) : tC e d 3378 [.inr (.inr (.inl 0)), .inl x1, .inl x2, .inl x3, .inl x4, .inl x5] M n (tQx n (tQi n (fun z M' => (-2147483648 ≤ z ∧ z ≤ 2147483647) ∧ KA M M')) (fun _ M' => KA M M')) := by
  refine tst_X11_pairs ?_
  refine tb_X11_pairs_0 (c := true) ?_
  simp only [kb_X11_pairs_0, w_ald_0, w_ild_3, w_iv1, tfr_0, tfr_1, tfr_2, tfr_3, tfr_4, w_ild4, w_ild_1, w_ild_2, w_ild5, w_ic, w_iv2, w_gf_13_9, tw_t, w_gf_13_3, w_gf_13_4, w_iv0, w_iv3, w_gf_13_10, w_ist6, tkl_n, tkl_i, tkl_l, tkl_r, w_ist7, w_nil, w64_r, true_and, and_true, Nat.reduceAdd, Nat.reduceSub, eq_self, tsh_0, tyk_13, tsh_77, tyk_8, tcq_8, tsh_5, tyk_11, tcq_13, tcq_11, tyk_4, tcq_4, tsh_113, tsh_650, tsh_499, tyk_27, tel_5, tyk_7, tcq_7, tsh_590, tsh_620, tyk_9, tcq_9]
  refine tz_xn (D := 0) (fun d' hd' => k_X11_checkShelf cl_0 h3 hd') hC (by omega) rfl ?_ (fun s q => Or.inr ⟨_, rfl, rfl, KA_refl hC hK⟩)
  intro a3
  try simp only [kb_X11_pairs_0, w_ald_0, w_ild_3, w_iv1, tfr_0, tfr_1, tfr_2, tfr_3, tfr_4, w_ild4, w_ild_1, w_ild_2, w_ild5, w_ic, w_iv2, w_gf_13_9, tw_t, w_gf_13_3, w_gf_13_4, w_iv0, w_iv3, w_gf_13_10, w_ist6, tkl_n, tkl_i, tkl_l, tkl_r, w_ist7, w_nil, w64_r, true_and, and_true, Nat.reduceAdd, Nat.reduceSub, eq_self, tsh_0, tyk_13, tsh_77, tyk_8, tcq_8, tsh_5, tyk_11, tcq_13, tcq_11, tyk_4, tcq_4, tsh_113, tsh_650, tsh_499, tyk_27, tel_5, tyk_7, tcq_7, tsh_590, tsh_620, tyk_9, tcq_9]
  refine tz_xn (D := 0) (fun d' hd' => k_X11_checkShelf cl_0 h4 hd') hC (by omega) rfl ?_ (fun s q => Or.inr ⟨_, rfl, rfl, KA_refl hC hK⟩)
  intro a4
  try simp only [kb_X11_pairs_0, w_ald_0, w_ild_3, w_iv1, tfr_0, tfr_1, tfr_2, tfr_3, tfr_4, w_ild4, w_ild_1, w_ild_2, w_ild5, w_ic, w_iv2, w_gf_13_9, tw_t, w_gf_13_3, w_gf_13_4, w_iv0, w_iv3, w_gf_13_10, w_ist6, tkl_n, tkl_i, tkl_l, tkl_r, w_ist7, w_nil, w64_r, true_and, and_true, Nat.reduceAdd, Nat.reduceSub, eq_self, tsh_0, tyk_13, tsh_77, tyk_8, tcq_8, tsh_5, tyk_11, tcq_13, tcq_11, tyk_4, tcq_4, tsh_113, tsh_650, tsh_499, tyk_27, tel_5, tyk_7, tcq_7, tsh_590, tsh_620, tyk_9, tcq_9]
  refine tz_xn (D := 0) (fun d' hd' => k_X11_checkFormula cl_0 h1 hd') hC (by omega) rfl ?_ (fun s q => Or.inr ⟨_, rfl, rfl, KA_refl hC hK⟩)
  intro a1
  try simp only [kb_X11_pairs_0, w_ald_0, w_ild_3, w_iv1, tfr_0, tfr_1, tfr_2, tfr_3, tfr_4, w_ild4, w_ild_1, w_ild_2, w_ild5, w_ic, w_iv2, w_gf_13_9, tw_t, w_gf_13_3, w_gf_13_4, w_iv0, w_iv3, w_gf_13_10, w_ist6, tkl_n, tkl_i, tkl_l, tkl_r, w_ist7, w_nil, w64_r, true_and, and_true, Nat.reduceAdd, Nat.reduceSub, eq_self, tsh_0, tyk_13, tsh_77, tyk_8, tcq_8, tsh_5, tyk_11, tcq_13, tcq_11, tyk_4, tcq_4, tsh_113, tsh_650, tsh_499, tyk_27, tel_5, tyk_7, tcq_7, tsh_590, tsh_620, tyk_9, tcq_9]
  refine tz_xn (D := 0) (fun d' hd' => k_X11_checkFormula cl_0 h2 hd') hC (by omega) rfl ?_ (fun s q => Or.inr ⟨_, rfl, rfl, KA_refl hC hK⟩)
  intro a2
  try simp only [kb_X11_pairs_0, w_ald_0, w_ild_3, w_iv1, tfr_0, tfr_1, tfr_2, tfr_3, tfr_4, w_ild4, w_ild_1, w_ild_2, w_ild5, w_ic, w_iv2, w_gf_13_9, tw_t, w_gf_13_3, w_gf_13_4, w_iv0, w_iv3, w_gf_13_10, w_ist6, tkl_n, tkl_i, tkl_l, tkl_r, w_ist7, w_nil, w64_r, true_and, and_true, Nat.reduceAdd, Nat.reduceSub, eq_self, tsh_0, tyk_13, tsh_77, tyk_8, tcq_8, tsh_5, tyk_11, tcq_13, tcq_11, tyk_4, tcq_4, tsh_113, tsh_650, tsh_499, tyk_27, tel_5, tyk_7, tcq_7, tsh_590, tsh_620, tyk_9, tcq_9]
  refine tz_xn (D := 0) (fun d' hd' => k_X11_checkCuts cl_0 h5 (by decide) hd') hC (by omega) rfl ?_ (fun s q => Or.inr ⟨_, rfl, rfl, KA_refl hC hK⟩)
  intro a5
  try simp only [kb_X11_pairs_0, w_ald_0, w_ild_3, w_iv1, tfr_0, tfr_1, tfr_2, tfr_3, tfr_4, w_ild4, w_ild_1, w_ild_2, w_ild5, w_ic, w_iv2, w_gf_13_9, tw_t, w_gf_13_3, w_gf_13_4, w_iv0, w_iv3, w_gf_13_10, w_ist6, tkl_n, tkl_i, tkl_l, tkl_r, w_ist7, w_nil, w64_r, true_and, and_true, Nat.reduceAdd, Nat.reduceSub, eq_self, tsh_0, tyk_13, tsh_77, tyk_8, tcq_8, tsh_5, tyk_11, tcq_13, tcq_11, tyk_4, tcq_4, tsh_113, tsh_650, tsh_499, tyk_27, tel_5, tyk_7, tcq_7, tsh_590, tsh_620, tyk_9, tcq_9]
  refine tc_xn (D := 0) (fun d' hd' => x_cdef a1 hC) (by omega) rfl ?_ (fun s M' q => Or.inr ⟨_, rfl, rfl, by rw [q]; exact KA_refl hC hK⟩)
  rintro M1 ⟨b1, rfl⟩
  try simp only [kb_X11_pairs_0, w_ald_0, w_ild_3, w_iv1, tfr_0, tfr_1, tfr_2, tfr_3, tfr_4, w_ild4, w_ild_1, w_ild_2, w_ild5, w_ic, w_iv2, w_gf_13_9, tw_t, w_gf_13_3, w_gf_13_4, w_iv0, w_iv3, w_gf_13_10, w_ist6, tkl_n, tkl_i, tkl_l, tkl_r, w_ist7, w_nil, w64_r, true_and, and_true, Nat.reduceAdd, Nat.reduceSub, eq_self, tsh_0, tyk_13, tsh_77, tyk_8, tcq_8, tsh_5, tyk_11, tcq_13, tcq_11, tyk_4, tcq_4, tsh_113, tsh_650, tsh_499, tyk_27, tel_5, tyk_7, tcq_7, tsh_590, tsh_620, tyk_9, tcq_9]
  refine tc_xn (D := 0) (fun d' hd' => x_cdef a2 hC) (by omega) rfl ?_ (fun s M' q => Or.inr ⟨_, rfl, rfl, by rw [q]; exact KA_refl hC hK⟩)
  rintro M2 ⟨b2, rfl⟩
  try simp only [kb_X11_pairs_0, w_ald_0, w_ild_3, w_iv1, tfr_0, tfr_1, tfr_2, tfr_3, tfr_4, w_ild4, w_ild_1, w_ild_2, w_ild5, w_ic, w_iv2, w_gf_13_9, tw_t, w_gf_13_3, w_gf_13_4, w_iv0, w_iv3, w_gf_13_10, w_ist6, tkl_n, tkl_i, tkl_l, tkl_r, w_ist7, w_nil, w64_r, true_and, and_true, Nat.reduceAdd, Nat.reduceSub, eq_self, tsh_0, tyk_13, tsh_77, tyk_8, tcq_8, tsh_5, tyk_11, tcq_13, tcq_11, tyk_4, tcq_4, tsh_113, tsh_650, tsh_499, tyk_27, tel_5, tyk_7, tcq_7, tsh_590, tsh_620, tyk_9, tcq_9]
  refine tz_xn (D := 2) (fun d' hd' => k_X11_checkHeld cl_0 h3 hd') hC (by omega) rfl ?_ (fun s q => Or.inr ⟨_, rfl, rfl, KA_refl hC hK⟩)
  intro _
  try simp only [kb_X11_pairs_0, w_ald_0, w_ild_3, w_iv1, tfr_0, tfr_1, tfr_2, tfr_3, tfr_4, w_ild4, w_ild_1, w_ild_2, w_ild5, w_ic, w_iv2, w_gf_13_9, tw_t, w_gf_13_3, w_gf_13_4, w_iv0, w_iv3, w_gf_13_10, w_ist6, tkl_n, tkl_i, tkl_l, tkl_r, w_ist7, w_nil, w64_r, true_and, and_true, Nat.reduceAdd, Nat.reduceSub, eq_self, tsh_0, tyk_13, tsh_77, tyk_8, tcq_8, tsh_5, tyk_11, tcq_13, tcq_11, tyk_4, tcq_4, tsh_113, tsh_650, tsh_499, tyk_27, tel_5, tyk_7, tcq_7, tsh_590, tsh_620, tyk_9, tcq_9]
  refine tz_xn (D := 2) (fun d' hd' => k_X11_checkHeld cl_0 h4 hd') hC (by omega) rfl ?_ (fun s q => Or.inr ⟨_, rfl, rfl, KA_refl hC hK⟩)
  intro _
  obtain ⟨i, rfl⟩ : ∃ k : Nat, x3 = (k : Int) := ⟨x3.toNat, by omega⟩
  obtain ⟨j, rfl⟩ : ∃ k : Nat, x4 = (k : Int) := ⟨x4.toNat, by omega⟩
  obtain ⟨q5, rfl⟩ : ∃ k : Nat, x5 = (k : Int) := ⟨x5.toNat, by omega⟩
  have hfa := fm_cl hC a1
  have hfb := fm_cl hC a2
  have fa := FM_cl hfa
  have fb := FM_cl hfb
  have sfa := hfa.1
  have sfb := hfb.1
  have ra : 499 < (M2 499 x1).toNat ∧ (M2 499 x1).toNat + 6 < 531 := by unfold FMC at fa; omega
  have rb : 499 < (M2 499 x2).toNat ∧ (M2 499 x2).toNat + 6 < 531 := by unfold FMC at fb; omega
  have ci := (cl_sh (s := i) (by omega)).1
  have cj := (cl_sh (s := j) (by omega)).1
  have hu := KU hK hC
  have hu1 := hu.1
  try simp only [kb_X11_pairs_0, w_ald_0, w_ild_3, w_iv1, tfr_0, tfr_1, tfr_2, tfr_3, tfr_4, w_ild4, w_ild_1, w_ild_2, w_ild5, w_ic, w_iv2, w_gf_13_9, tw_t, w_gf_13_3, w_gf_13_4, w_iv0, w_iv3, w_gf_13_10, w_ist6, tkl_n, tkl_i, tkl_l, tkl_r, w_ist7, w_nil, w64_r, true_and, and_true, Nat.reduceAdd, Nat.reduceSub, eq_self, tsh_0, tyk_13, tsh_77, tyk_8, tcq_8, tsh_5, tyk_11, tcq_13, tcq_11, tyk_4, tcq_4, tsh_113, tsh_650, tsh_499, tyk_27, tel_5, tyk_7, tcq_7, tsh_590, tsh_620, tyk_9, tcq_9]
  refine tc_r (D := 1) (fun d' hd' => z_box (s := i) (by omega) hd') (by omega) ?_
  rintro y M3 ⟨rfl, rfl⟩
  try simp only [kb_X11_pairs_0, w_ald_0, w_ild_3, w_iv1, tfr_0, tfr_1, tfr_2, tfr_3, tfr_4, w_ild4, w_ild_1, w_ild_2, w_ild5, w_ic, w_iv2, w_gf_13_9, tw_t, w_gf_13_3, w_gf_13_4, w_iv0, w_iv3, w_gf_13_10, w_ist6, tkl_n, tkl_i, tkl_l, tkl_r, w_ist7, w_nil, w64_r, true_and, and_true, Nat.reduceAdd, Nat.reduceSub, eq_self, tsh_0, tyk_13, tsh_77, tyk_8, tcq_8, tsh_5, tyk_11, tcq_13, tcq_11, tyk_4, tcq_4, tsh_113, tsh_650, tsh_499, tyk_27, tel_5, tyk_7, tcq_7, tsh_590, tsh_620, tyk_9, tcq_9, ci, cj]
  refine tc_l (D := 0) (fun d' hd' => z_unit) (by omega) ?_
  rintro u M4 ⟨rfl, rfl⟩
  try simp only [kb_X11_pairs_0, w_ald_0, w_ild_3, w_iv1, tfr_0, tfr_1, tfr_2, tfr_3, tfr_4, w_ild4, w_ild_1, w_ild_2, w_ild5, w_ic, w_iv2, w_gf_13_9, tw_t, w_gf_13_3, w_gf_13_4, w_iv0, w_iv3, w_gf_13_10, w_ist6, tkl_n, tkl_i, tkl_l, tkl_r, w_ist7, w_nil, w64_r, true_and, and_true, Nat.reduceAdd, Nat.reduceSub, eq_self, tsh_0, tyk_13, tsh_77, tyk_8, tcq_8, tsh_5, tyk_11, tcq_13, tcq_11, tyk_4, tcq_4, tsh_113, tsh_650, tsh_499, tyk_27, tel_5, tyk_7, tcq_7, tsh_590, tsh_620, tyk_9, tcq_9, ci, cj]
  repeat refine And.intro (by omega) ?_
  obtain ⟨v, v1⟩ := hK.1.2.1 i (by omega)
  refine tc_n (D := 3) (fun d' hd' => z_cut (P := 590) (Or.inl rfl) (cl_sh (by omega)) v1 (by omega) hu hK hC hd') (by omega) ?_
  rintro M5 ⟨⟨ca, ca1, ca2⟩, f5⟩
  have k5 := KA_pf (Or.inl rfl) hK f5
  try simp only [kb_X11_pairs_0, w_ald_0, w_ild_3, w_iv1, tfr_0, tfr_1, tfr_2, tfr_3, tfr_4, w_ild4, w_ild_1, w_ild_2, w_ild5, w_ic, w_iv2, w_gf_13_9, tw_t, w_gf_13_3, w_gf_13_4, w_iv0, w_iv3, w_gf_13_10, w_ist6, tkl_n, tkl_i, tkl_l, tkl_r, w_ist7, w_nil, w64_r, true_and, and_true, Nat.reduceAdd, Nat.reduceSub, eq_self, tsh_0, tyk_13, tsh_77, tyk_8, tcq_8, tsh_5, tyk_11, tcq_13, tcq_11, tyk_4, tcq_4, tsh_113, tsh_650, tsh_499, tyk_27, tel_5, tyk_7, tcq_7, tsh_590, tsh_620, tyk_9, tcq_9, ci, cj]
  refine tc_r (D := 1) (fun d' hd' => z_box (s := j) (by omega) hd') (by omega) ?_
  rintro y M6 ⟨rfl, rfl⟩
  try simp only [kb_X11_pairs_0, w_ald_0, w_ild_3, w_iv1, tfr_0, tfr_1, tfr_2, tfr_3, tfr_4, w_ild4, w_ild_1, w_ild_2, w_ild5, w_ic, w_iv2, w_gf_13_9, tw_t, w_gf_13_3, w_gf_13_4, w_iv0, w_iv3, w_gf_13_10, w_ist6, tkl_n, tkl_i, tkl_l, tkl_r, w_ist7, w_nil, w64_r, true_and, and_true, Nat.reduceAdd, Nat.reduceSub, eq_self, tsh_0, tyk_13, tsh_77, tyk_8, tcq_8, tsh_5, tyk_11, tcq_13, tcq_11, tyk_4, tcq_4, tsh_113, tsh_650, tsh_499, tyk_27, tel_5, tyk_7, tcq_7, tsh_590, tsh_620, tyk_9, tcq_9, ci, cj]
  refine tc_l (D := 0) (fun d' hd' => z_unit) (by omega) ?_
  rintro u M7 ⟨rfl, rfl⟩
  have hu2 := KU k5.2 k5.1.1
  have hu3 := hu2.1
  try simp only [kb_X11_pairs_0, w_ald_0, w_ild_3, w_iv1, tfr_0, tfr_1, tfr_2, tfr_3, tfr_4, w_ild4, w_ild_1, w_ild_2, w_ild5, w_ic, w_iv2, w_gf_13_9, tw_t, w_gf_13_3, w_gf_13_4, w_iv0, w_iv3, w_gf_13_10, w_ist6, tkl_n, tkl_i, tkl_l, tkl_r, w_ist7, w_nil, w64_r, true_and, and_true, Nat.reduceAdd, Nat.reduceSub, eq_self, tsh_0, tyk_13, tsh_77, tyk_8, tcq_8, tsh_5, tyk_11, tcq_13, tcq_11, tyk_4, tcq_4, tsh_113, tsh_650, tsh_499, tyk_27, tel_5, tyk_7, tcq_7, tsh_590, tsh_620, tyk_9, tcq_9, ci, cj]
  repeat refine And.intro (by omega) ?_
  obtain ⟨w, w1⟩ := k5.2.1.2.1 j (by omega)
  refine tc_n (D := 3) (fun d' hd' => z_cut (P := 620) (Or.inr rfl) (cl_sh (by omega)) w1 (by omega) hu2 k5.2 k5.1.1 hd') (by omega) ?_
  rintro M8 ⟨⟨cb, cb1, cb2⟩, f8⟩
  have k8 : KA M4 M8 := KA_tr k5.1.2 (KA_pf (Or.inr rfl) k5.2 f8)
  have ca3 : PCG M8 590 ca := PCG_u ca2 (f8.2 _ _ (by omega)) (fun k i a b => f8.2 k i (by omega))
  have ff : ∀ (k : Nat) (i : Int), (499 ≤ k ∧ k < 590) → M8 k i = M4 k i := fun k i g => (f8.2 k i (by omega)).trans (f5.2 k i (by omega))
  try simp only [kb_X11_pairs_0, w_ald_0, w_ild_3, w_iv1, tfr_0, tfr_1, tfr_2, tfr_3, tfr_4, w_ild4, w_ild_1, w_ild_2, w_ild5, w_ic, w_iv2, w_gf_13_9, tw_t, w_gf_13_3, w_gf_13_4, w_iv0, w_iv3, w_gf_13_10, w_ist6, tkl_n, tkl_i, tkl_l, tkl_r, w_ist7, w_nil, w64_r, true_and, and_true, Nat.reduceAdd, Nat.reduceSub, eq_self, tsh_0, tyk_13, tsh_77, tyk_8, tcq_8, tsh_5, tyk_11, tcq_13, tcq_11, tyk_4, tcq_4, tsh_113, tsh_650, tsh_499, tyk_27, tel_5, tyk_7, tcq_7, tsh_590, tsh_620, tyk_9, tcq_9, ci, cj]
  have l8a := ca3.1.2
  have l8b := cb2.1.2
  -- the loops
  have no : ∀ (fu : Nat) (N : tM) (p : Nat) (cnt : Int) (w8 : Option tV), ca - p = fu → p ≤ ca → (0 ≤ cnt ∧ cnt ≤ 8 * (p : Int)) → KA M4 N → PCG N 590 ca → PCG N 620 cb → (∀ (k : Nat) (i : Int), (499 ≤ k ∧ k < 590) → N k i = M4 k i) → tT e d 3378 104 [some (.inr (.inr (.inl (0)))), some (.inl (x1)), some (.inl (x2)), some (.inl ((i : Int))), some (.inl ((j : Int))), some (.inl ((q5 : Int))), some (.inl (cnt)), some (.inl ((p : Int))), w8] [] N n (tQx n (tQi n (fun z M' => (-2147483648 ≤ z ∧ z ≤ 2147483647) ∧ KA M4 M')) (fun _ M' => KA M4 M')) := by
    intro fu
    induction fu with
    | zero =>
      intro N p cnt w8 hf hp hc kN pa pb fN
      have t1 := pa.1.1
      refine tb_X11_pairs_104 (c := true) ?_
      simp only [kb_X11_pairs_104, w_ild7, w_ald_0, w_gf_13_9, tw_t, w_gf_9_3, w_ic_ge, w_ic, w_ist8, tkl_n, tkl_i, tkl_l, tkl_r, w_nil, w64_r, true_and, and_true, Nat.reduceAdd, Nat.reduceSub, eq_self, tsh_0, tyk_13, tsh_77, tyk_8, tcq_8, tsh_5, tyk_11, tcq_13, tcq_11, tyk_4, tcq_4, tsh_113, tsh_650, tsh_499, tyk_27, tel_5, tyk_7, tcq_7, tsh_590, tsh_620, tyk_9, tcq_9]
      rw [t1]
      repeat refine And.intro (by omega) ?_
      refine ⟨fun _ => ?_, fun q => absurd (by omega) q⟩
      refine tb_X11_pairs_197 (c := true) ?_
      simp only [kb_X11_pairs_197, w_ild6, w_ire, trg, w64_r, true_and, and_true, Nat.reduceAdd, Nat.reduceSub, eq_self]
      exact Or.inl ⟨_, rfl, rfl, by omega, kN⟩
    | succ fu ih =>
      intro N p cnt w8 hf hp hc kN pa pb fN
      have nj : ∀ (fv : Nat) (N2 : tM) (q : Nat) (ct2 : Int), cb - q = fv → q ≤ cb → (0 ≤ ct2 ∧ ct2 ≤ 8 * (p : Int) + (q : Int)) → KA M4 N2 → PCG N2 590 ca → PCG N2 620 cb → (∀ (k : Nat) (i : Int), (499 ≤ k ∧ k < 590) → N2 k i = M4 k i) → tT e d 3378 119 [some (.inr (.inr (.inl (0)))), some (.inl (x1)), some (.inl (x2)), some (.inl ((i : Int))), some (.inl ((j : Int))), some (.inl ((q5 : Int))), some (.inl (ct2)), some (.inl ((p : Int))), some (.inl ((q : Int)))] [] N2 n (tQx n (tQi n (fun z M' => (-2147483648 ≤ z ∧ z ≤ 2147483647) ∧ KA M4 M')) (fun _ M' => KA M4 M')) := by
        intro fv
        induction fv with
        | zero =>
          intro N2 q ct2 hg hq hc2 kN2 pa2 pb2 fN2
          have t2 := pb2.1.1
          refine tb_X11_pairs_119 (c := true) ?_
          simp only [kb_X11_pairs_119, w_ild8, w_ald_0, w_gf_13_10, tw_t, w_gf_9_3, w_ic_ge, w_gf_13_4, w_gf_13_9, w_ild7, w_iv1, tfr_0, tfr_1, tfr_2, tfr_3, tfr_4, w_iv2, w_gf_13_5, w_ild_1, w_aa, w_if_eq, w_ild_2, w_inc6, tkl_n, tkl_i, tkl_l, tkl_r, w_nil, w64_r, true_and, and_true, Nat.reduceAdd, Nat.reduceSub, eq_self, tsh_0, tyk_13, tsh_77, tyk_8, tcq_8, tsh_5, tyk_11, tcq_13, tcq_11, tyk_4, tcq_4, tsh_113, tsh_650, tsh_499, tyk_27, tel_5, tyk_7, tcq_7, tsh_590, tsh_620, tyk_9, tcq_9]
          rw [t2]
          repeat refine And.intro (by omega) ?_
          refine ⟨fun _ => ?_, fun g => absurd (by omega) g⟩
          refine tb_X11_pairs_191 (c := true) ?_
          simp only [kb_X11_pairs_191, w_inc7, tkl_n, tkl_i, tkl_l, tkl_r, w_goto, w64_r, true_and, and_true, Nat.reduceAdd, Nat.reduceSub, eq_self]
          repeat refine And.intro (by omega) ?_
          rw [show ((p : Nat) : Int) + 1 = ((p + 1 : Nat) : Int) by omega]
          exact ih N2 (p + 1) ct2 _ (by omega) (by omega) (by omega) kN2 pa2 pb2 fN2
        | succ fv ih2 =>
          intro N2 q ct2 hg hq hc2 kN2 pa2 pb2 fN2
          have t2 := pb2.1.1
          have n185 : ∀ (N3 : tM) (ct3 : Int), (0 ≤ ct3 ∧ ct3 ≤ 8 * (p : Int) + (q : Int) + 1) → KA M4 N3 → PCG N3 590 ca → PCG N3 620 cb → (∀ (k : Nat) (i : Int), (499 ≤ k ∧ k < 590) → N3 k i = M4 k i) → tT e d 3378 185 [some (.inr (.inr (.inl (0)))), some (.inl (x1)), some (.inl (x2)), some (.inl ((i : Int))), some (.inl ((j : Int))), some (.inl ((q5 : Int))), some (.inl (ct3)), some (.inl ((p : Int))), some (.inl ((q : Int)))] [] N3 n (tQx n (tQi n (fun z M' => (-2147483648 ≤ z ∧ z ≤ 2147483647) ∧ KA M4 M')) (fun _ M' => KA M4 M')) := by
            intro N3 ct3 hc3 kN3 pa3 pb3 fN3
            refine tb_X11_pairs_185 (c := true) ?_
            simp only [kb_X11_pairs_185, w_inc8, tkl_n, tkl_i, tkl_l, tkl_r, w_goto, w64_r, true_and, and_true, Nat.reduceAdd, Nat.reduceSub, eq_self]
            repeat refine And.intro (by omega) ?_
            rw [show ((q : Nat) : Int) + 1 = ((q + 1 : Nat) : Int) by omega]
            exact ih2 N3 (q + 1) ct3 (by omega) (by omega) (by omega) kN3 pa3 pb3 fN3
          have cka := cl_pc (P := 590) (i := p) (Or.inr (Or.inr (Or.inl rfl))) (by omega)
          have ckb := cl_pc (P := 620) (i := q) (Or.inr (Or.inr (Or.inr rfl))) (by omega)
          have ksa := cka.1
          have ksb := ckb.1
          obtain ⟨va, va1⟩ := pa2.2 p (by omega)
          obtain ⟨vb, vb1⟩ := pb2.2 q (by omega)
          refine tb_X11_pairs_119 (c := true) ?_
          simp only [kb_X11_pairs_119, w_ild8, w_ald_0, w_gf_13_10, tw_t, w_gf_9_3, w_ic_ge, w_gf_13_4, w_gf_13_9, w_ild7, w_iv1, tfr_0, tfr_1, tfr_2, tfr_3, tfr_4, w_iv2, w_gf_13_5, w_ild_1, w_aa, w_if_eq, w_ild_2, w_inc6, tkl_n, tkl_i, tkl_l, tkl_r, w_nil, w64_r, true_and, and_true, Nat.reduceAdd, Nat.reduceSub, eq_self, tsh_0, tyk_13, tsh_77, tyk_8, tcq_8, tsh_5, tyk_11, tcq_13, tcq_11, tyk_4, tcq_4, tsh_113, tsh_650, tsh_499, tyk_27, tel_5, tyk_7, tcq_7, tsh_590, tsh_620, tyk_9, tcq_9]
          rw [t2]
          repeat refine And.intro (by omega) ?_
          first | refine ⟨fun q => absurd q (by omega), fun _ => ?_⟩ | refine fun _ => ?_
          repeat refine And.intro (by omega) ?_
          refine tc_r (D := 1) (fun d' hd' => z_pbox (P := 590) (i := p) (Or.inr (Or.inr (Or.inl rfl))) (by omega) hd') (by omega) ?_
          rintro y N3 ⟨rfl, rfl⟩
          try simp only [kb_X11_pairs_119, w_ild8, w_ald_0, w_gf_13_10, tw_t, w_gf_9_3, w_ic_ge, w_gf_13_4, w_gf_13_9, w_ild7, w_iv1, tfr_0, tfr_1, tfr_2, tfr_3, tfr_4, w_iv2, w_gf_13_5, w_ild_1, w_aa, w_if_eq, w_ild_2, w_inc6, tkl_n, tkl_i, tkl_l, tkl_r, w_nil, w64_r, true_and, and_true, Nat.reduceAdd, Nat.reduceSub, eq_self, tsh_0, tyk_13, tsh_77, tyk_8, tcq_8, tsh_5, tyk_11, tcq_13, tcq_11, tyk_4, tcq_4, tsh_113, tsh_650, tsh_499, tyk_27, tel_5, tyk_7, tcq_7, tsh_590, tsh_620, tyk_9, tcq_9, ksa, ksb]
          refine tc_r (D := 1) (fun d' hd' => z_pbox (P := 620) (i := q) (Or.inr (Or.inr (Or.inr rfl))) (by omega) hd') (by omega) ?_
          rintro y N4 ⟨rfl, rfl⟩
          try simp only [kb_X11_pairs_119, w_ild8, w_ald_0, w_gf_13_10, tw_t, w_gf_9_3, w_ic_ge, w_gf_13_4, w_gf_13_9, w_ild7, w_iv1, tfr_0, tfr_1, tfr_2, tfr_3, tfr_4, w_iv2, w_gf_13_5, w_ild_1, w_aa, w_if_eq, w_ild_2, w_inc6, tkl_n, tkl_i, tkl_l, tkl_r, w_nil, w64_r, true_and, and_true, Nat.reduceAdd, Nat.reduceSub, eq_self, tsh_0, tyk_13, tsh_77, tyk_8, tcq_8, tsh_5, tyk_11, tcq_13, tcq_11, tyk_4, tcq_4, tsh_113, tsh_650, tsh_499, tyk_27, tel_5, tyk_7, tcq_7, tsh_590, tsh_620, tyk_9, tcq_9, ksa, ksb]
          refine tc_n (D := 0) (fun d' hd' => v_aim ⟨cka, Or.inr (by omega)⟩ ⟨ckb, Or.inr (by omega)⟩ va1 vb1 kN2.2 kN2.1.1) (by omega) ?_
          rintro N5 ⟨am, kN5, f5⟩
          have e5a : N5 499 x1 = M4 499 x1 := (f5 499 x1 (by decide)).trans (fN2 499 x1 (by decide))
          have e5b : N5 499 x2 = M4 499 x2 := (f5 499 x2 (by decide)).trans (fN2 499 x2 (by decide))
          try simp only [kb_X11_pairs_119, w_ild8, w_ald_0, w_gf_13_10, tw_t, w_gf_9_3, w_ic_ge, w_gf_13_4, w_gf_13_9, w_ild7, w_iv1, tfr_0, tfr_1, tfr_2, tfr_3, tfr_4, w_iv2, w_gf_13_5, w_ild_1, w_aa, w_if_eq, w_ild_2, w_inc6, tkl_n, tkl_i, tkl_l, tkl_r, w_nil, w64_r, true_and, and_true, Nat.reduceAdd, Nat.reduceSub, eq_self, tsh_0, tyk_13, tsh_77, tyk_8, tcq_8, tsh_5, tyk_11, tcq_13, tcq_11, tyk_4, tcq_4, tsh_113, tsh_650, tsh_499, tyk_27, tel_5, tyk_7, tcq_7, tsh_590, tsh_620, tyk_9, tcq_9, ksa, ksb, e5a, sfa]
          repeat refine And.intro (by omega) ?_
          refine tc_i (D := 9) (fun d' hd' => v_canBeZero fa ((f5 _ 6 (by omega)).trans ((fN2 _ 6 (by omega)).trans b1)) am he kN5.2 kN5.1.1 hd') (by omega) ?_
          rintro z6 N6 ⟨hz6, kN6, m6⟩
          have pa6 : PCG N6 590 ca := PCG_m (Or.inr (Or.inr (Or.inl rfl))) pa2 (fun k i g => (m6.2.2 k i (by omega)).trans (f5 k i (by omega)))
          have pb6 : PCG N6 620 cb := PCG_m (Or.inr (Or.inr (Or.inr rfl))) pb2 (fun k i g => (m6.2.2 k i (by omega)).trans (f5 k i (by omega)))
          have fN6 : ∀ (k : Nat) (i : Int), (499 ≤ k ∧ k < 590) → N6 k i = M4 k i := fun k i g => (m6.2.2 k i (by omega)).trans ((f5 k i (by omega)).trans (fN2 k i g))
          have kk6 : KA M4 N6 := KA_tr (pE_tr kN2.1.2 kN5.1.2) kN6
          have e6b : N6 499 x2 = M4 499 x2 := fN6 499 x2 (by decide)
          try simp only [kb_X11_pairs_119, w_ild8, w_ald_0, w_gf_13_10, tw_t, w_gf_9_3, w_ic_ge, w_gf_13_4, w_gf_13_9, w_ild7, w_iv1, tfr_0, tfr_1, tfr_2, tfr_3, tfr_4, w_iv2, w_gf_13_5, w_ild_1, w_aa, w_if_eq, w_ild_2, w_inc6, tkl_n, tkl_i, tkl_l, tkl_r, w_nil, w64_r, true_and, and_true, Nat.reduceAdd, Nat.reduceSub, eq_self, tsh_0, tyk_13, tsh_77, tyk_8, tcq_8, tsh_5, tyk_11, tcq_13, tcq_11, tyk_4, tcq_4, tsh_113, tsh_650, tsh_499, tyk_27, tel_5, tyk_7, tcq_7, tsh_590, tsh_620, tyk_9, tcq_9, ksa, ksb, e5a, sfa]
          repeat refine And.intro (by omega) ?_
          refine ⟨fun _ => n185 N6 ct2 (by omega) kk6 pa6 pb6 fN6, fun _ => ?_⟩
          try simp only [kb_X11_pairs_119, w_ild8, w_ald_0, w_gf_13_10, tw_t, w_gf_9_3, w_ic_ge, w_gf_13_4, w_gf_13_9, w_ild7, w_iv1, tfr_0, tfr_1, tfr_2, tfr_3, tfr_4, w_iv2, w_gf_13_5, w_ild_1, w_aa, w_if_eq, w_ild_2, w_inc6, tkl_n, tkl_i, tkl_l, tkl_r, w_nil, w64_r, true_and, and_true, Nat.reduceAdd, Nat.reduceSub, eq_self, tsh_0, tyk_13, tsh_77, tyk_8, tcq_8, tsh_5, tyk_11, tcq_13, tcq_11, tyk_4, tcq_4, tsh_113, tsh_650, tsh_499, tyk_27, tel_5, tyk_7, tcq_7, tsh_590, tsh_620, tyk_9, tcq_9, ksa, ksb, e6b, sfb]
          repeat refine And.intro (by omega) ?_
          refine tc_i (D := 9) (fun d' hd' => v_canBeZero fb ((fN6 _ 6 (by omega)).trans b2) (AIM_m am m6) he kN6.2 kN6.1.1 hd') (by omega) ?_
          rintro z7 N7 ⟨hz7, kN7, m7⟩
          have pa7 : PCG N7 590 ca := PCG_m (Or.inr (Or.inr (Or.inl rfl))) pa6 (fun k i g => m7.2.2 k i (by omega))
          have pb7 : PCG N7 620 cb := PCG_m (Or.inr (Or.inr (Or.inr rfl))) pb6 (fun k i g => m7.2.2 k i (by omega))
          have fN7 : ∀ (k : Nat) (i : Int), (499 ≤ k ∧ k < 590) → N7 k i = M4 k i := fun k i g => (m7.2.2 k i (by omega)).trans (fN6 k i g)
          have kk7 : KA M4 N7 := KA_tr kk6.1.2 kN7
          try simp only [kb_X11_pairs_119, w_ild8, w_ald_0, w_gf_13_10, tw_t, w_gf_9_3, w_ic_ge, w_gf_13_4, w_gf_13_9, w_ild7, w_iv1, tfr_0, tfr_1, tfr_2, tfr_3, tfr_4, w_iv2, w_gf_13_5, w_ild_1, w_aa, w_if_eq, w_ild_2, w_inc6, tkl_n, tkl_i, tkl_l, tkl_r, w_nil, w64_r, true_and, and_true, Nat.reduceAdd, Nat.reduceSub, eq_self, tsh_0, tyk_13, tsh_77, tyk_8, tcq_8, tsh_5, tyk_11, tcq_13, tcq_11, tyk_4, tcq_4, tsh_113, tsh_650, tsh_499, tyk_27, tel_5, tyk_7, tcq_7, tsh_590, tsh_620, tyk_9, tcq_9, ksa, ksb, e6b, sfb]
          repeat refine And.intro (by omega) ?_
          refine ⟨fun _ => n185 N7 ct2 (by omega) kk7 pa7 pb7 fN7, fun _ => ?_⟩
          repeat refine And.intro (by omega) ?_
          exact n185 N7 (ct2 + 1) (by omega) kk7 pa7 pb7 fN7
      have t1 := pa.1.1
      refine tb_X11_pairs_104 (c := true) ?_
      simp only [kb_X11_pairs_104, w_ild7, w_ald_0, w_gf_13_9, tw_t, w_gf_9_3, w_ic_ge, w_ic, w_ist8, tkl_n, tkl_i, tkl_l, tkl_r, w_nil, w64_r, true_and, and_true, Nat.reduceAdd, Nat.reduceSub, eq_self, tsh_0, tyk_13, tsh_77, tyk_8, tcq_8, tsh_5, tyk_11, tcq_13, tcq_11, tyk_4, tcq_4, tsh_113, tsh_650, tsh_499, tyk_27, tel_5, tyk_7, tcq_7, tsh_590, tsh_620, tyk_9, tcq_9]
      rw [t1]
      repeat refine And.intro (by omega) ?_
      first | refine ⟨fun q => absurd q (by omega), fun _ => ?_⟩ | refine fun _ => ?_
      exact nj cb N 0 cnt rfl (by omega) (by omega) kN pa pb fN
  exact no ca M8 0 0 _ rfl (by omega) (by decide) k8 ca3 cb2 ff
end HAND
