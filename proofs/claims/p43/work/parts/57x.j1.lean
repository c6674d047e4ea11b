/-! THE CLASS BY VALUES: isSound. -/
theorem un_UU {D : Int} (h : 0 ≤ D ∧ D ≤ 10) : UU (un D) := by
  have p := un_pos D
  have q := un_le D
  refine ⟨⟨by omega, q⟩, ?_⟩
  exact TT_dvd (D := D.toNat) (by omega)
theorem un_dvd {D : Int} (h : 0 ≤ D ∧ D < 10) : un (D + 1) ∣ un D := by
  refine ⟨10, ?_⟩
  have e1 : un D = TT (10 - D.toNat) := rfl
  have e2 : un (D + 1) = TT (10 - (D + 1).toNat) := rfl
  rw [e1, e2, show 10 - D.toNat = (10 - (D + 1).toNat) + 1 by omega, TT_s1]
/-- the cells that isSound uses -/
def SFF (M M' : tM) : Prop := CI M' ∧ ∀ (k : Nat) (i : Int), (k < 77 ∨ 496 < k) → k ≠ 651 → k ≠ 652 → k ≠ 654 → k ≠ 655 → M' k i = M k i
theorem SFF_refl {M : tM} (hC : CI M) : SFF M M := ⟨hC, fun _ _ _ _ _ _ _ => rfl⟩
theorem SFF_tr {M M1 M2 : tM} (h1 : SFF M M1) (h2 : SFF M1 M2) : SFF M M2 := ⟨h2.1, fun k i a1 a2 a3 a4 a5 => (h2.2 k i a1 a2 a3 a4 a5).trans (h1.2 k i a1 a2 a3 a4 a5)⟩
theorem SFF_m {b : Nat} {M M1 : tM} (h : MKF b M M1) : SFF M M1 := ⟨h.1.1, fun k i a1 _ _ _ _ => h.2.2 k i a1⟩
theorem SFF_1 {b : Nat} {M M1 : tM} (h : BE b M M1 650) : SFF M M1 := ⟨h.1.1, fun k i _ a2 a3 _ _ => h.2 k i a2 a3⟩
theorem SFF_2 {b : Nat} {M M1 : tM} (h : BE b M M1 653) : SFF M M1 := ⟨h.1.1, fun k i _ _ _ a4 a5 => h.2 k i a4 a5⟩
theorem SFF_u {M : tM} {x : Int} (hC : CI M) : SFF M (tU M 78 5 (un x)) := ⟨CI_un hC, fun k i a1 _ _ _ _ => tU_nk (by omega)⟩
/-- a box that is good -/
def BXG (M : tM) (r : Nat) : Prop := ∃ v : Int × Int, BX M r v.1 v.2 ∧ GBX v
theorem AR_k {u a num : Int} {s m m' : Nat} {X Y : Int × Int} {B B' : Nat → Int × Int} (ha : a = 112 ∨ a = 69) (h : AR u X Y a num s m B m' B') : m' = m + 1 ∧ B' = upB B m (dn u (kC a), up u (kC a)) := by
  have hOO : OOK a s → False := fun q => by unfold OOK at q; omega
  rcases h with ⟨q, _⟩ | ⟨_, e1, e2⟩ | ⟨q, _⟩ | ⟨q, _⟩ | ⟨q, _⟩ | ⟨q, _⟩ | ⟨q, _⟩ | ⟨q, _⟩ | ⟨q, _⟩ | ⟨q, _⟩ | ⟨q, _⟩
  · omega
  · exact ⟨e1, e2⟩
  · omega
  · omega
  · omega
  · omega
  · omega
  · omega
  · omega
  · omega
  · exact (hOO q).elim
section HAND
variable {e : tE} {b d n : Nat} {M : tM}
theorem z_result (ht : M 77 2 = 1) (hd : 1 ≤ d) : tC e d 2063 [.inr (.inr (.inl 77))] M n (tQr n (fun z M' => z = 113 ∧ M' = M)) := by
  refine tst_X6_result ?_
  refine tb_X6_result_0 (c := false) ?_
  simp only [kb_X6_result_0, w_ald_0, w_gf_8_2, tw_f, w_ic, w_isub, w_iv1, tfr_0, tfr_1, tfr_2, tfr_3, tfr_4, w_are, true_and, and_true, Nat.reduceAdd, Nat.reduceSub, eq_self, tsh_77, tyk_8, tcq_8, tsh_78, tyk_2, tcq_2, ht]
  repeat refine And.intro (by omega) ?_
  refine tc_r (D := 0) (fun d' hd' => z_at (p := 1 - 1) (by decide)) (by omega) ?_
  rintro z M1 ⟨hz, rfl⟩
  try simp only [kb_X6_result_0, w_ald_0, w_gf_8_2, tw_f, w_ic, w_isub, w_iv1, tfr_0, tfr_1, tfr_2, tfr_3, tfr_4, w_are, true_and, and_true, Nat.reduceAdd, Nat.reduceSub, eq_self, tsh_77, tyk_8, tcq_8, tsh_78, tyk_2, tcq_2, ht]
  exact ⟨_, rfl, rfl, hz, rfl⟩
theorem csA_cl (p : Int) : ∃ i : Nat, i < 128 ∧ csA p = 113 + 3 * i := by
  unfold csA
  split
  · rename_i h
    exact ⟨p.toNat, by omega, rfl⟩
  · exact ⟨0, by decide, rfl⟩
theorem z_resultG (hC : CI M) (hd : 1 ≤ d) : tC e d 2063 [.inr (.inr (.inl 77))] M n (tQr n (fun z M' => z = csA (M 77 2 - 1) ∧ M' = M)) := by
  have h2 : 0 ≤ M 77 2 ∧ M 77 2 ≤ 128 := by
    have q := hC.1 77 2 (by decide) (by decide)
    rw [tsh_77] at q
    exact q
  refine tst_X6_result ?_
  refine tb_X6_result_0 (c := false) ?_
  simp only [kb_X6_result_0, w_ald_0, w_gf_8_2, tw_f, w_ic, w_isub, w_iv1, tfr_0, tfr_1, tfr_2, tfr_3, tfr_4, w_are, true_and, and_true, Nat.reduceAdd, Nat.reduceSub, eq_self, tsh_77, tyk_8, tcq_8, tsh_78, tyk_2, tcq_2]
  repeat refine And.intro (by omega) ?_
  refine tc_r (D := 0) (fun d' hd' => z_at (p := M 77 2 - 1) (by omega)) (by omega) ?_
  rintro z M1 ⟨hz, rfl⟩
  try simp only [kb_X6_result_0, w_ald_0, w_gf_8_2, tw_f, w_ic, w_isub, w_iv1, tfr_0, tfr_1, tfr_2, tfr_3, tfr_4, w_are, true_and, and_true, Nat.reduceAdd, Nat.reduceSub, eq_self, tsh_77, tyk_8, tcq_8, tsh_78, tyk_2, tcq_2]
  exact ⟨_, rfl, rfl, hz, rfl⟩
theorem z_unit : tC e d 2064 [.inr (.inr (.inl 77))] M n (tQl n (fun z M' => z = M 78 5 ∧ M' = M)) := by
  refine tst_X6_unit ?_
  refine tb_X6_unit_0 (c := false) ?_
  simp only [kb_X6_unit_0, w_ald_0, w_gf_8_0, tw_f, w_gf_2_5, w_lre, true_and, and_true, Nat.reduceAdd, Nat.reduceSub, eq_self, tsh_77, tyk_8, tcq_8, tsh_78, tyk_2, tcq_2]
  exact ⟨_, rfl, rfl, rfl, rfl⟩
theorem z_aim {x y : Nat} (h1 : cl x 4) (h2 : cl y 4) (hb : b < 2) (hC : CI M) : tC e d 2050 [.inr (.inr (.inl 77)), .inr (.inr (.inl x)), .inr (.inr (.inl y))] M n (tQn n (fun M' => (M' 77 3 = (x : Int) ∧ M' 77 4 = (y : Int) ∧ (∀ i : Int, i ≠ 3 → i ≠ 4 → M' 77 i = M 77 i)) ∧ (CI M' ∧ pE b M M') ∧ ∀ (k : Nat) (i : Int), k ≠ 77 → M' k i = M k i)) := by
  have hx := h1.1
  have hy := h2.1
  refine tst_X6_aim ?_
  refine tb_X6_aim_0 (c := false) ?_
  simp only [kb_X6_aim_0, w_ald_0, w_ald_1, w_pf_8_3, w_ald_2, w_pf_8_4, w_re, true_and, and_true, Nat.reduceAdd, Nat.reduceSub, eq_self, tsh_77, tyk_8, tcq_8, tsh_78, tyk_2, tcq_2, hx, hy]
  have k1 := CI_put (i := 3) (v := (x : Int)) hC tsh_77 (fun _ => by show cl ((x : Nat) : Int).toNat 4; rw [nat_n]; exact h1)
  have p1 : pE b M (tU M 77 3 (x : Int)) := pE_put (prt_f (a := 8) (f := 3) (Or.inl hb) cl_77 (by decide) (fun _ q => absurd q (by decide)) (by decide))
  have k2 := CI_put (i := 4) (v := (y : Int)) k1 tsh_77 (fun _ => by show cl ((y : Nat) : Int).toNat 4; rw [nat_n]; exact h2)
  have p2 : pE b (tU M 77 3 (x : Int)) (tU (tU M 77 3 (x : Int)) 77 4 (y : Int)) := pE_put (prt_f (a := 8) (f := 4) (Or.inl hb) cl_77 (by decide) (fun _ q => absurd q (by decide)) (by decide))
  refine ⟨rfl, rfl, ⟨(tU_ni (by decide)).trans (tU_eq ..), tU_eq .., fun i q1 q2 => (tU_ni q2).trans (tU_ni q1)⟩, ⟨k2, pE_tr p1 p2⟩, fun k i q => (tU_nk q).trans (tU_nk q)⟩
theorem e_isConst {a : Int} (ha : a = 112 ∨ a = 69) (hU : UN M) (he : EVr e) (hro : RO M) (hC : CI M) (hd : 9 ≤ d) : tC e d 3362 [.inr (.inr (.inl 0)), .inl a] M n (tQi n (fun z M' => z = 1 ∧ RO M' ∧ SFF M M' ∧ M' 78 5 = M 78 5)) := by
  have hz0 := z00 hC
  have hu0 : UU (M 78 5) := by rw [hU]; exact un_UU hz0
  have ok : AOK a 0 0 0 := by unfold AOK; omega
  refine tst_X11_isConstantSound ?_
  refine tb_X11_isConstantSound_0 (c := false) ?_
  simp only [kb_X11_isConstantSound_0, w_ald_0, w_gf_13_0, tw_f, w_bi, w_ic_lt, w_ic, w_ire, trg, true_and, and_true, Nat.reduceAdd, Nat.reduceSub, eq_self, tsh_0, tyk_13, tcq_13, tsh_77, tyk_8, tcq_8, tsh_650, tsh_653, tyk_4, tcq_4, tsh_113, tsh_78, tyk_2, tcq_2]
  repeat refine And.intro (by omega) ?_
  refine ⟨fun g => ?_, fun g => ⟨by decide, _, rfl, rfl, rfl, hro, SFF_refl hC, rfl⟩⟩
  refine tb_X11_isConstantSound_11 (c := false) ?_
  simp only [kb_X11_isConstantSound_11, w_ald_0, w_gf_13_4, tw_f, w_iv0, tfr_0, tfr_1, tfr_2, tfr_3, tfr_4, w_ild_1, w_lc0, w_ic, w_iv3, w_ist_2, tkl_n, tkl_i, tkl_l, tkl_r, w_gf_13_11, w_iv1, w_gf_13_0, w_iadd, w_ild_2, w_if_ne, w_nil, true_and, and_true, Nat.reduceAdd, Nat.reduceSub, eq_self, tsh_0, tyk_13, tcq_13, tsh_77, tyk_8, tcq_8, tsh_650, tsh_653, tyk_4, tcq_4, tsh_113, tsh_78, tyk_2, tcq_2]
  refine tc_n (D := 0) (fun d' hd' => z_clear (b := 0) (by decide) hC) (by omega) ?_
  rintro M1 ⟨q1, q2, q3, q4⟩
  try simp only [kb_X11_isConstantSound_11, w_ald_0, w_gf_13_4, tw_f, w_iv0, tfr_0, tfr_1, tfr_2, tfr_3, tfr_4, w_ild_1, w_lc0, w_ic, w_iv3, w_ist_2, tkl_n, tkl_i, tkl_l, tkl_r, w_gf_13_11, w_iv1, w_gf_13_0, w_iadd, w_ild_2, w_if_ne, w_nil, true_and, and_true, Nat.reduceAdd, Nat.reduceSub, eq_self, tsh_0, tyk_13, tcq_13, tsh_77, tyk_8, tcq_8, tsh_650, tsh_653, tyk_4, tcq_4, tsh_113, tsh_78, tyk_2, tcq_2]
  have ro1 : RO M1 := RO_u hro (q3 79 4 (by decide)) (q3 79 5 (by decide))
  refine tc_i (D := 7) (fun d' hd' => z_make (b := 0) (xr := 0) (yr := 0) (X := (0, 0)) (Y := (0, 0)) (B := fun _ => (0, 0)) (s := 0) (m := 0) ok (by decide) ⟨q1, fun i hi => absurd hi (Nat.not_lt_zero i)⟩ (fun h => by omega) (fun h => by omega) (by rw [q2]; exact hu0) he ro1 (by decide) q4.1.1 hd') (by omega) ?_
  rintro z M2 ⟨y0, y1, y2, y3⟩
  try simp only [kb_X11_isConstantSound_11, w_ald_0, w_gf_13_4, tw_f, w_iv0, tfr_0, tfr_1, tfr_2, tfr_3, tfr_4, w_ild_1, w_lc0, w_ic, w_iv3, w_ist_2, tkl_n, tkl_i, tkl_l, tkl_r, w_gf_13_11, w_iv1, w_gf_13_0, w_iadd, w_ild_2, w_if_ne, w_nil, true_and, and_true, Nat.reduceAdd, Nat.reduceSub, eq_self, tsh_0, tyk_13, tcq_13, tsh_77, tyk_8, tcq_8, tsh_650, tsh_653, tyk_4, tcq_4, tsh_113, tsh_78, tyk_2, tcq_2]
  have c2 := y3.1.1
  have z2 : M2 0 0 = M 0 0 := (y3.2.2 0 0 (by decide)).trans (q3 0 0 (by decide))
  have u2 : M2 78 5 = M 78 5 := (UN_78 y3.1.2).trans q2
  have f2 : SFF M M2 := SFF_tr (SFF_m q4) (SFF_m y3)
  -- the end
  have n71 : ∀ (M5 : tM) (z5 : Int), RO M5 → SFF M M5 → (0 ≤ z5 ∧ z5 ≤ 2) → (z5 = 0 → (M5 77 2 = 2 ∧ ∃ k : Int, BX M5 650 (dn (M 78 5) k) (up (M 78 5) k) ∧ BX M5 116 (dn (un (M 0 0 + 1)) k) (up (un (M 0 0 + 1)) k) ∧ NF (dn (M 78 5) k) ∧ NF (up (M 78 5) k) ∧ NF (dn (un (M 0 0 + 1)) k) ∧ NF (up (un (M 0 0 + 1)) k))) → tT e d 3362 71 [some (.inr (.inr (.inl (0)))), some (.inl (a)), some (.inl (z5))] [] M5 n (tQi n (fun z M' => z = 1 ∧ RO M' ∧ SFF M M' ∧ M' 78 5 = M 78 5)) := by
    intro M5 z5 ro5 f5 hz5 hk
    have e0 : M5 0 0 = M 0 0 := f5.2 0 0 (by decide) (by decide) (by decide) (by decide) (by decide)
    refine tb_X11_isConstantSound_71 (c := false) ?_
    simp only [kb_X11_isConstantSound_71, w_ald_0, w_gf_13_4, tw_f, w_gf_13_0, w_iv1, tfr_0, tfr_1, tfr_2, tfr_3, tfr_4, w_ild_2, w_if_ne, w_iv0, w_gf_13_11, w_if_eq, w_nil, true_and, and_true, Nat.reduceAdd, Nat.reduceSub, eq_self, tsh_0, tyk_13, tcq_13, tsh_77, tyk_8, tcq_8, tsh_650, tsh_653, tyk_4, tcq_4, tsh_113, tsh_78, tyk_2, tcq_2, e0]
    refine tc_n (D := 2) (fun d' hd' => t_useD hz0 hd') (by omega) ?_
    rintro M6 hM6
    have f6 : SFF M M6 := by rw [hM6]; exact SFF_tr f5 (SFF_u f5.1)
    have u6 : M6 78 5 = M 78 5 := by rw [hM6, tU_eq]; exact hU.symm
    have ro6 : RO M6 := by rw [hM6]; exact RO_u ro5 (tU_nk (by decide)) (tU_nk (by decide))
    have k6 : ∀ (k : Nat) (i : Int), k ≠ 78 → M6 k i = M5 k i := fun k i q => by rw [hM6]; exact tU_nk q
    clear hM6
    try simp only [kb_X11_isConstantSound_71, w_ald_0, w_gf_13_4, tw_f, w_gf_13_0, w_iv1, tfr_0, tfr_1, tfr_2, tfr_3, tfr_4, w_ild_2, w_if_ne, w_iv0, w_gf_13_11, w_if_eq, w_nil, true_and, and_true, Nat.reduceAdd, Nat.reduceSub, eq_self, tsh_0, tyk_13, tcq_13, tsh_77, tyk_8, tcq_8, tsh_650, tsh_653, tyk_4, tcq_4, tsh_113, tsh_78, tyk_2, tcq_2, e0]
    have n103 : tT e d 3362 103 [some (.inr (.inr (.inl (0)))), some (.inl (a)), some (.inl (z5))] [] M6 n (tQi n (fun z M' => z = 1 ∧ RO M' ∧ SFF M M' ∧ M' 78 5 = M 78 5)) := by
      refine tb_X11_isConstantSound_103 (c := false) ?_
      simp only [kb_X11_isConstantSound_103, w_ic, w_goto, true_and, and_true, Nat.reduceAdd, Nat.reduceSub, eq_self]
      refine tb_X11_isConstantSound_108 (c := false) ?_
      simp only [kb_X11_isConstantSound_108, w_ire, trg, true_and, and_true, Nat.reduceAdd, Nat.reduceSub, eq_self]
      exact ⟨by decide, _, rfl, rfl, rfl, ro6, f6, u6⟩
    repeat refine And.intro (by omega) ?_
    refine ⟨fun g => n103, fun g => ?_⟩
    obtain ⟨k1, k, k2, k3, k4, k5, k6', k7⟩ := hk (by omega)
    have t6 : M6 77 2 = 2 := (k6 77 2 (by decide)).trans k1
    refine tc_r (D := 1) (fun d' hd' => z_resultG f6.1 hd') (by omega) ?_
    rintro x M7 ⟨hx, rfl⟩
    have ex : x = 116 := by rw [hx, t6]; decide
    subst ex
    have s116 : tsh 116 = 4 := (cl_cs (i := 1) (by decide)).1
    try simp only [kb_X11_isConstantSound_71, w_ald_0, w_gf_13_4, tw_f, w_gf_13_0, w_iv1, tfr_0, tfr_1, tfr_2, tfr_3, tfr_4, w_ild_2, w_if_ne, w_iv0, w_gf_13_11, w_if_eq, w_nil, true_and, and_true, Nat.reduceAdd, Nat.reduceSub, eq_self, tsh_0, tyk_13, tcq_13, tsh_77, tyk_8, tcq_8, tsh_650, tsh_653, tyk_4, tcq_4, tsh_113, tsh_78, tyk_2, tcq_2, e0, s116]
    have dv := dn_fine (u := M 78 5) (w := un (M 0 0 + 1)) (t := k) (by have := hu0.1; omega) (un_pos _)
    refine tc_i (D := 1) (fun d' hd' => z_liesIn (cl_cs (i := 1) (by decide)) cl_650 (BX_f k3 (fun i => k6 _ _ (by decide)) (fun i => k6 _ _ (by decide))) (BX_f k2 (fun i => k6 _ _ (by decide)) (fun i => k6 _ _ (by decide))) ⟨NF_r k6', NF_r k7⟩ ⟨NF_r k4, NF_r k5⟩ hd') (by omega) ?_
    rintro w M8 ⟨hw, rfl⟩
    try simp only [kb_X11_isConstantSound_71, w_ald_0, w_gf_13_4, tw_f, w_gf_13_0, w_iv1, tfr_0, tfr_1, tfr_2, tfr_3, tfr_4, w_ild_2, w_if_ne, w_iv0, w_gf_13_11, w_if_eq, w_nil, true_and, and_true, Nat.reduceAdd, Nat.reduceSub, eq_self, tsh_0, tyk_13, tcq_13, tsh_77, tyk_8, tcq_8, tsh_650, tsh_653, tyk_4, tcq_4, tsh_113, tsh_78, tyk_2, tcq_2, e0, s116]
    repeat refine And.intro (by omega) ?_
    refine ⟨fun g2 => ?_, fun g2 => n103⟩
    exfalso
    have hd10 : M 0 0 < 10 := by omega
    have dvv := dv (by rw [hU]; exact un_dvd ⟨hz0.1, hd10⟩)
    omega
  -- the first box is kept, whatever it is
  have hres : ∀ (x : Nat), (∃ i : Nat, i < 128 ∧ x = 113 + 3 * i) → cl x 4 := fun x ⟨i, hi, hx⟩ => by rw [hx]; exact cl_cs hi
  rcases Classical.em (z = 0) with hz | hz
  · obtain ⟨m', B', r1, r2⟩ := y1 hz
    obtain ⟨rfl, rfl⟩ := AR_k ha r1
    rw [q2] at r2
    have b113 := r2.2 0 (by decide)
    rw [upB_eq] at b113
    refine tc_r (D := 1) (fun d' hd' => z_result r2.1 hd') (by omega) ?_
    rintro x M3 ⟨rfl, rfl⟩
    try simp only [kb_X11_isConstantSound_11, w_ald_0, w_gf_13_4, tw_f, w_iv0, tfr_0, tfr_1, tfr_2, tfr_3, tfr_4, w_ild_1, w_lc0, w_ic, w_iv3, w_ist_2, tkl_n, tkl_i, tkl_l, tkl_r, w_gf_13_11, w_iv1, w_gf_13_0, w_iadd, w_ild_2, w_if_ne, w_nil, true_and, and_true, Nat.reduceAdd, Nat.reduceSub, eq_self, tsh_0, tyk_13, tcq_13, tsh_77, tyk_8, tcq_8, tsh_650, tsh_653, tyk_4, tcq_4, tsh_113, tsh_78, tyk_2, tcq_2]
    refine tc_n (D := 1) (fun d' hd' => z_copy (b := 0) cl_650 (cl_cs (i := 0) (by decide)) b113.1 (by decide) c2 hd') (by omega) ?_
    rintro M4 ⟨w1, w2⟩
    have e4 : M4 0 0 = M 0 0 := (w2.2 0 0 (by decide) (by decide)).trans z2
    try simp only [kb_X11_isConstantSound_11, w_ald_0, w_gf_13_4, tw_f, w_iv0, tfr_0, tfr_1, tfr_2, tfr_3, tfr_4, w_ild_1, w_lc0, w_ic, w_iv3, w_ist_2, tkl_n, tkl_i, tkl_l, tkl_r, w_gf_13_11, w_iv1, w_gf_13_0, w_iadd, w_ild_2, w_if_ne, w_nil, true_and, and_true, Nat.reduceAdd, Nat.reduceSub, eq_self, tsh_0, tyk_13, tcq_13, tsh_77, tyk_8, tcq_8, tsh_650, tsh_653, tyk_4, tcq_4, tsh_113, tsh_78, tyk_2, tcq_2, e4]
    repeat refine And.intro (by omega) ?_
    refine tc_n (D := 2) (fun d' hd' => t_useD (by omega) hd') (by omega) ?_
    rintro M5 hM5
    have f5 : SFF M M5 := by rw [hM5]; exact SFF_tr f2 (SFF_tr (SFF_1 w2) (SFF_u w2.1.1))
    have u5 : M5 78 5 = un (M 0 0 + 1) := by rw [hM5, tU_eq]
    have ro5 : RO M5 := by rw [hM5]; exact RO_u (RO_b y2 w2 (by decide)) (tU_nk (by decide)) (tU_nk (by decide))
    have k5 : ∀ (k : Nat) (i : Int), k ≠ 78 → M5 k i = M4 k i := fun k i q => by rw [hM5]; exact tU_nk q
    clear hM5
    try simp only [kb_X11_isConstantSound_11, w_ald_0, w_gf_13_4, tw_f, w_iv0, tfr_0, tfr_1, tfr_2, tfr_3, tfr_4, w_ild_1, w_lc0, w_ic, w_iv3, w_ist_2, tkl_n, tkl_i, tkl_l, tkl_r, w_gf_13_11, w_iv1, w_gf_13_0, w_iadd, w_ild_2, w_if_ne, w_nil, true_and, and_true, Nat.reduceAdd, Nat.reduceSub, eq_self, tsh_0, tyk_13, tcq_13, tsh_77, tyk_8, tcq_8, tsh_650, tsh_653, tyk_4, tcq_4, tsh_113, tsh_78, tyk_2, tcq_2, e4]
    repeat refine And.intro (by omega) ?_
    first | refine ⟨fun q => absurd q (by omega), fun _ => ?_⟩ | refine fun _ => ?_
    have sk5 : SK M5 1 (upB (fun _ => (0, 0)) 0 (dn (M 78 5) (kC a), up (M 78 5) (kC a))) := by
      refine ⟨?_, fun i hi => ?_⟩
      · rw [k5 77 2 (by decide), w2.2 77 2 (by decide) (by decide)]
        exact r2.1
      · have hi0 : i = 0 := by omega
        subst hi0
        rw [upB_eq]
        exact ⟨BX_f b113.1 (fun j => (k5 _ _ (by decide)).trans (w2.2 _ _ (by decide) (by decide))) (fun j => (k5 _ _ (by decide)).trans (w2.2 _ _ (by decide) (by decide))), b113.2⟩
    have ok1 : AOK a 0 0 1 := by unfold AOK; omega
    refine tc_i (D := 7) (fun d' hd' => z_make (b := 0) (xr := 0) (yr := 0) (X := (0, 0)) (Y := (0, 0)) (s := 0) (m := 1) ok1 (by decide) sk5 (fun h => by omega) (fun h => by omega) (by rw [u5]; exact un_UU (by omega)) he ro5 (by decide) f5.1 hd') (by omega) ?_
    rintro z6 M6 ⟨v0, v1, v2, v3⟩
    try simp only [kb_X11_isConstantSound_11, w_ald_0, w_gf_13_4, tw_f, w_iv0, tfr_0, tfr_1, tfr_2, tfr_3, tfr_4, w_ild_1, w_lc0, w_ic, w_iv3, w_ist_2, tkl_n, tkl_i, tkl_l, tkl_r, w_gf_13_11, w_iv1, w_gf_13_0, w_iadd, w_ild_2, w_if_ne, w_nil, true_and, and_true, Nat.reduceAdd, Nat.reduceSub, eq_self, tsh_0, tyk_13, tcq_13, tsh_77, tyk_8, tcq_8, tsh_650, tsh_653, tyk_4, tcq_4, tsh_113, tsh_78, tyk_2, tcq_2, e4]
    refine n71 M6 z6 v2 (SFF_tr f5 (SFF_m v3)) v0 (fun hz6 => ?_)
    obtain ⟨m', B', t1, t2⟩ := v1 hz6
    obtain ⟨rfl, rfl⟩ := AR_k ha t1
    rw [u5] at t2
    have b116 := t2.2 1 (by decide)
    rw [upB_eq] at b116
    have b650 : BX M6 650 (dn (M 78 5) (kC a)) (up (M 78 5) (kC a)) := BX_f w1 (fun j => (v3.2.2 _ _ (by decide)).trans (k5 _ _ (by decide))) (fun j => (v3.2.2 _ _ (by decide)).trans (k5 _ _ (by decide)))
    exact ⟨t2.1, kC a, b650, b116.1, b113.2.1.1, b113.2.1.2, b116.2.1.1, b116.2.1.2⟩
  · refine tc_r (D := 1) (fun d' hd' => z_resultG c2 hd') (by omega) ?_
    rintro x M3 ⟨hx, rfl⟩
    have cx : cl x 4 := hres x (by rw [hx]; exact csA_cl _)
    have sx := cx.1
    try simp only [kb_X11_isConstantSound_11, w_ald_0, w_gf_13_4, tw_f, w_iv0, tfr_0, tfr_1, tfr_2, tfr_3, tfr_4, w_ild_1, w_lc0, w_ic, w_iv3, w_ist_2, tkl_n, tkl_i, tkl_l, tkl_r, w_gf_13_11, w_iv1, w_gf_13_0, w_iadd, w_ild_2, w_if_ne, w_nil, true_and, and_true, Nat.reduceAdd, Nat.reduceSub, eq_self, tsh_0, tyk_13, tcq_13, tsh_77, tyk_8, tcq_8, tsh_650, tsh_653, tyk_4, tcq_4, tsh_113, tsh_78, tyk_2, tcq_2, sx]
    refine tc_n (D := 1) (fun d' hd' => x_copyB (b := 0) cl_650 cx (by decide) c2 hd') (by omega) ?_
    rintro M4 w2
    have e4 : M4 0 0 = M 0 0 := (w2.2 0 0 (by decide) (by decide)).trans z2
    try simp only [kb_X11_isConstantSound_11, w_ald_0, w_gf_13_4, tw_f, w_iv0, tfr_0, tfr_1, tfr_2, tfr_3, tfr_4, w_ild_1, w_lc0, w_ic, w_iv3, w_ist_2, tkl_n, tkl_i, tkl_l, tkl_r, w_gf_13_11, w_iv1, w_gf_13_0, w_iadd, w_ild_2, w_if_ne, w_nil, true_and, and_true, Nat.reduceAdd, Nat.reduceSub, eq_self, tsh_0, tyk_13, tcq_13, tsh_77, tyk_8, tcq_8, tsh_650, tsh_653, tyk_4, tcq_4, tsh_113, tsh_78, tyk_2, tcq_2, e4, sx]
    repeat refine And.intro (by omega) ?_
    refine tc_n (D := 2) (fun d' hd' => t_useD (by omega) hd') (by omega) ?_
    rintro M5 hM5
    have f5 : SFF M M5 := by rw [hM5]; exact SFF_tr f2 (SFF_tr (SFF_1 (b := 0) w2) (SFF_u w2.1.1))
    have ro5 : RO M5 := by rw [hM5]; exact RO_u (RO_b (b := 0) y2 w2 (by decide)) (tU_nk (by decide)) (tU_nk (by decide))
    clear hM5
    try simp only [kb_X11_isConstantSound_11, w_ald_0, w_gf_13_4, tw_f, w_iv0, tfr_0, tfr_1, tfr_2, tfr_3, tfr_4, w_ild_1, w_lc0, w_ic, w_iv3, w_ist_2, tkl_n, tkl_i, tkl_l, tkl_r, w_gf_13_11, w_iv1, w_gf_13_0, w_iadd, w_ild_2, w_if_ne, w_nil, true_and, and_true, Nat.reduceAdd, Nat.reduceSub, eq_self, tsh_0, tyk_13, tcq_13, tsh_77, tyk_8, tcq_8, tsh_650, tsh_653, tyk_4, tcq_4, tsh_113, tsh_78, tyk_2, tcq_2, e4, sx]
    repeat refine And.intro (by omega) ?_
    exact ⟨fun _ => n71 M5 z ro5 f5 y0 (fun h => absurd h hz), fun g => absurd hz g⟩
end HAND
