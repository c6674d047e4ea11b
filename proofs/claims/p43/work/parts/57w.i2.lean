/-! THE CLASS BY VALUES: the value of a formula. -/
/-- the formulas -/
def FMC (r : Nat) : Prop := r = 500 ∨ r = 506 ∨ r = 512 ∨ r = 518 ∨ r = 524
theorem FM_of {r : Nat} (h : FMC r) : tsh r = 7 ∧ tsh (r + 1) = 42 ∧ tsh (r + 2) = 28 ∧ tsh (r + 3) = 43 ∧ tsh (r + 4) = 26 ∧ tsh (r + 5) = 15 := by
  rcases h with rfl | rfl | rfl | rfl | rfl <;> (refine ⟨?_, ?_, ?_, ?_, ?_, ?_⟩ <;> (rw [tsh_def]; decide +kernel))
theorem tyk_42 : tyk 42 = (1, 0, 60) := rfl
theorem tyk_28 : tyk 28 = (2, 2, 60) := rfl
theorem tyk_43 : tyk 43 = (1, 1, 60) := rfl
/-- how high the stack is after so many acts -/
def hA (A : Nat → Int) : Nat → Nat
  | 0 => 0
  | k + 1 => if A k = 35 ∨ A k = 112 ∨ A k = 69 ∨ A k = 120 ∨ A k = 121 then hA A k + 1 else if A k = 43 ∨ A k = 45 ∨ A k = 42 ∨ A k = 47 then hA A k - 1 else hA A k
theorem hA_s (A : Nat → Int) (k : Nat) : hA A (k + 1) = if A k = 35 ∨ A k = 112 ∨ A k = 69 ∨ A k = 120 ∨ A k = 121 then hA A k + 1 else if A k = 43 ∨ A k = 45 ∨ A k = 42 ∨ A k = 47 then hA A k - 1 else hA A k := rfl
theorem hA_le (A : Nat → Int) : ∀ k : Nat, hA A k ≤ k := by
  intro k
  induction k with
  | zero => exact Nat.le_refl _
  | succ k ih =>
    rw [hA_s]
    split
    · omega
    · split <;> omega
theorem AR_h {u a num : Int} {s m m' : Nat} {X Y : Int × Int} {B B' : Nat → Int × Int} {A : Nat → Int} {k : Nat} (hm : m = hA A k) (ha : A k = a) (h : AR u X Y a num s m B m' B') : m' = hA A (k + 1) := by
  rw [hA_s, ha, ← hm]
  have hOO : OOK a s → a ≠ 35 ∧ a ≠ 42 ∧ a ≠ 43 ∧ a ≠ 45 ∧ a ≠ 47 ∧ a ≠ 69 ∧ a ≠ 98 ∧ a ≠ 112 ∧ a ≠ 120 ∧ a ≠ 121 ∧ a ≠ 126 := fun q => by unfold OOK at q; omega
  rcases h with ⟨q, e, _⟩ | ⟨q, e, _⟩ | ⟨q, e, _⟩ | ⟨q, e, _⟩ | ⟨q, _, e, _⟩ | ⟨q, _, e, _⟩ | ⟨q, _, e, _⟩ | ⟨q, _, e, _⟩ | ⟨q, _, e, _⟩ | ⟨q, _, e, _⟩ | ⟨q, _, e, _⟩
  · rw [if_pos (by omega)]; exact e
  · rw [if_pos (by omega)]; exact e
  · rw [if_pos (by omega)]; exact e
  · rw [if_pos (by omega)]; exact e
  · rw [if_neg (by omega), if_pos (by omega)]; exact e
  · rw [if_neg (by omega), if_pos (by omega)]; exact e
  · rw [if_neg (by omega), if_pos (by omega)]; exact e
  · rw [if_neg (by omega), if_pos (by omega)]; exact e
  · rw [if_neg (by omega), if_neg (by omega)]; exact e
  · rw [if_neg (by omega), if_neg (by omega)]; exact e
  · have := hOO q
    rw [if_neg (by omega), if_neg (by omega)]; exact e
/-- a formula that is well made, with so many acts -/
def WFF (M : tM) (r c : Nat) : Prop := (M r 4 = (c : Int) ∧ c ≤ 60) ∧ (∀ k : Nat, k < c → 0 ≤ M (r + 3) (k : Int) ∧ AOK (M (r + 1) (k : Int)) (M (r + 2) (k : Int)) (M (r + 3) (k : Int)).toNat (hA (fun k => M (r + 1) (k : Int)) k)) ∧ hA (fun k => M (r + 1) (k : Int)) c = 1
/-- what a formula's first acts leave -/
def EVS (u : Int) (X Y : Int × Int) (M : tM) (r : Nat) : Nat → Nat → (Nat → Int × Int) → Prop
  | 0, m, _ => m = 0
  | k + 1, m', B' => (∃ (m : Nat) (B : Nat → Int × Int), EVS u X Y M r k m B ∧ AR u X Y (M (r + 1) (k : Int)) (M (r + 2) (k : Int)) (M (r + 3) (k : Int)).toNat m B m' B') ∧ ∀ i : Nat, i < m' → GBX (B' i)
theorem EVS_s {u : Int} {X Y : Int × Int} {M : tM} {r k m' : Nat} {B' : Nat → Int × Int} : EVS u X Y M r (k + 1) m' B' = ((∃ (m : Nat) (B : Nat → Int × Int), EVS u X Y M r k m B ∧ AR u X Y (M (r + 1) (k : Int)) (M (r + 2) (k : Int)) (M (r + 3) (k : Int)).toNat m B m' B') ∧ ∀ i : Nat, i < m' → GBX (B' i)) := rfl
theorem EVS_u {u : Int} {X Y : Int × Int} {M M1 : tM} {r : Nat} (h : ∀ (k : Nat) (i : Int), (r + 1 ≤ k ∧ k ≤ r + 3) → M1 k i = M k i) : ∀ (k m : Nat) (B : Nat → Int × Int), EVS u X Y M1 r k m B → EVS u X Y M r k m B := by
  intro k
  induction k with
  | zero => intro m B q; exact q
  | succ k ih =>
    intro m B q
    rw [EVS_s] at q ⊢
    obtain ⟨⟨m0, B0, q1, q2⟩, q3⟩ := q
    rw [h (r + 1) _ (by omega), h (r + 2) _ (by omega), h (r + 3) _ (by omega)] at q2
    exact ⟨⟨m0, B0, ih _ _ q1, q2⟩, q3⟩
theorem EVS_g {u : Int} {X Y : Int × Int} {M : tM} {r k m : Nat} {B : Nat → Int × Int} (h : EVS u X Y M r k m B) : ∀ i : Nat, i < m → GBX (B i) := by
  cases k with
  | zero =>
    have e : m = 0 := h
    intro i hi
    omega
  | succ k => exact h.2
theorem EVS_iso {u0 u : Int} {M : tM} {r : Nat} {X0 Y0 X Y : Int × Int} (hu0 : UU u0) (hu : UU u) (hd : u ∣ u0) (hX : INB X0 X) (hY : INB Y0 Y) : ∀ (k m0 m : Nat) (B0 B : Nat → Int × Int), EVS u0 X0 Y0 M r k m0 B0 → EVS u X Y M r k m B → m = m0 ∧ INC m B0 B := by
  intro k
  induction k with
  | zero =>
    intro m0 m B0 B h0 h
    have e0 : m0 = 0 := h0
    have e : m = 0 := h
    exact ⟨by omega, fun i hi => by omega⟩
  | succ k ih =>
    intro m0 m B0 B h0 h
    rw [EVS_s] at h0 h
    obtain ⟨⟨p0, C0, q1, q2⟩, q3⟩ := h0
    obtain ⟨⟨p, C, w1, w2⟩, w3⟩ := h
    obtain ⟨e, inc⟩ := ih _ _ _ _ q1 w1
    subst e
    exact AR_iso hu0 hu hd hX hY (EVS_g q1) (EVS_g w1) inc q2 w2
section HAND
variable {e : tE} {b d n : Nat} {M : tM}
theorem z_within {r : Nat} {k : Nat} (hk : k < 60) : tC e d 1814 [.inr (.inr (.inl r)), .inl (k : Int)] M n (tQi n (fun z M' => z = (k : Int) ∧ M' = M)) := by
  refine tst_X5_within ?_
  refine tb_X5_within_0 (c := false) ?_
  simp only [kb_X5_within_0, w_ild_1, w_if_lt, w_bi, w_ic_lt, w_nil, true_and, and_true, Nat.reduceAdd, Nat.reduceSub, eq_self]
  repeat refine And.intro (by omega) ?_
  first | refine ⟨fun q => absurd q (by omega), fun _ => ?_⟩ | refine fun _ => ?_
  repeat refine And.intro (by omega) ?_
  refine ⟨fun _ => ?_, fun q => absurd (by omega) q⟩
  refine tb_X5_within_14 (c := false) ?_
  simp only [kb_X5_within_14, w_ild_1, w_nil, true_and, and_true, Nat.reduceAdd, Nat.reduceSub, eq_self]
  refine tb_X5_within_15 (c := false) ?_
  simp only [kb_X5_within_15, w_ire, trg, true_and, and_true, Nat.reduceAdd, Nat.reduceSub, eq_self]
  exact ⟨_, rfl, rfl, rfl, rfl⟩
theorem z_actAt {r k : Nat} (hr : FMC r) (hk : k < 60) (hC : CI M) (hd : 1 ≤ d) : tC e d 1793 [.inr (.inr (.inl r)), .inl (k : Int)] M n (tQi n (fun z M' => z = M (r + 1) (k : Int) ∧ M' = M)) := by
  obtain ⟨t0, t1, t2, t3, t4, t5⟩ := FM_of hr
  have g : 0 ≤ M (r + 1) (k : Int) ∧ M (r + 1) (k : Int) ≤ 65535 := by
    have q := hC.1 (r + 1) (k : Int) (by unfold FMC at hr; omega) (by omega)
    rw [t1] at q
    exact q
  refine tst_X5_actAt ?_
  refine tb_X5_actAt_0 (c := false) ?_
  simp only [kb_X5_actAt_0, w_ald_0, w_gf_7_0, tw_f, w_ild_1, w_iv1, tfr_0, tfr_1, tfr_2, tfr_3, tfr_4, w_ca, w_ire, trg, true_and, and_true, Nat.reduceAdd, Nat.reduceSub, eq_self, tyk_7, tcq_7, tyk_42, tyk_28, tyk_43, tcq_60, t0, t1]
  refine tc_i (D := 0) (fun d' hd' => z_within hk) (by omega) ?_
  rintro z M1 ⟨rfl, rfl⟩
  try simp only [kb_X5_actAt_0, w_ald_0, w_gf_7_0, tw_f, w_ild_1, w_iv1, tfr_0, tfr_1, tfr_2, tfr_3, tfr_4, w_ca, w_ire, trg, true_and, and_true, Nat.reduceAdd, Nat.reduceSub, eq_self, tyk_7, tcq_7, tyk_42, tyk_28, tyk_43, tcq_60, t0, t1]
  repeat refine And.intro (by omega) ?_
  exact ⟨_, rfl, rfl, rfl, rfl⟩
theorem z_numberAt {r k : Nat} (hr : FMC r) (hk : k < 60) (hd : 1 ≤ d) : tC e d 1802 [.inr (.inr (.inl r)), .inl (k : Int)] M n (tQl n (fun z M' => z = M (r + 2) (k : Int) ∧ M' = M)) := by
  obtain ⟨t0, t1, t2, t3, t4, t5⟩ := FM_of hr
  refine tst_X5_numberAt ?_
  refine tb_X5_numberAt_0 (c := false) ?_
  simp only [kb_X5_numberAt_0, w_ald_0, w_gf_7_1, tw_f, w_ild_1, w_iv1, tfr_0, tfr_1, tfr_2, tfr_3, tfr_4, w_la, w_lax, w_lre, true_and, and_true, Nat.reduceAdd, Nat.reduceSub, eq_self, tyk_7, tcq_7, tyk_42, tyk_28, tyk_43, tcq_60, t0, t2]
  refine tc_i (D := 0) (fun d' hd' => z_within hk) (by omega) ?_
  rintro z M1 ⟨rfl, rfl⟩
  try simp only [kb_X5_numberAt_0, w_ald_0, w_gf_7_1, tw_f, w_ild_1, w_iv1, tfr_0, tfr_1, tfr_2, tfr_3, tfr_4, w_la, w_lax, w_lre, true_and, and_true, Nat.reduceAdd, Nat.reduceSub, eq_self, tyk_7, tcq_7, tyk_42, tyk_28, tyk_43, tcq_60, t0, t2]
  repeat refine And.intro (by omega) ?_
  exact ⟨_, rfl, rfl, rfl, rfl⟩
theorem z_scaleAt {r k : Nat} (hr : FMC r) (hk : k < 60) (hd : 1 ≤ d) : tC e d 1807 [.inr (.inr (.inl r)), .inl (k : Int)] M n (tQi n (fun z M' => z = M (r + 3) (k : Int) ∧ M' = M)) := by
  obtain ⟨t0, t1, t2, t3, t4, t5⟩ := FM_of hr
  refine tst_X5_scaleAt ?_
  refine tb_X5_scaleAt_0 (c := false) ?_
  simp only [kb_X5_scaleAt_0, w_ald_0, w_gf_7_2, tw_f, w_ild_1, w_iv1, tfr_0, tfr_1, tfr_2, tfr_3, tfr_4, w_ia, w_iax, w_ire, trg, true_and, and_true, Nat.reduceAdd, Nat.reduceSub, eq_self, tyk_7, tcq_7, tyk_42, tyk_28, tyk_43, tcq_60, t0, t3]
  refine tc_i (D := 0) (fun d' hd' => z_within hk) (by omega) ?_
  rintro z M1 ⟨rfl, rfl⟩
  try simp only [kb_X5_scaleAt_0, w_ald_0, w_gf_7_2, tw_f, w_ild_1, w_iv1, tfr_0, tfr_1, tfr_2, tfr_3, tfr_4, w_ia, w_iax, w_ire, trg, true_and, and_true, Nat.reduceAdd, Nat.reduceSub, eq_self, tyk_7, tcq_7, tyk_42, tyk_28, tyk_43, tcq_60, t0, t3]
  repeat refine And.intro (by omega) ?_
  exact ⟨_, rfl, rfl, rfl, rfl⟩
theorem z_clear (hb : b < 2) (hC : CI M) : tC e d 2053 [.inr (.inr (.inl 77))] M n (tQn n (fun M' => M' 77 2 = 0 ∧ M' 78 5 = M 78 5 ∧ (∀ (k : Nat) (i : Int), k ≠ 77 → M' k i = M k i) ∧ MKF b M M')) := by
  refine tst_X6_clear ?_
  refine tb_X6_clear_0 (c := false) ?_
  simp only [kb_X6_clear_0, w_ald_0, w_ic, w_pf_8_2, w_re, true_and, and_true, Nat.reduceAdd, Nat.reduceSub, eq_self, tsh_77, tyk_8, tcq_8, tyk_7, tcq_7]
  exact ⟨rfl, rfl, tU_eq .., tU_nk (by decide), fun k i q => tU_nk q, MKF_top hb hC (by decide)⟩
theorem z_makeValue {r c xr yr : Nat} {X Y : Int × Int} (hr : FMC r) (hw : WFF M r c) (hx : M 77 3 = (xr : Int) ∧ cl xr 4 ∧ (xr + 2 < 77 ∨ 496 < xr)) (hy : M 77 4 = (yr : Int) ∧ cl yr 4 ∧ (yr + 2 < 77 ∨ 496 < yr)) (hX : BX M xr X.1 X.2 ∧ GBX X) (hY : BX M yr Y.1 Y.2 ∧ GBX Y) (hu : UU (M 78 5)) (he : EVr e) (hro : RO M) (hb : b < 2) (hC : CI M) (hd : 8 ≤ d) : tC e d 2058 [.inr (.inr (.inl 77)), .inr (.inr (.inl r))] M n (tQi n (fun z M' => (0 ≤ z ∧ z ≤ 2) ∧ (z = 0 → ∃ B' : Nat → Int × Int, EVS (M 78 5) X Y M r c 1 B' ∧ SK M' 1 B') ∧ RO M' ∧ MKF b M M')) := by
  obtain ⟨t0, t1, t2, t3, t4, t5⟩ := FM_of hr
  have hr2 : 499 < r ∧ r < 525 := by unfold FMC at hr; omega
  have hc60 : c ≤ 60 := hw.1.2
  refine tst_X6_makeValue ?_
  have n6 : ∀ (fu : Nat) (M1 : tM) (k : Nat) (B : Nat → Int × Int) (w3 : Option tV), c - k = fu → k ≤ c → EVS (M 78 5) X Y M r k (hA (fun k => M (r + 1) (k : Int)) k) B → SK M1 (hA (fun k => M (r + 1) (k : Int)) k) B → RO M1 → MKF b M M1 → tT e d 2058 6 [some (.inr (.inr (.inl (77)))), some (.inr (.inr (.inl (r)))), some (.inl ((k : Int))), w3] [] M1 n (tQi n (fun z M' => (0 ≤ z ∧ z ≤ 2) ∧ (z = 0 → ∃ B' : Nat → Int × Int, EVS (M 78 5) X Y M r c 1 B' ∧ SK M' 1 B') ∧ RO M' ∧ MKF b M M')) := by
    intro fu
    induction fu with
    | zero =>
      intro M1 k B w3 hf hk a1 a2 a3 a4
      have hke : k = c := by omega
      subst hke
      have ec : M1 r 4 = (k : Int) := (a4.2.2 r 4 (by omega)).trans hw.1.1
      refine tb_X6_makeValue_6 (c := false) ?_
      simp only [kb_X6_makeValue_6, w_ild_2, w_ald_1, w_gf_7_4, tw_f, w_ic_ge, w_ald_0, w_iv1, tfr_0, tfr_1, tfr_2, tfr_3, tfr_4, w_iv3, w_ist_3, tkl_n, tkl_i, tkl_l, tkl_r, w_ild_3, w_if_eq, w_ire, trg, true_and, and_true, Nat.reduceAdd, Nat.reduceSub, eq_self, tsh_77, tyk_8, tcq_8, tyk_7, tcq_7, t0, ec]
      repeat refine And.intro (by omega) ?_
      refine ⟨fun _ => ?_, fun q => absurd (by omega) q⟩
      refine tb_X6_makeValue_46 (c := false) ?_
      simp only [kb_X6_makeValue_46, w_ic, w_ire, trg, true_and, and_true, Nat.reduceAdd, Nat.reduceSub, eq_self]
      rw [hw.2.2] at a1 a2
      exact ⟨_, rfl, rfl, by decide, fun _ => ⟨B, a1, a2⟩, a3, a4⟩
    | succ fu ih =>
      intro M1 k B w3 hf hk a1 a2 a3 a4
      have ec : M1 r 4 = (c : Int) := (a4.2.2 r 4 (by omega)).trans hw.1.1
      have hk60 : k < 60 := by have := hw.1.2; omega
      obtain ⟨w1, w2⟩ := hw.2.1 k (by omega)
      have f1 : M1 (r + 1) (k : Int) = M (r + 1) (k : Int) := a4.2.2 _ _ (by omega)
      have f2 : M1 (r + 2) (k : Int) = M (r + 2) (k : Int) := a4.2.2 _ _ (by omega)
      have f3 : M1 (r + 3) (k : Int) = M (r + 3) (k : Int) := a4.2.2 _ _ (by omega)
      have f4 : M (r + 3) (k : Int) = (((M (r + 3) (k : Int)).toNat : Nat) : Int) := by omega
      have u1 : M1 78 5 = M 78 5 := UN_78 a4.1.2
      have hm : hA (fun k => M (r + 1) (k : Int)) k < 128 := by have := hA_le (fun k => M (r + 1) (k : Int)) k; omega
      refine tb_X6_makeValue_6 (c := false) ?_
      simp only [kb_X6_makeValue_6, w_ild_2, w_ald_1, w_gf_7_4, tw_f, w_ic_ge, w_ald_0, w_iv1, tfr_0, tfr_1, tfr_2, tfr_3, tfr_4, w_iv3, w_ist_3, tkl_n, tkl_i, tkl_l, tkl_r, w_ild_3, w_if_eq, w_ire, trg, true_and, and_true, Nat.reduceAdd, Nat.reduceSub, eq_self, tsh_77, tyk_8, tcq_8, tyk_7, tcq_7, t0, ec]
      repeat refine And.intro (by omega) ?_
      first | refine ⟨fun q => absurd q (by omega), fun _ => ?_⟩ | refine fun _ => ?_
      refine tc_i (D := 1) (fun d' hd' => z_actAt hr hk60 a4.1.1 hd') (by omega) ?_
      rintro z1 M2 ⟨rfl, rfl⟩
      try simp only [kb_X6_makeValue_6, w_ild_2, w_ald_1, w_gf_7_4, tw_f, w_ic_ge, w_ald_0, w_iv1, tfr_0, tfr_1, tfr_2, tfr_3, tfr_4, w_iv3, w_ist_3, tkl_n, tkl_i, tkl_l, tkl_r, w_ild_3, w_if_eq, w_ire, trg, true_and, and_true, Nat.reduceAdd, Nat.reduceSub, eq_self, tsh_77, tyk_8, tcq_8, tyk_7, tcq_7, t0, ec]
      refine tc_l (D := 1) (fun d' hd' => z_numberAt hr hk60 hd') (by omega) ?_
      rintro z2 M3 ⟨rfl, rfl⟩
      try simp only [kb_X6_makeValue_6, w_ild_2, w_ald_1, w_gf_7_4, tw_f, w_ic_ge, w_ald_0, w_iv1, tfr_0, tfr_1, tfr_2, tfr_3, tfr_4, w_iv3, w_ist_3, tkl_n, tkl_i, tkl_l, tkl_r, w_ild_3, w_if_eq, w_ire, trg, true_and, and_true, Nat.reduceAdd, Nat.reduceSub, eq_self, tsh_77, tyk_8, tcq_8, tyk_7, tcq_7, t0, ec]
      refine tc_i (D := 1) (fun d' hd' => z_scaleAt hr hk60 hd') (by omega) ?_
      rintro z3 M4 ⟨rfl, rfl⟩
      try simp only [kb_X6_makeValue_6, w_ild_2, w_ald_1, w_gf_7_4, tw_f, w_ic_ge, w_ald_0, w_iv1, tfr_0, tfr_1, tfr_2, tfr_3, tfr_4, w_iv3, w_ist_3, tkl_n, tkl_i, tkl_l, tkl_r, w_ild_3, w_if_eq, w_ire, trg, true_and, and_true, Nat.reduceAdd, Nat.reduceSub, eq_self, tsh_77, tyk_8, tcq_8, tyk_7, tcq_7, t0, ec]
      rw [f1, f2, f3, f4]
      refine tc_i (D := 7) (fun d' hd' => z_make (b := b) w2 hm a2 (fun _ => ⟨⟨(a4.2.1 3 (by decide)).trans hx.1, hx.2⟩, BX_f hX.1 (fun j => a4.2.2 _ _ (by omega)) (fun j => a4.2.2 _ _ (by omega)), hX.2⟩) (fun _ => ⟨⟨(a4.2.1 4 (by decide)).trans hy.1, hy.2⟩, BX_f hY.1 (fun j => a4.2.2 _ _ (by omega)) (fun j => a4.2.2 _ _ (by omega)), hY.2⟩) (by rw [u1]; exact hu) he a3 hb a4.1.1 hd') (by omega) ?_
      rintro z M5 ⟨q0, q1, q2, q3⟩
      try simp only [kb_X6_makeValue_6, w_ild_2, w_ald_1, w_gf_7_4, tw_f, w_ic_ge, w_ald_0, w_iv1, tfr_0, tfr_1, tfr_2, tfr_3, tfr_4, w_iv3, w_ist_3, tkl_n, tkl_i, tkl_l, tkl_r, w_ild_3, w_if_eq, w_ire, trg, true_and, and_true, Nat.reduceAdd, Nat.reduceSub, eq_self, tsh_77, tyk_8, tcq_8, tyk_7, tcq_7, t0, ec]
      rw [u1] at q1
      have a5 := MKF_tr a4 q3
      repeat refine And.intro (by omega) ?_
      refine ⟨fun g => ?_, fun g => ?_⟩
      · obtain ⟨m', B', r1, r2⟩ := q1 g
        have hm' := AR_h (A := fun k => M (r + 1) (k : Int)) (k := k) rfl rfl r1
        subst hm'
        refine tb_X6_makeValue_40 (c := false) ?_
        simp only [kb_X6_makeValue_40, w_inc2, tkl_n, tkl_i, tkl_l, tkl_r, w_goto, true_and, and_true, Nat.reduceAdd, Nat.reduceSub, eq_self]
        repeat refine And.intro (by omega) ?_
        rw [show ((k : Nat) : Int) + 1 = ((k + 1 : Nat) : Int) by omega]
        refine ih M5 (k + 1) B' _ (by omega) (by omega) ?_ r2 q2 a5
        rw [EVS_s]
        exact ⟨⟨_, B, a1, r1⟩, fun i hi => (r2.2 i hi).2⟩
      · exact ⟨_, rfl, rfl, q0, fun h => absurd h g, q2, a5⟩
  refine tb_X6_makeValue_0 (c := false) ?_
  simp only [kb_X6_makeValue_0, w_ald_0, w_iv0, tfr_0, tfr_1, tfr_2, tfr_3, tfr_4, w_ic, w_ist_2, tkl_n, tkl_i, tkl_l, tkl_r, w_nil, true_and, and_true, Nat.reduceAdd, Nat.reduceSub, eq_self, tsh_77, tyk_8, tcq_8, tyk_7, tcq_7]
  refine tc_n (D := 0) (fun d' hd' => z_clear (b := b) hb hC) (by omega) ?_
  rintro M1 ⟨q1, q2, q3, q4⟩
  try simp only [kb_X6_makeValue_0, w_ald_0, w_iv0, tfr_0, tfr_1, tfr_2, tfr_3, tfr_4, w_ic, w_ist_2, tkl_n, tkl_i, tkl_l, tkl_r, w_nil, true_and, and_true, Nat.reduceAdd, Nat.reduceSub, eq_self, tsh_77, tyk_8, tcq_8, tyk_7, tcq_7]
  exact n6 c M1 0 (fun _ => (0, 0)) _ rfl (Nat.zero_le _) rfl ⟨q1, fun i hi => absurd hi (Nat.not_lt_zero i)⟩ (RO_u hro (q3 79 4 (by decide)) (q3 79 5 (by decide))) q4
end HAND
