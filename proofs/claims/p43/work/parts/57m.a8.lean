/-! THE CLASS BY VALUES: powers; digits of a quotient. -/
theorem FTc_n {t N K : Int} (hK : 0 < K) (h : FTc t N K) : FTc (-t) (-N) K := by
  obtain ⟨h1, h2⟩ := h
  unfold FTc
  rw [cd_n hK]
  omega
/-- a power, and by what it is to be divided -/
def pwrN (v : Int) (x : Nat) : Int := if x = 0 then 10000000000 else v ^ x
noncomputable def pwrK (x : Nat) : Int := if x = 0 then 1 else TT (10 * (x - 1))
theorem pwrK_pos (x : Nat) : 0 < pwrK x := by
  unfold pwrK
  split
  · decide
  · exact TT_pos _
theorem pw_code {t v N : Int} {x be : Nat} (hN : 0 ≤ N) (h : PW v N x be) (hs : SD t N (TT (5 * (be - 2)))) : FTc t (pwrN v x) (pwrK x) := by
  have hT := TT_pos (5 * (be - 2))
  rcases h with ⟨rfl, rfl, rfl⟩ | ⟨h1, j, h2, h3, h4, h5⟩
  · have g := (SD_F hT hN hs).1
    have e : TT (5 * (2 - 2)) = 1 := TT_v.1
    rw [e] at g
    exact g
  · unfold pwrN pwrK
    rw [if_neg (by omega), if_neg (by omega)]
    rcases h5 with h5 | h5
    · subst h5
      have g := (SD_F hT hN hs).1
      rw [show 5 * (be - 2) = 10 * (j - 1) by omega, h3] at g
      exact g
    · have eK : TT (5 * be) = TT (5 * (be - 2)) * 10000000000 := by rw [show 5 * be = 5 * (be - 2) + 10 by omega, TT_add, TT_10]
      rw [eK] at h5
      have hq : (10000000000000000000000 : Int) ≤ N / TT (5 * (be - 2)) := by
        refine Int.le_ediv_of_mul_le hT ?_
        generalize TT (5 * (be - 2)) = K at h5 ⊢
        omega
      unfold FTc
      rcases hs with ⟨g1, g2⟩ | g1
      · have r1 := cd_r g2
        have r2 : 2 * (N / TT (5 * (be - 2))) ≤ cd N (TT (5 * (be - 2))) := by unfold cd; split <;> omega
        rw [← g1] at r1 r2
        omega
      · omega
theorem powi_0 {v : Int} {x : Nat} (hv : 0 ≤ v) : 0 ≤ v ^ x := by
  induction x with
  | zero =>
    rw [Int.pow_zero]
    decide
  | succ x ih =>
    rw [Int.pow_succ]
    exact Int.mul_nonneg ih hv
theorem PW_0 {v N : Int} {x be : Nat} (hv : 0 ≤ v) (h : PW v N x be) : 0 ≤ N := by
  rcases h with ⟨_, rfl, _⟩ | ⟨_, j, _, rfl, _⟩
  · decide
  · exact powi_0 hv
section HAND
variable {e : tE} {b d n : Nat} {M : tM}
theorem y_toPower {x1 x : Nat} {v : Int} (hx : x ≤ 9) (h1 : cl x1 3) (hx1 : x1 < 79 ∨ 85 < x1) (hv : BB M x1 v) (rv : ((-100000000000000000000000 < v) ∧ v < 100000000000000000000000)) (hro : RO M) (hb : b < 2) (hC : CI M) (hd : 2 ≤ d) : tC e d 2577 [.inr (.inr (.inl 79)), .inr (.inr (.inl x1)), .inl (x : Int)] M n (tQn n (fun M' => (∃ t, RN M' t ∧ FTc t (pwrN v x) (pwrK x)) ∧ RO M' ∧ RF b M M')) := by
  have Rv : RV v := by unfold RV; omega
  refine tst_X8_toPower ?_
  refine tb_X8_toPower_0 (c := false) ?_
  simp only [kb_X8_toPower_0, w_ald_0, w_gf_10_2, tw_f, w_ald_1, w_iv1, tfr_0, tfr_1, tfr_2, tfr_3, tfr_4, w_is1, w_ist_3, tkl_n, tkl_i, tkl_l, tkl_r, w_ild_2, w_iv0, w_ild_3, w_if_eq, w_ic, w_irem, w_ic_ne, w_nil, true_and, and_true, Nat.reduceAdd, Nat.reduceSub, eq_self, tsh_79, tyk_10, tcq_10, tsh_81, tsh_82, tyk_3, tcq_3]
  refine tc_n (D := 0) (fun d' hd' => y_copy (b := b) cl_81 h1 hv (Or.inl hb) hC) (by omega) ?_
  rintro M1 ⟨p1, f1⟩
  try simp only [kb_X8_toPower_0, w_ald_0, w_gf_10_2, tw_f, w_ald_1, w_iv1, tfr_0, tfr_1, tfr_2, tfr_3, tfr_4, w_is1, w_ist_3, tkl_n, tkl_i, tkl_l, tkl_r, w_ild_2, w_iv0, w_ild_3, w_if_eq, w_ic, w_irem, w_ic_ne, w_nil, true_and, and_true, Nat.reduceAdd, Nat.reduceSub, eq_self, tsh_79, tyk_10, tcq_10, tsh_81, tsh_82, tyk_3, tcq_3]
  refine tc_i (D := 1) (fun d' hd' => y_dropSign (b := b) cl_81 p1 Rv (Or.inl hb) f1.1 hd') (by omega) ?_
  rintro z M2 ⟨p2, f2⟩
  try simp only [kb_X8_toPower_0, w_ald_0, w_gf_10_2, tw_f, w_ald_1, w_iv1, tfr_0, tfr_1, tfr_2, tfr_3, tfr_4, w_is1, w_ist_3, tkl_n, tkl_i, tkl_l, tkl_r, w_ild_2, w_iv0, w_ild_3, w_if_eq, w_ic, w_irem, w_ic_ne, w_nil, true_and, and_true, Nat.reduceAdd, Nat.reduceSub, eq_self, tsh_79, tyk_10, tcq_10, tsh_81, tsh_82, tyk_3, tcq_3]
  obtain ⟨V, g1, g2, g3⟩ := abs_of rv p2
  have hro2 : RO M2 := RO_u (RO_u hro (f1.2.2 79 4 (by decide)) (f1.2.2 79 5 (by decide))) (f2.2.2 79 4 (by decide)) (f2.2.2 79 5 (by decide))
  refine tc_n (D := 1) (fun d' hd' => y_raise (b := b) (x := x) hx g1 g2 hro2 hb f2.1 hd') (by omega) ?_
  rintro M3 ⟨⟨a, c, u, be, N, r1, r2, r3, r4, r5, r6, r7⟩, f3⟩
  try simp only [kb_X8_toPower_0, w_ald_0, w_gf_10_2, tw_f, w_ald_1, w_iv1, tfr_0, tfr_1, tfr_2, tfr_3, tfr_4, w_is1, w_ist_3, tkl_n, tkl_i, tkl_l, tkl_r, w_ild_2, w_iv0, w_ild_3, w_if_eq, w_ic, w_irem, w_ic_ne, w_nil, true_and, and_true, Nat.reduceAdd, Nat.reduceSub, eq_self, tsh_79, tyk_10, tcq_10, tsh_81, tsh_82, tyk_3, tcq_3]
  refine tc_n (D := 1) (fun d' hd' => y_settle (b := b) r1 r2.1 r2.2 r3 r4 r5 hb f3.1.1 hd') (by omega) ?_
  rintro M4 ⟨⟨t, q1, q2⟩, q3, q4⟩
  try simp only [kb_X8_toPower_0, w_ald_0, w_gf_10_2, tw_f, w_ald_1, w_iv1, tfr_0, tfr_1, tfr_2, tfr_3, tfr_4, w_is1, w_ist_3, tkl_n, tkl_i, tkl_l, tkl_r, w_ild_2, w_iv0, w_ild_3, w_if_eq, w_ic, w_irem, w_ic_ne, w_nil, true_and, and_true, Nat.reduceAdd, Nat.reduceSub, eq_self, tsh_79, tyk_10, tcq_10, tsh_81, tsh_82, tyk_3, tcq_3]
  have ft := pw_code (PW_0 g2.1 r7) r7 q2
  have hro4 : RO M4 := ⟨a, c, r1.1, (q4 79 4 (by decide) (by decide)).trans r1.2.1, (q4 79 5 (by decide) (by decide)).trans r1.2.2⟩
  have r04 : RF b M M4 := RF_tr (RF_d f1 (by decide)) (RF_tr (RF_d f2 (by decide)) (RF_tr (FP_R f3) ⟨q3, fun k i g => q4 k i (by omega) (by omega)⟩))
  have n40 : ∀ (L : tL) (M' : tM), ((∃ t, RN M' t ∧ FTc t (pwrN v x) (pwrK x)) ∧ RO M' ∧ RF b M M') → tT e d 2577 40 L [] M' n (tQn n (fun M' => (∃ t, RN M' t ∧ FTc t (pwrN v x) (pwrK x)) ∧ RO M' ∧ RF b M M')) := by
    intro L M' h
    refine tb_X8_toPower_40 (c := false) ?_
    simp only [kb_X8_toPower_40, w_re, true_and, and_true, Nat.reduceAdd, Nat.reduceSub, eq_self]
    exact ⟨rfl, rfl, h⟩
  refine ⟨by omega, fun h => n40 _ _ ⟨⟨t, q1, ?_⟩, hro4, r04⟩, fun h => ?_⟩
  · rcases g3 with ⟨a1, a2⟩ | ⟨a1, a2⟩
    · omega
    · rw [← a2]
      exact ft
  have hz1 : z = 1 ∧ V = -v := by omega
  have ev : v = -V := by omega
  have em : ((x : Nat) : Int).tmod 2 = ((x % 2 : Nat) : Int) := by
    rw [Int.tmod_eq_emod_of_nonneg (by omega)]
    omega
  rw [em]
  repeat refine And.intro (by omega) ?_
  refine ⟨fun h2 => n40 _ _ ⟨⟨t, q1, ?_⟩, hro4, r04⟩, fun h2 => ?_⟩
  · rw [ev]
    unfold pwrN at ft ⊢
    rw [neg_pow2, if_pos (show x % 2 = 0 by omega)]
    exact ft
  refine tc_n (D := 1) (fun d' hd' => y_rturn (b := b) q1 (FTc_r ft) hb q3.1 hd') (by omega) ?_
  rintro M5 ⟨q5, q6⟩
  try simp only [kb_X8_toPower_0, w_ald_0, w_gf_10_2, tw_f, w_ald_1, w_iv1, tfr_0, tfr_1, tfr_2, tfr_3, tfr_4, w_is1, w_ist_3, tkl_n, tkl_i, tkl_l, tkl_r, w_ild_2, w_iv0, w_ild_3, w_if_eq, w_ic, w_irem, w_ic_ne, w_nil, true_and, and_true, Nat.reduceAdd, Nat.reduceSub, eq_self, tsh_79, tyk_10, tcq_10, tsh_81, tsh_82, tyk_3, tcq_3]
  refine n40 _ _ ⟨⟨-t, q5, ?_⟩, RO_u hro4 (q6.2.2 79 4 (by decide)) (q6.2.2 79 5 (by decide)), RF_tr r04 (RF_d q6 (by decide))⟩
  have fn := FTc_n (pwrK_pos x) ft
  have e2 : pwrN v x = -pwrN V x := by
    unfold pwrN
    rw [if_neg (by omega), if_neg (by omega), ev, neg_pow2, if_neg (by omega)]
  rw [e2]
  exact fn
/-- what a division has left, and by what it divides -/
def LF (M : tM) (A : Int) : Prop := M 79 9 = A / 10000000000 ∧ M 79 10 = A % 10000000000
def LY (M : tM) (B : Int) : Prop := M 79 11 = B / 10000000000 ∧ M 79 12 = B % 10000000000
def SLE (b : Nat) (M M' : tM) : Prop := (CI M' ∧ pE b M M') ∧ ∀ (k : Nat) (i : Int), ¬ (k = 79 ∧ (i = 9 ∨ i = 10 ∨ i = 11 ∨ i = 12)) → M' k i = M k i
theorem SLE_refl {b : Nat} {M : tM} (hC : CI M) : SLE b M M := ⟨⟨hC, pE_refl⟩, fun _ _ _ => rfl⟩
theorem SLE_tr {b : Nat} {M M1 M2 : tM} (h1 : SLE b M M1) (h2 : SLE b M1 M2) : SLE b M M2 := ⟨⟨h2.1.1, pE_tr h1.1.2 h2.1.2⟩, fun k i g => (h2.2 k i g).trans (h1.2 k i g)⟩
theorem SLE_f {f : Nat} {v : Int} (hf : f = 9 ∨ f = 10 ∨ f = 11 ∨ f = 12) (hb : b < 2) (hC : CI M) : SLE b M (tU M 79 (f : Int) v) := by
  refine ⟨(CE_l hf hb hC).1, fun k i g => ?_⟩
  by_cases hk : k = 79
  · rw [hk]
    exact tU_ni (by omega)
  · exact tU_nk hk
theorem SLE_9 {v : Int} (hb : b < 2) (hC : CI M) : SLE b M (tU M 79 9 v) := SLE_f (f := 9) (by decide) hb hC
theorem SLE_10 {v : Int} (hb : b < 2) (hC : CI M) : SLE b M (tU M 79 10 v) := SLE_f (f := 10) (by decide) hb hC
theorem SLE_11 {v : Int} (hb : b < 2) (hC : CI M) : SLE b M (tU M 79 11 v) := SLE_f (f := 11) (by decide) hb hC
theorem SLE_12 {v : Int} (hb : b < 2) (hC : CI M) : SLE b M (tU M 79 12 v) := SLE_f (f := 12) (by decide) hb hC
theorem SLE_R {M' : tM} (h : SLE b M M') : RF b M M' := ⟨h.1, fun k i g => h.2 k i (by omega)⟩
theorem TT_1 : TT 1 = 10 := by
  unfold TT
  rw [tn_def]
  rfl
theorem TT_s1 (k : Nat) : TT (k + 1) = TT k * 10 := by rw [TT_add, TT_1]
theorem td_e {y q : Int} (h : 0 ≤ y) : y.tdiv q = y / q ∧ y.tmod q = y % q := ⟨Int.tdiv_eq_ediv_of_nonneg h, Int.tmod_eq_emod_of_nonneg h⟩
theorem y_align {x1 x2 : Nat} {A B : Int} (h1 : cl x1 3) (h2 : cl x2 3) (hv : BB M x1 A) (hw : BB M x2 B) (rA : 0 ≤ A ∧ A < 1000000000000000000000000) (rB : 0 < B ∧ B < 1000000000000000000000000) (hb : b < 2) (hC : CI M) : tC e d 2561 [.inr (.inr (.inl 79)), .inr (.inr (.inl x1)), .inr (.inr (.inl x2))] M n (tQi n (fun z M' => ∃ k : Nat, (z = (k : Int) + 1 ∧ k ≤ 26) ∧ LF M' A ∧ LY M' (B * TT k) ∧ A < B * TT (k + 1) ∧ (k = 0 ∨ B * TT k ≤ A) ∧ SLE b M M')) := by
  have g1 := h1.1
  have g2 := h2.1
  have ne1 : x1 ≠ 79 := fun q => by rw [q, tsh_79] at g1; cases g1
  have ne2 : x2 ≠ 79 := fun q => by rw [q, tsh_79] at g2; cases g2
  have T26 : TT 26 = 100000000000000000000000000 := by
    unfold TT
    rw [tn_def]
    rfl
  refine tst_X8_align ?_
  have n37 : ∀ (fu : Nat) (M1 : tM) (k : Nat) (w5 w6 w7 w8 : Option tV), 26 - k ≤ fu → k ≤ 26 → LF M1 A → LY M1 (B * TT k) → (k = 0 ∨ B * TT k ≤ A) → SLE b M M1 → tT e d 2561 37 [some (.inr (.inr (.inl (79)))), some (.inr (.inr (.inl (x1)))), some (.inr (.inr (.inl (x2)))), some (.inl ((k : Int) + 1)), some (.inl ((k : Int))), w5, w6, w7, w8] [] M1 n (tQi n (fun z M' => ∃ k : Nat, (z = (k : Int) + 1 ∧ k ≤ 26) ∧ LF M' A ∧ LY M' (B * TT k) ∧ A < B * TT (k + 1) ∧ (k = 0 ∨ B * TT k ≤ A) ∧ SLE b M M')) := by
    intro fu
    induction fu with
    | zero =>
      intro M1 k w5 w6 w7 w8 hf hk hL hY hk0 hS
      exfalso
      have hke : k = 26 := by omega
      subst hke
      rcases hk0 with q | q
      · omega
      · rw [T26] at q
        omega
    | succ fu ih =>
      intro M1 k w5 w6 w7 w8 hf hk hL hY hk0 hS
      have hkl : k < 26 := by
        rcases Nat.lt_or_ge k 26 with q | q
        · exact q
        · exfalso
          have hke : k = 26 := by omega
          subst hke
          rcases hk0 with q | q
          · omega
          · rw [T26] at q
            omega
      have hT := TT_pos k
      have hB1 : 0 < B * TT k := Int.mul_pos rB.1 hT
      have hB2 : B * TT k < 1000000000000000000000000 := by
        rcases hk0 with q | q
        · rw [q, TT_v.1]
          omega
        · omega
      have eS : B * TT (k + 1) = B * TT k * 10 := by rw [TT_s1, Int.mul_assoc]
      have n135 : ∀ (w5 w6 w7 w8 : Option tV), A < B * TT (k + 1) → tT e d 2561 135 [some (.inr (.inr (.inl (79)))), some (.inr (.inr (.inl (x1)))), some (.inr (.inr (.inl (x2)))), some (.inl ((k : Int) + 1)), some (.inl ((k : Int))), w5, w6, w7, w8] [] M1 n (tQi n (fun z M' => ∃ k : Nat, (z = (k : Int) + 1 ∧ k ≤ 26) ∧ LF M' A ∧ LY M' (B * TT k) ∧ A < B * TT (k + 1) ∧ (k = 0 ∨ B * TT k ≤ A) ∧ SLE b M M')) := by
        intro w5 w6 w7 w8 h
        refine tb_X8_align_135 (c := false) ?_
        simp only [kb_X8_align_135, w_ild_3, w_ire, trg, true_and, and_true, Nat.reduceAdd, Nat.reduceSub, eq_self]
        exact ⟨_, rfl, rfl, k, ⟨rfl, hk⟩, hL, hY, h, hk0, hS⟩
      obtain ⟨l1, l2⟩ := hL
      obtain ⟨y1, y2⟩ := hY
      generalize hBk : B * TT k = Bk at *
      have eW : Bk / 10000000000 * 10 + Bk % 10000000000 * 10 / 10000000000 = Bk * 10 / 10000000000 := by omega
      have eP : Bk % 10000000000 * 10 % 10000000000 = Bk * 10 % 10000000000 := by omega
      have td := td_e (y := Bk % 10000000000 * 10) (q := 10000000000) (by omega)
      refine tb_X8_align_37 (c := false) ?_
      simp only [kb_X8_align_37, w_ild4, w_bi, w_ic_ge, w_ald_0, w_gf_10_11, tw_f, w_ld2, w_lmul, w_gf_10_12, w_ldiv, w_ladd, w_lst5, tkl_n, tkl_i, tkl_l, tkl_r, w_lrem, w_lst7, w_gf_10_9, w_lld5, w_lcmp, ne_eq, tlc_r, tlc_eq, tlc_lt, tlc_ge, tlc_gt, tlc_le, w_if_lt, w_if_ne, w_gf_10_10, w_lld7, w_if_ge, w_goto, true_and, and_true, Nat.reduceAdd, Nat.reduceSub, eq_self, tsh_79, tyk_10, tcq_10, tsh_81, tsh_82, tyk_3, tcq_3, l1, l2, y1, y2]
      repeat refine And.intro (by omega) ?_
      first | refine ⟨fun q => absurd q (by omega), fun _ => ?_⟩ | refine fun _ => ?_
      rw [td.1, td.2, eW, eP]
      repeat refine And.intro (by omega) ?_
      have n114 : Bk * 10 ≤ A → tT e d 2561 114 [some (.inr (.inr (.inl (79)))), some (.inr (.inr (.inl (x1)))), some (.inr (.inr (.inl (x2)))), some (.inl ((k : Int) + 1)), some (.inl ((k : Int))), some (.inr (.inl (Bk * 10 / 10000000000))), none, some (.inr (.inl (Bk * 10 % 10000000000))), none] [] M1 n (tQi n (fun z M' => ∃ k : Nat, (z = (k : Int) + 1 ∧ k ≤ 26) ∧ LF M' A ∧ LY M' (B * TT k) ∧ A < B * TT (k + 1) ∧ (k = 0 ∨ B * TT k ≤ A) ∧ SLE b M M')) := by
        intro h
        refine tb_X8_align_114 (c := false) ?_
        simp only [kb_X8_align_114, w_ald_0, w_lld5, w_pf_10_11, w_lld7, w_pf_10_12, w_inc3, tkl_n, tkl_i, tkl_l, tkl_r, w_inc4, w_goto, true_and, and_true, Nat.reduceAdd, Nat.reduceSub, eq_self, tsh_79, tyk_10, tcq_10, tsh_81, tsh_82, tyk_3, tcq_3]
        repeat refine And.intro (by omega) ?_
        have s1 := SLE_11 (v := Bk * 10 / 10000000000) hb hS.1.1
        have s2 := SLE_tr s1 (SLE_12 (v := Bk * 10 % 10000000000) hb s1.1.1)
        rw [show ((k : Nat) : Int) + 1 = ((k + 1 : Nat) : Int) by omega]
        refine ih _ (k + 1) _ _ _ _ (by omega) (by omega) ⟨?_, ?_⟩ ⟨?_, ?_⟩ (Or.inr (by omega)) (SLE_tr hS s2)
        · rw [tU_ni (by decide), tU_ni (by decide)]; exact l1
        · rw [tU_ni (by decide), tU_ni (by decide)]; exact l2
        · rw [tU_ni (by decide), tU_eq, eS]
        · rw [tU_eq, eS]
      refine ⟨fun q => n135 _ _ _ _ (by omega), fun q => ?_⟩
      repeat refine And.intro (by omega) ?_
      refine ⟨fun q2 => n114 (by omega), fun q2 => ?_⟩
      repeat refine And.intro (by omega) ?_
      exact ⟨fun q3 => n114 (by omega), fun q3 => n135 _ _ _ _ (by omega)⟩
  refine tb_X8_align_0 (c := false) ?_
  simp only [kb_X8_align_0, w_ald_0, w_ald_1, w_gf_3_0, tw_f, w_pf_10_9, w_gf_3_1, w_pf_10_10, w_ald_2, w_pf_10_11, w_pf_10_12, w_ic, w_ist_3, tkl_n, tkl_i, tkl_l, tkl_r, w_ist4, w_nil, true_and, and_true, Nat.reduceAdd, Nat.reduceSub, eq_self, tsh_79, tyk_10, tcq_10, tsh_81, tsh_82, tyk_3, tcq_3, g1, g2]
  obtain ⟨v1, v2⟩ := hv
  obtain ⟨w1, w2⟩ := hw
  have s1 := SLE_9 (v := M x1 0) hb hC
  have s2 := SLE_tr s1 (SLE_10 (v := M x1 1) hb s1.1.1)
  have s3 := SLE_tr s2 (SLE_11 (v := M x2 0) hb s2.1.1)
  have s4 := SLE_tr s3 (SLE_12 (v := M x2 1) hb s3.1.1)
  simp only [tU_nk ne1, tU_nk ne2]
  refine n37 26 _ 0 _ _ _ _ (by omega) (by omega) ⟨?_, ?_⟩ ⟨?_, ?_⟩ (Or.inl rfl) s4
  · rw [tU_ni (by decide), tU_ni (by decide), tU_ni (by decide), tU_eq, v1]
  · rw [tU_ni (by decide), tU_ni (by decide), tU_eq, v2]
  · rw [tU_ni (by decide), tU_eq, w1, TT_v.1, Int.mul_one]
  · rw [tU_eq, w2, TT_v.1, Int.mul_one]
theorem TT_13 {m : Nat} (h : m ≤ 13) : TT m ≤ 10000000000000 := by
  have g := TT_le h
  have e : TT 13 = 10000000000000 := by
    unfold TT
    rw [tn_def]
    rfl
  omega
theorem y_nextDigits {m : Nat} {A B : Int} (hm : m ≤ 13) (hL : LF M A) (hY : LY M B) (rA : 0 ≤ A ∧ A < B * 10) (rB : 0 < B ∧ B < 1000000000000000000000000) (hb : b < 2) (hC : CI M) : tC e d 2565 [.inr (.inr (.inl 79)), .inl (m : Int)] M n (tQl n (fun z M' => ∃ A' : Int, LF M' A' ∧ LY M' B ∧ (0 ≤ A' ∧ A' < B * 10) ∧ A * TT m = z * (B * 10) + A' ∧ (0 ≤ z ∧ z < TT m) ∧ SLE b M M')) := by
  refine tst_X8_nextDigits ?_
  have n5 : ∀ (fu : Nat) (M1 : tM) (j : Nat) (R Aj : Int) (w5 : Option tV), m - j ≤ fu → j ≤ m → LF M1 Aj → LY M1 B → (0 ≤ Aj ∧ Aj < B * 10) → A * TT j = R * (B * 10) + Aj → (0 ≤ R ∧ R < TT j) → SLE b M M1 → tT e d 2565 5 [some (.inr (.inr (.inl (79)))), some (.inl ((m : Int))), some (.inr (.inl (R))), none, some (.inl ((j : Int))), w5] [] M1 n (tQl n (fun z M' => ∃ A' : Int, LF M' A' ∧ LY M' B ∧ (0 ≤ A' ∧ A' < B * 10) ∧ A * TT m = z * (B * 10) + A' ∧ (0 ≤ z ∧ z < TT m) ∧ SLE b M M')) := by
    intro fu
    induction fu with
    | zero =>
      intro M1 j R Aj w5 hf hj h1 h2 h3 h4 h5 h6
      have hje : j = m := by omega
      subst hje
      refine tb_X8_nextDigits_5 (c := false) ?_
      simp only [kb_X8_nextDigits_5, w_ild4, w_ild_1, w_ic_ge, w_ic, w_ist5, tkl_n, tkl_i, tkl_l, tkl_r, w_nil, true_and, and_true, Nat.reduceAdd, Nat.reduceSub, eq_self]
      repeat refine And.intro (by omega) ?_
      refine ⟨fun _ => ?_, fun q => absurd (by omega) q⟩
      refine tb_X8_nextDigits_177 (c := false) ?_
      simp only [kb_X8_nextDigits_177, w_lld_2, w_lre, true_and, and_true, Nat.reduceAdd, Nat.reduceSub, eq_self]
      exact ⟨_, rfl, rfl, Aj, h1, h2, h3, h4, h5, h6⟩
    | succ fu ih =>
      intro M1 j R Aj w5 hf hj h1 h2 h3 h4 h5 h6
      rcases Nat.lt_or_ge j m with hlt | hge
      · -- a digit
        have hTj := TT_13 (show j ≤ 13 by omega)
        have n14 : ∀ (fu2 : Nat) (M2 : tM) (dd : Nat) (cur : Int), 9 - dd ≤ fu2 → dd ≤ 9 → LF M2 cur → LY M2 B → cur = Aj - dd * B → 0 ≤ cur → SLE b M M2 → tT e d 2565 14 [some (.inr (.inr (.inl (79)))), some (.inl ((m : Int))), some (.inr (.inl (R))), none, some (.inl ((j : Int))), some (.inl ((dd : Int)))] [] M2 n (tQl n (fun z M' => ∃ A' : Int, LF M' A' ∧ LY M' B ∧ (0 ≤ A' ∧ A' < B * 10) ∧ A * TT m = z * (B * 10) + A' ∧ (0 ≤ z ∧ z < TT m) ∧ SLE b M M')) := by
          intro fu2
          have n120 : ∀ (M2 : tM) (dd : Nat) (cur : Int), dd ≤ 9 → LF M2 cur → LY M2 B → cur = Aj - dd * B → (0 ≤ cur ∧ cur < B) → SLE b M M2 → tT e d 2565 120 [some (.inr (.inr (.inl (79)))), some (.inl ((m : Int))), some (.inr (.inl (R))), none, some (.inl ((j : Int))), some (.inl ((dd : Int)))] [] M2 n (tQl n (fun z M' => ∃ A' : Int, LF M' A' ∧ LY M' B ∧ (0 ≤ A' ∧ A' < B * 10) ∧ A * TT m = z * (B * 10) + A' ∧ (0 ≤ z ∧ z < TT m) ∧ SLE b M M')) := by
            intro M2 dd cur hdd k1 k2 k3 k4 k5
            obtain ⟨l1, l2⟩ := k1
            obtain ⟨y1, y2⟩ := k2
            have td := td_e (y := cur % 10000000000 * 10) (q := 10000000000) (by omega)
            refine tb_X8_nextDigits_120 (c := false) ?_
            simp (disch := decide) only [kb_X8_nextDigits_120, w_lld_2, w_ld2, w_lmul, tw_f, w_ild5, w_i2l, w_ladd, w_lst_2, tkl_n, tkl_i, tkl_l, tkl_r, w_ald_0, w_gf_10_9, w_gf_10_10, w_ldiv, w_pf_10_9, w_lrem, w_pf_10_10, w_inc4, w_goto, true_and, and_true, Nat.reduceAdd, Nat.reduceSub, eq_self, tsh_79, tyk_10, tcq_10, tsh_81, tsh_82, tyk_3, tcq_3, l1, l2, tU_nk, tU_ni, tU_eq]
            repeat refine And.intro (by omega) ?_
            rw [td.1, td.2]
            repeat refine And.intro (by omega) ?_
            rw [show ((j : Nat) : Int) + 1 = ((j + 1 : Nat) : Int) by omega]
            have s1 := SLE_9 (v := cur / 10000000000 * 10 + cur % 10000000000 * 10 / 10000000000) hb k5.1.1
            have s2 := SLE_tr s1 (SLE_10 (v := cur % 10000000000 * 10 % 10000000000) hb s1.1.1)
            refine ih _ (j + 1) (R * 10 + dd) (cur * 10) _ (by omega) (by omega) ⟨?_, ?_⟩ ⟨?_, ?_⟩ (by omega) ?_ ?_ (SLE_tr k5 s2)
            · rw [tU_ni (by decide), tU_eq]
              omega
            · rw [tU_eq]
              omega
            · rw [tU_ni (by decide), tU_ni (by decide), y1]
            · rw [tU_ni (by decide), tU_ni (by decide), y2]
            · rw [TT_s1, ← Int.mul_assoc, h4, k3]
              have e1 : (R * 10 + (dd : Int)) * (B * 10) = R * 10 * (B * 10) + dd * (B * 10) := Int.add_mul ..
              have e2 : R * 10 * (B * 10) = R * (B * 10) * 10 := Int.mul_right_comm ..
              have e3 : (dd : Int) * (B * 10) = dd * B * 10 := (Int.mul_assoc ..).symm
              rw [e1, e2, e3]
              omega
            · rw [TT_s1]
              omega
          induction fu2 with
          | zero =>
            intro M2 dd cur hf2 hdd k1 k2 k3 k4 k5
            have hde : dd = 9 := by omega
            subst hde
            refine tb_X8_nextDigits_14 (c := false) ?_
            simp only [kb_X8_nextDigits_14, w_ild5, w_bi, w_ic_ge, w_ald_0, w_gf_10_9, tw_f, w_gf_10_11, w_lcmp, ne_eq, tlc_r, tlc_eq, tlc_lt, tlc_ge, tlc_gt, tlc_le, w_if_gt, w_if_ne, w_gf_10_10, w_gf_10_12, w_if_lt, w_nil, true_and, and_true, Nat.reduceAdd, Nat.reduceSub, eq_self, tsh_79, tyk_10, tcq_10, tsh_81, tsh_82, tyk_3, tcq_3]
            repeat refine And.intro (by omega) ?_
            refine ⟨fun _ => n120 _ _ _ hdd k1 k2 k3 ⟨k4, by omega⟩ k5, fun q => absurd (by omega) q⟩
          | succ fu2 ih2 =>
            intro M2 dd cur hf2 hdd k1 k2 k3 k4 k5
            rcases Nat.lt_or_ge dd 9 with hd9 | hd9
            · have k1' := k1
              have k2' := k2
              obtain ⟨l1, l2⟩ := k1
              obtain ⟨y1, y2⟩ := k2
              have n57 : B ≤ cur → tT e d 2565 57 [some (.inr (.inr (.inl (79)))), some (.inl ((m : Int))), some (.inr (.inl (R))), none, some (.inl ((j : Int))), some (.inl ((dd : Int)))] [] M2 n (tQl n (fun z M' => ∃ A' : Int, LF M' A' ∧ LY M' B ∧ (0 ≤ A' ∧ A' < B * 10) ∧ A * TT m = z * (B * 10) + A' ∧ (0 ≤ z ∧ z < TT m) ∧ SLE b M M')) := by
                intro h
                have cB : cur < B * 10 := by
                  have p := Int.mul_nonneg (show (0 : Int) ≤ dd by omega) (Int.le_of_lt rB.1)
                  omega
                have n114 : ∀ M3 : tM, LF M3 (cur - B) → LY M3 B → SLE b M M3 → tT e d 2565 114 [some (.inr (.inr (.inl (79)))), some (.inl ((m : Int))), some (.inr (.inl (R))), none, some (.inl ((j : Int))), some (.inl ((dd : Int)))] [] M3 n (tQl n (fun z M' => ∃ A' : Int, LF M' A' ∧ LY M' B ∧ (0 ≤ A' ∧ A' < B * 10) ∧ A * TT m = z * (B * 10) + A' ∧ (0 ≤ z ∧ z < TT m) ∧ SLE b M M')) := by
                  intro M3 a1 a2 a3
                  refine tb_X8_nextDigits_114 (c := false) ?_
                  simp only [kb_X8_nextDigits_114, w_inc5, tkl_n, tkl_i, tkl_l, tkl_r, w_goto, true_and, and_true, Nat.reduceAdd, Nat.reduceSub, eq_self]
                  repeat refine And.intro (by omega) ?_
                  rw [show ((dd : Nat) : Int) + 1 = ((dd + 1 : Nat) : Int) by omega]
                  refine ih2 M3 (dd + 1) (cur - B) (by omega) (by omega) a1 a2 ?_ (by omega) a3
                  rw [k3, show ((dd + 1 : Nat) : Int) = (dd : Int) + 1 by omega, Int.add_mul, Int.one_mul]
                  omega
                refine tb_X8_nextDigits_57 (c := false) ?_
                simp (disch := decide) only [kb_X8_nextDigits_57, w_ald_0, w_dupi, w_dupr, w_gf_10_9, tw_f, w_gf_10_11, w_lsub, w_pf_10_9, w_gf_10_10, w_gf_10_12, w_pf_10_10, w_lc0, w_lcmp, ne_eq, tlc_r, tlc_eq, tlc_lt, tlc_ge, tlc_gt, tlc_le, w_if_ge, w_ld2, w_ladd, w_lc1, w_nil, true_and, and_true, Nat.reduceAdd, Nat.reduceSub, eq_self, tsh_79, tyk_10, tcq_10, tsh_81, tsh_82, tyk_3, tcq_3, l1, l2, y1, y2, tU_nk, tU_ni, tU_eq]
                repeat refine And.intro (by omega) ?_
                have s1 := SLE_9 (v := cur / 10000000000 - B / 10000000000) hb k5.1.1
                have s2 := SLE_tr s1 (SLE_10 (v := cur % 10000000000 - B % 10000000000) hb s1.1.1)
                refine ⟨fun q => n114 _ ⟨?_, ?_⟩ ⟨?_, ?_⟩ (SLE_tr k5 s2), fun q => ?_⟩
                · rw [tU_ni (by decide), tU_eq]
                  omega
                · rw [tU_eq]
                  omega
                · rw [tU_ni (by decide), tU_ni (by decide), y1]
                · rw [tU_ni (by decide), tU_ni (by decide), y2]
                repeat refine And.intro (by omega) ?_
                have s3 := SLE_tr s2 (SLE_10 (v := cur % 10000000000 - B % 10000000000 + 10000000000) hb s2.1.1)
                have s4 := SLE_tr s3 (SLE_9 (v := cur / 10000000000 - B / 10000000000 - 1) hb s3.1.1)
                refine n114 _ ⟨?_, ?_⟩ ⟨?_, ?_⟩ (SLE_tr k5 s4)
                · rw [tU_eq]
                  omega
                · rw [tU_ni (by decide), tU_eq]
                  omega
                · rw [tU_ni (by decide), tU_ni (by decide), tU_ni (by decide), tU_ni (by decide), y1]
                · rw [tU_ni (by decide), tU_ni (by decide), tU_ni (by decide), tU_ni (by decide), y2]
              have cB : cur < B * 10 := by
                have p := Int.mul_nonneg (show (0 : Int) ≤ dd by omega) (Int.le_of_lt rB.1)
                omega
              refine tb_X8_nextDigits_14 (c := false) ?_
              simp only [kb_X8_nextDigits_14, w_ild5, w_bi, w_ic_ge, w_ald_0, w_gf_10_9, tw_f, w_gf_10_11, w_lcmp, ne_eq, tlc_r, tlc_eq, tlc_lt, tlc_ge, tlc_gt, tlc_le, w_if_gt, w_if_ne, w_gf_10_10, w_gf_10_12, w_if_lt, w_nil, true_and, and_true, Nat.reduceAdd, Nat.reduceSub, eq_self, tsh_79, tyk_10, tcq_10, tsh_81, tsh_82, tyk_3, tcq_3, l1, l2, y1, y2]
              repeat refine And.intro (by omega) ?_
              first | refine ⟨fun q => absurd q (by omega), fun _ => ?_⟩ | refine fun _ => ?_
              repeat refine And.intro (by omega) ?_
              refine ⟨fun q => n57 (by omega), fun q => ?_⟩
              repeat refine And.intro (by omega) ?_
              refine ⟨fun q2 => n120 _ _ _ hdd k1' k2' k3 ⟨k4, by omega⟩ k5, fun q2 => ?_⟩
              repeat refine And.intro (by omega) ?_
              exact ⟨fun q3 => n120 _ _ _ hdd k1' k2' k3 ⟨k4, by omega⟩ k5, fun q3 => n57 (by omega)⟩
            · have hde : dd = 9 := by omega
              subst hde
              refine tb_X8_nextDigits_14 (c := false) ?_
              simp only [kb_X8_nextDigits_14, w_ild5, w_bi, w_ic_ge, w_ald_0, w_gf_10_9, tw_f, w_gf_10_11, w_lcmp, ne_eq, tlc_r, tlc_eq, tlc_lt, tlc_ge, tlc_gt, tlc_le, w_if_gt, w_if_ne, w_gf_10_10, w_gf_10_12, w_if_lt, w_nil, true_and, and_true, Nat.reduceAdd, Nat.reduceSub, eq_self, tsh_79, tyk_10, tcq_10, tsh_81, tsh_82, tyk_3, tcq_3]
              repeat refine And.intro (by omega) ?_
              refine ⟨fun _ => n120 _ _ _ hdd k1 k2 k3 ⟨k4, by omega⟩ k5, fun q => absurd (by omega) q⟩
        refine tb_X8_nextDigits_5 (c := false) ?_
        simp only [kb_X8_nextDigits_5, w_ild4, w_ild_1, w_ic_ge, w_ic, w_ist5, tkl_n, tkl_i, tkl_l, tkl_r, w_nil, true_and, and_true, Nat.reduceAdd, Nat.reduceSub, eq_self]
        repeat refine And.intro (by omega) ?_
        first | refine ⟨fun q => absurd q (by omega), fun _ => ?_⟩ | refine fun _ => ?_
        exact n14 9 M1 0 Aj (by omega) (by omega) h1 h2 (by rw [show ((0 : Nat) : Int) = 0 from rfl, Int.zero_mul]; omega) h3.1 h6
      · have hje : j = m := by omega
        subst hje
        refine tb_X8_nextDigits_5 (c := false) ?_
        simp only [kb_X8_nextDigits_5, w_ild4, w_ild_1, w_ic_ge, w_ic, w_ist5, tkl_n, tkl_i, tkl_l, tkl_r, w_nil, true_and, and_true, Nat.reduceAdd, Nat.reduceSub, eq_self]
        repeat refine And.intro (by omega) ?_
        refine ⟨fun _ => ?_, fun q => absurd (by omega) q⟩
        refine tb_X8_nextDigits_177 (c := false) ?_
        simp only [kb_X8_nextDigits_177, w_lld_2, w_lre, true_and, and_true, Nat.reduceAdd, Nat.reduceSub, eq_self]
        exact ⟨_, rfl, rfl, Aj, h1, h2, h3, h4, h5, h6⟩
  refine tb_X8_nextDigits_0 (c := false) ?_
  simp only [kb_X8_nextDigits_0, w_lc0, w_lst_2, tkl_n, tkl_i, tkl_l, tkl_r, w_ic, w_ist4, w_nil, true_and, and_true, Nat.reduceAdd, Nat.reduceSub, eq_self]
  exact n5 m M 0 0 A _ (by omega) (by omega) hL hY rA (by rw [TT_v.1, Int.zero_mul]; omega) (by rw [TT_v.1]; decide) (SLE_refl hC)
end HAND
