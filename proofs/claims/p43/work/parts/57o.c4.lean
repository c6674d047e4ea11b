/-! THE CLASS BY VALUES: what the curves hand to the reckoner. -/
theorem TT_36 : TT 36 = 1000000000000000000000000000000000000 := by
  unfold TT
  rw [tn_def]
  rfl
/-- the whole and the ten digits of a long number -/
theorem tell_v {M : tM} {r : Nat} {N : Int} (h : LX M r N) : N / 100000000000000000000000000000000000000000000 = (M (r + 1) 7 * 1000000000 + M (r + 1) 6) * 10000000000 + (M (r + 1) 5 * 10 + M (r + 1) 4 / 100000000) := by
  have s4 := S9_r (k := 4) (r := r + 1) (M := M) (fun j q => h.1 j (by omega))
  have e : S9 M (r + 1) 8 = (((S9 M (r + 1) 4 + M (r + 1) 4 * TT 36) + M (r + 1) 5 * TT (9 * 5)) + M (r + 1) 6 * TT (9 * 6)) + M (r + 1) 7 * TT (9 * 7) := rfl
  rw [h.2, TT_9s 4 |> (fun g => (show TT (9 * 5) = TT 36 * 1000000000 from g)), (show TT (9 * 6) = TT 36 * 1000000000 * 1000000000 from by rw [show TT (9 * 6) = TT (9 * (5 + 1)) from rfl, TT_9s, show TT (9 * 5) = TT 36 * 1000000000 from TT_9s 4]), (show TT (9 * 7) = TT 36 * 1000000000 * 1000000000 * 1000000000 from by rw [show TT (9 * 7) = TT (9 * (6 + 1)) from rfl, TT_9s, show TT (9 * 6) = TT (9 * (5 + 1)) from rfl, TT_9s, show TT (9 * 5) = TT 36 * 1000000000 from TT_9s 4]), TT_36] at e
  rw [show TT (9 * 4) = 1000000000000000000000000000000000000 from TT_36] at s4
  have a4 : 0 ≤ M (r + 1) 4 ∧ M (r + 1) 4 < 1000000000 := h.1 4 (by omega)
  generalize S9 M (r + 1) 4 = s at e s4
  omega
section HAND
variable {e : tE} {b d n : Nat} {M : tM}
theorem tsh_86 : tsh 86 = 5 := by rw [tsh_def]; decide +kernel
theorem cl_86 : cl 86 5 := ⟨tsh_86, by decide⟩
theorem tyk_5 : tyk 5 = (0, 5, 13) := rfl
theorem tsh_87 : tsh 87 = 6 := by rw [tsh_def]; decide +kernel
theorem tsh_90 : tsh 90 = 6 := by rw [tsh_def]; decide +kernel
theorem tsh_93 : tsh 93 = 6 := by rw [tsh_def]; decide +kernel
theorem tsh_96 : tsh 96 = 6 := by rw [tsh_def]; decide +kernel
theorem tsh_99 : tsh 99 = 6 := by rw [tsh_def]; decide +kernel
theorem tsh_102 : tsh 102 = 6 := by rw [tsh_def]; decide +kernel
theorem fx_87 : FXC 87 := by unfold FXC; omega
theorem fx_90 : FXC 90 := by unfold FXC; omega
theorem fx_93 : FXC 93 := by unfold FXC; omega
theorem fx_96 : FXC 96 := by unfold FXC; omega
theorem fx_99 : FXC 99 := by unfold FXC; omega
theorem fx_102 : FXC 102 := by unfold FXC; omega
theorem CE_86 {f : Nat} {v : Int} (hf : f = 1 ∨ f = 2) (hv : 0 ≤ v ∧ v ≤ 1) (hb : b < 2) (hC : CI M) : CE b M (tU M 86 (f : Int) v) 86 := by
  rcases hf with rfl | rfl
  · exact ⟨⟨CI_put (i := 1) hC tsh_86 (fun _ => by show (0 : Int) ≤ _ ∧ _ ≤ (1 : Int); omega), pE_put (prt_f (a := 5) (f := 1) (Or.inl hb) cl_86 (fun q => absurd q (by decide)) (fun q => absurd q (by decide)) (by decide))⟩, fun _ _ q => tU_nk q⟩
  · exact ⟨⟨CI_put (i := 2) hC tsh_86 (fun _ => by show (0 : Int) ≤ _ ∧ _ ≤ (1 : Int); omega), pE_put (prt_f (a := 5) (f := 2) (Or.inl hb) cl_86 (fun q => absurd q (by decide)) (fun q => absurd q (by decide)) (by decide))⟩, fun _ _ q => tU_nk q⟩
/-- the curves' flags and their sum change -/
def BG (b : Nat) (M M' : tM) : Prop := (CI M' ∧ pE b M M') ∧ ∀ (k : Nat) (i : Int), k ≠ 86 → k ≠ 97 → k ≠ 98 → M' k i = M k i
theorem BG_tr {b : Nat} {M M1 M2 : tM} (h1 : BG b M M1) (h2 : BG b M1 M2) : BG b M M2 := ⟨⟨h2.1.1, pE_tr h1.1.2 h2.1.2⟩, fun k i a1 a2 a3 => (h2.2 k i a1 a2 a3).trans (h1.2 k i a1 a2 a3)⟩
theorem BG_c {b : Nat} {M M1 : tM} (h : CE b M M1 86) : BG b M M1 := ⟨h.1, fun k i a1 _ _ => h.2 k i a1⟩
theorem BG_g {b : Nat} {M M1 : tM} (h : GE b M M1 96) : BG b M M1 := ⟨h.1, fun k i _ a2 a3 => h.2 k i a2 a3⟩
theorem BG_F {b : Nat} {M M1 : tM} (h : BG b M M1) : AF b M M1 := ⟨h.1, fun k i g => h.2 k i (by omega) (by omega) (by omega)⟩
theorem AF_g {b r : Nat} {M M1 : tM} (hr : FXC r) (h : GE b M M1 r) : AF b M M1 := ⟨h.1, fun k i g => h.2 k i (by unfold FXC at hr; omega) (by unfold FXC at hr; omega)⟩
theorem f_begin {h : Int} (hh : 0 ≤ h ∧ h ≤ 1) (hb : b < 2) (hC : CI M) (hd : 1 ≤ d) : tC e d 1282 [.inr (.inr (.inl 86)), .inl h] M n (tQn n (fun M' => (M' 86 1 = 0 ∧ M' 86 2 = h ∧ LX M' 96 0) ∧ BG b M M')) := by
  refine tst_X3_begin ?_
  refine tb_X3_begin_0 (c := false) ?_
  simp only [kb_X3_begin_0, w_ald_0, w_ic, w_pf_5_1, w_ild_1, w_pf_5_2, w_gf_5_6, tw_f, w_iv0, tfr_0, tfr_1, tfr_2, tfr_3, tfr_4, w_re, true_and, and_true, Nat.reduceAdd, Nat.reduceSub, eq_self, tsh_86, tyk_5, tcq_5, tsh_87, tsh_90, tsh_93, tsh_96, tsh_99, tsh_102, tyk_6, tcq_6, tsh_79, tyk_10, tcq_10]
  have c1 := CE_86 (f := 1) (v := 0) (Or.inl rfl) (by decide) hb hC
  have c2 := CE_tr c1 (CE_86 (f := 2) (v := h) (Or.inr rfl) hh hb c1.1.1)
  repeat refine And.intro (by omega) ?_
  refine tc_n (D := 0) (fun d' hd' => f_clear (b := b) fx_96 hb c2.1.1) (by omega) ?_
  rintro M1 ⟨q1, q2⟩
  try simp only [kb_X3_begin_0, w_ald_0, w_ic, w_pf_5_1, w_ild_1, w_pf_5_2, w_gf_5_6, tw_f, w_iv0, tfr_0, tfr_1, tfr_2, tfr_3, tfr_4, w_re, true_and, and_true, Nat.reduceAdd, Nat.reduceSub, eq_self, tsh_86, tyk_5, tcq_5, tsh_87, tsh_90, tsh_93, tsh_96, tsh_99, tsh_102, tyk_6, tcq_6, tsh_79, tyk_10, tcq_10]
  refine ⟨rfl, rfl, ⟨?_, ?_, q1⟩, BG_tr (BG_c c2) (BG_g q2)⟩
  · rw [q2.2 86 1 (by decide) (by decide)]
    exact (tU_ni (by decide)).trans (tU_eq ..)
  · rw [q2.2 86 2 (by decide) (by decide)]
    exact tU_eq ..
theorem f_tell {N h s : Int} (hN : LX M 96 N) (hh : M 86 2 = h) (hh1 : 0 ≤ h ∧ h ≤ 1) (hs : M 86 1 = s) (hs1 : 0 ≤ s ∧ s ≤ 1) (hro : RO M) (hb : b < 2) (hC : CI M) (hd : 2 ≤ d) : tC e d 1290 [.inr (.inr (.inl 86))] M n (tQn n (fun M' => RN M' (if s = 0 then 2 * (N / 100000000000000000000000000000000000000000000) + h else -(2 * (N / 100000000000000000000000000000000000000000000) + h)) ∧ RO M' ∧ RF b M M')) := by
  have tv := tell_v hN
  have rN := LX_r hN
  have a4 : 0 ≤ M (96 + 1) 4 ∧ M (96 + 1) 4 < 1000000000 := hN.1 4 (by omega)
  have a5 : 0 ≤ M (96 + 1) 5 ∧ M (96 + 1) 5 < 1000000000 := hN.1 5 (by omega)
  have a6 : 0 ≤ M (96 + 1) 6 ∧ M (96 + 1) 6 < 1000000000 := hN.1 6 (by omega)
  have a7 : 0 ≤ M (96 + 1) 7 ∧ M (96 + 1) 7 < 1000000000 := hN.1 7 (by omega)
  have b4 : 0 ≤ M 97 ((4 : Nat) : Int) ∧ M 97 ((4 : Nat) : Int) < 1000000000 := a4
  have td := td_e (y := M (96 + 1) 4) (q := 100000000) a4.1
  refine tst_X3_tell ?_
  refine tb_X3_tell_0 (c := false) ?_
  simp only [kb_X3_tell_0, w_ald_0, w_gf_5_6, tw_f, w_bi, w_iv1, tfr_0, tfr_1, tfr_2, tfr_3, tfr_4, w_ld2, w_lmul, w_ladd, w_lst_1, tkl_n, tkl_i, tkl_l, tkl_r, w_ic, w_ldiv, w_lst_3, w_gf_5_0, w_lld_1, w_lld_3, w_gf_5_2, w_iv3, w_gf_5_1, w_if_eq, w_iv0, w_nil, true_and, and_true, Nat.reduceAdd, Nat.reduceSub, eq_self, tsh_86, tyk_5, tcq_5, tsh_87, tsh_90, tsh_93, tsh_96, tsh_99, tsh_102, tyk_6, tcq_6, tsh_79, tyk_10, tcq_10]
  refine tc_l (D := 0) (fun d' hd' => f_limbAt (I := 7) fx_96 (by decide)) (by omega) ?_
  rintro z7 M1 ⟨rfl, rfl⟩
  try simp only [kb_X3_tell_0, w_ald_0, w_gf_5_6, tw_f, w_bi, w_iv1, tfr_0, tfr_1, tfr_2, tfr_3, tfr_4, w_ld2, w_lmul, w_ladd, w_lst_1, tkl_n, tkl_i, tkl_l, tkl_r, w_ic, w_ldiv, w_lst_3, w_gf_5_0, w_lld_1, w_lld_3, w_gf_5_2, w_iv3, w_gf_5_1, w_if_eq, w_iv0, w_nil, true_and, and_true, Nat.reduceAdd, Nat.reduceSub, eq_self, tsh_86, tyk_5, tcq_5, tsh_87, tsh_90, tsh_93, tsh_96, tsh_99, tsh_102, tyk_6, tcq_6, tsh_79, tyk_10, tcq_10]
  repeat refine And.intro (by omega) ?_
  refine tc_l (D := 0) (fun d' hd' => f_limbAt (I := 6) fx_96 (by decide)) (by omega) ?_
  rintro z6 M2 ⟨rfl, rfl⟩
  try simp only [kb_X3_tell_0, w_ald_0, w_gf_5_6, tw_f, w_bi, w_iv1, tfr_0, tfr_1, tfr_2, tfr_3, tfr_4, w_ld2, w_lmul, w_ladd, w_lst_1, tkl_n, tkl_i, tkl_l, tkl_r, w_ic, w_ldiv, w_lst_3, w_gf_5_0, w_lld_1, w_lld_3, w_gf_5_2, w_iv3, w_gf_5_1, w_if_eq, w_iv0, w_nil, true_and, and_true, Nat.reduceAdd, Nat.reduceSub, eq_self, tsh_86, tyk_5, tcq_5, tsh_87, tsh_90, tsh_93, tsh_96, tsh_99, tsh_102, tyk_6, tcq_6, tsh_79, tyk_10, tcq_10]
  repeat refine And.intro (by omega) ?_
  refine tc_l (D := 0) (fun d' hd' => f_limbAt (I := 5) fx_96 (by decide)) (by omega) ?_
  rintro z5 M3 ⟨rfl, rfl⟩
  try simp only [kb_X3_tell_0, w_ald_0, w_gf_5_6, tw_f, w_bi, w_iv1, tfr_0, tfr_1, tfr_2, tfr_3, tfr_4, w_ld2, w_lmul, w_ladd, w_lst_1, tkl_n, tkl_i, tkl_l, tkl_r, w_ic, w_ldiv, w_lst_3, w_gf_5_0, w_lld_1, w_lld_3, w_gf_5_2, w_iv3, w_gf_5_1, w_if_eq, w_iv0, w_nil, true_and, and_true, Nat.reduceAdd, Nat.reduceSub, eq_self, tsh_86, tyk_5, tcq_5, tsh_87, tsh_90, tsh_93, tsh_96, tsh_99, tsh_102, tyk_6, tcq_6, tsh_79, tyk_10, tcq_10]
  repeat refine And.intro (by omega) ?_
  refine tc_l (D := 0) (fun d' hd' => f_limbAt (I := 4) fx_96 (by decide)) (by omega) ?_
  rintro z4 M4 ⟨rfl, rfl⟩
  try simp only [kb_X3_tell_0, w_ald_0, w_gf_5_6, tw_f, w_bi, w_iv1, tfr_0, tfr_1, tfr_2, tfr_3, tfr_4, w_ld2, w_lmul, w_ladd, w_lst_1, tkl_n, tkl_i, tkl_l, tkl_r, w_ic, w_ldiv, w_lst_3, w_gf_5_0, w_lld_1, w_lld_3, w_gf_5_2, w_iv3, w_gf_5_1, w_if_eq, w_iv0, w_nil, true_and, and_true, Nat.reduceAdd, Nat.reduceSub, eq_self, tsh_86, tyk_5, tcq_5, tsh_87, tsh_90, tsh_93, tsh_96, tsh_99, tsh_102, tyk_6, tcq_6, tsh_79, tyk_10, tcq_10, hh]
  have td2 := td.1
  have hx2 : 0 ≤ M4 (96 + 1) 5 * 10 + (M4 (96 + 1) 4).tdiv 100000000 ∧ M4 (96 + 1) 5 * 10 + (M4 (96 + 1) 4).tdiv 100000000 < 10000000000 := by
    rw [td2]
    omega
  repeat refine And.intro (by omega) ?_
  refine tc_n (D := 0) (fun d' hd' => y_rassign (b := b) (x1 := M4 (96 + 1) 7 * 1000000000 + M4 (96 + 1) 6) (x2 := M4 (96 + 1) 5 * 10 + (M4 (96 + 1) 4).tdiv 100000000) (x3 := h) hx2 hh1 hb hC) (by omega) ?_
  rintro M5 ⟨q1, q2, q3⟩
  have e1 : M5 86 1 = s := (q3 86 1 (by decide) (by omega)).trans hs
  have ro5 : RO M5 := RO_u hro (q3 79 4 (by decide) (by omega)) (q3 79 5 (by decide) (by omega))
  have rf5 : RF b M4 M5 := ⟨q2, fun k i g => q3 k i (by omega) (by omega)⟩
  have ec : 2 * ((M4 (96 + 1) 7 * 1000000000 + M4 (96 + 1) 6) * 10000000000 + (M4 (96 + 1) 5 * 10 + (M4 (96 + 1) 4).tdiv 100000000)) + h = 2 * (N / 100000000000000000000000000000000000000000000) + h := by rw [tv, td2]
  rw [ec] at q1
  try simp only [kb_X3_tell_0, w_ald_0, w_gf_5_6, tw_f, w_bi, w_iv1, tfr_0, tfr_1, tfr_2, tfr_3, tfr_4, w_ld2, w_lmul, w_ladd, w_lst_1, tkl_n, tkl_i, tkl_l, tkl_r, w_ic, w_ldiv, w_lst_3, w_gf_5_0, w_lld_1, w_lld_3, w_gf_5_2, w_iv3, w_gf_5_1, w_if_eq, w_iv0, w_nil, true_and, and_true, Nat.reduceAdd, Nat.reduceSub, eq_self, tsh_86, tyk_5, tcq_5, tsh_87, tsh_90, tsh_93, tsh_96, tsh_99, tsh_102, tyk_6, tcq_6, tsh_79, tyk_10, tcq_10, hh, e1]
  repeat refine And.intro (by omega) ?_
  refine ⟨fun g => ?_, fun g => ?_⟩
  · refine tb_X3_tell_77 (c := false) ?_
    simp only [kb_X3_tell_77, w_re, true_and, and_true, Nat.reduceAdd, Nat.reduceSub, eq_self]
    rw [if_pos g]
    exact ⟨rfl, rfl, q1, ro5, rf5⟩
  · refine tc_n (D := 1) (fun d' hd' => y_rturn (b := b) q1 (by unfold RV; omega) hb q2.1 hd') (by omega) ?_
    rintro M6 ⟨q4, q5⟩
    try simp only [kb_X3_tell_0, w_ald_0, w_gf_5_6, tw_f, w_bi, w_iv1, tfr_0, tfr_1, tfr_2, tfr_3, tfr_4, w_ld2, w_lmul, w_ladd, w_lst_1, tkl_n, tkl_i, tkl_l, tkl_r, w_ic, w_ldiv, w_lst_3, w_gf_5_0, w_lld_1, w_lld_3, w_gf_5_2, w_iv3, w_gf_5_1, w_if_eq, w_iv0, w_nil, true_and, and_true, Nat.reduceAdd, Nat.reduceSub, eq_self, tsh_86, tyk_5, tcq_5, tsh_87, tsh_90, tsh_93, tsh_96, tsh_99, tsh_102, tyk_6, tcq_6, tsh_79, tyk_10, tcq_10]
    refine tb_X3_tell_77 (c := false) ?_
    simp only [kb_X3_tell_77, w_re, true_and, and_true, Nat.reduceAdd, Nat.reduceSub, eq_self]
    rw [if_neg g]
    exact ⟨rfl, rfl, q4, RO_d ro5 q5 (by decide), RF_tr rf5 (RF_d q5 (by decide))⟩
def sgn2 (A B : Int) : Int := if A < B then 1 else 0
theorem f_settle {A B : Int} (hA : LX M 99 A) (hB : LX M 102 B) (hb : b < 2) (hC : CI M) (hd : 1 ≤ d) : tC e d 1286 [.inr (.inr (.inl 86))] M n (tQn n (fun M' => (M' 86 1 = sgn2 A B ∧ M' 86 2 = M 86 2 ∧ LX M' 96 (if A < B then B - A else A - B)) ∧ BG b M M')) := by
  refine tst_X3_settle ?_
  refine tb_X3_settle_0 (c := false) ?_
  simp only [kb_X3_settle_0, w_ald_0, w_gf_5_7, tw_f, w_gf_5_8, w_iv1, tfr_0, tfr_1, tfr_2, tfr_3, tfr_4, w_pf_5_1, w_gf_5_6, w_gf_5_1, w_if_eq, w_goto, true_and, and_true, Nat.reduceAdd, Nat.reduceSub, eq_self, tsh_86, tyk_5, tcq_5, tsh_87, tsh_90, tsh_93, tsh_96, tsh_99, tsh_102, tyk_6, tcq_6, tsh_79, tyk_10, tcq_10]
  refine tc_i (D := 0) (fun d' hd' => f_isBelow fx_99 fx_102 hA hB) (by omega) ?_
  rintro z M1 ⟨q, rfl⟩
  try simp only [kb_X3_settle_0, w_ald_0, w_gf_5_7, tw_f, w_gf_5_8, w_iv1, tfr_0, tfr_1, tfr_2, tfr_3, tfr_4, w_pf_5_1, w_gf_5_6, w_gf_5_1, w_if_eq, w_goto, true_and, and_true, Nat.reduceAdd, Nat.reduceSub, eq_self, tsh_86, tyk_5, tcq_5, tsh_87, tsh_90, tsh_93, tsh_96, tsh_99, tsh_102, tyk_6, tcq_6, tsh_79, tyk_10, tcq_10]
  have hz : z = sgn2 A B := by unfold sgn2; split <;> omega
  have hz1 : 0 ≤ z ∧ z ≤ 1 := by omega
  have c1 := CE_86 (f := 1) (v := z) (Or.inl rfl) hz1 hb hC
  repeat refine And.intro (by omega) ?_
  generalize hM2 : tU M1 86 1 z = M2 at c1 ⊢
  have e1 : M2 86 1 = z := by rw [← hM2]; exact tU_eq ..
  have e2 : M2 86 2 = M1 86 2 := by rw [← hM2]; exact tU_ni (by decide)
  have hA2 : LX M2 99 A := LX_u hA (fun i => c1.2 _ _ (by decide))
  have hB2 : LX M2 102 B := LX_u hB (fun i => c1.2 _ _ (by decide))
  -- the greater one is copied
  have n37 : ∀ (x y : Nat) (P W : Int), ((z = 1 ∧ x = 102 ∧ y = 99) ∨ (z = 0 ∧ x = 99 ∧ y = 102)) → LX M2 x P → LX M2 y W → W ≤ P → (if A < B then B - A else A - B) = P - W → tT e d 1286 37 [some (.inr (.inr (.inl (86))))] [.inr (.inr (.inl x)), .inr (.inr (.inl 96))] M2 n (tQn n (fun M' => (M' 86 1 = sgn2 A B ∧ M' 86 2 = M1 86 2 ∧ LX M' 96 (if A < B then B - A else A - B)) ∧ BG b M1 M')) := by
    intro x y P W hxy hP hW hle hv
    have hx : FXC x := by unfold FXC; omega
    have hy : FXC y := by unfold FXC; omega
    refine tb_X3_settle_37 (c := false) ?_
    simp only [kb_X3_settle_37, w_iv1, tfr_0, tfr_1, tfr_2, tfr_3, tfr_4, w_ald_0, w_gf_5_6, tw_f, w_gf_5_1, w_if_eq, w_gf_5_7, w_goto, true_and, and_true, Nat.reduceAdd, Nat.reduceSub, eq_self, tsh_86, tyk_5, tcq_5, tsh_87, tsh_90, tsh_93, tsh_96, tsh_99, tsh_102, tyk_6, tcq_6, tsh_79, tyk_10, tcq_10]
    refine tc_n (D := 0) (fun d' hd' => f_copy (b := b) fx_96 hx (by omega) hP hb c1.1.1) (by omega) ?_
    rintro M3 ⟨q1, q2⟩
    have e3 : M3 86 1 = z := (q2.2 86 1 (by decide) (by decide)).trans e1
    try simp only [kb_X3_settle_37, w_iv1, tfr_0, tfr_1, tfr_2, tfr_3, tfr_4, w_ald_0, w_gf_5_6, tw_f, w_gf_5_1, w_if_eq, w_gf_5_7, w_goto, true_and, and_true, Nat.reduceAdd, Nat.reduceSub, eq_self, tsh_86, tyk_5, tcq_5, tsh_87, tsh_90, tsh_93, tsh_96, tsh_99, tsh_102, tyk_6, tcq_6, tsh_79, tyk_10, tcq_10, e3]
    have n62 : tT e d 1286 62 [some (.inr (.inr (.inl (86))))] [.inr (.inr (.inl y)), .inr (.inr (.inl 96))] M3 n (tQn n (fun M' => (M' 86 1 = sgn2 A B ∧ M' 86 2 = M1 86 2 ∧ LX M' 96 (if A < B then B - A else A - B)) ∧ BG b M1 M')) := by
      have hW3 : LX M3 y W := LX_u hW (fun i => q2.2 _ _ (by unfold FXC at hy; omega) (by unfold FXC at hy; omega))
      refine tb_X3_settle_62 (c := false) ?_
      simp only [kb_X3_settle_62, w_iv1, tfr_0, tfr_1, tfr_2, tfr_3, tfr_4, w_re, true_and, and_true, Nat.reduceAdd, Nat.reduceSub, eq_self, tsh_86, tyk_5, tcq_5, tsh_87, tsh_90, tsh_93, tsh_96, tsh_99, tsh_102, tyk_6, tcq_6, tsh_79, tyk_10, tcq_10]
      refine tc_n (D := 0) (fun d' hd' => f_minus (b := b) fx_96 hy q1 hW3 hle hb q2.1.1) (by omega) ?_
      rintro M4 ⟨q3, q4⟩
      try simp only [kb_X3_settle_62, w_iv1, tfr_0, tfr_1, tfr_2, tfr_3, tfr_4, w_re, true_and, and_true, Nat.reduceAdd, Nat.reduceSub, eq_self, tsh_86, tyk_5, tcq_5, tsh_87, tsh_90, tsh_93, tsh_96, tsh_99, tsh_102, tyk_6, tcq_6, tsh_79, tyk_10, tcq_10]
      rw [hv]
      refine ⟨rfl, rfl, ⟨?_, ?_, q3⟩, BG_tr (BG_c c1) (BG_tr (BG_g q2) (BG_g q4))⟩
      · rw [q4.2 86 1 (by decide) (by decide), e3, hz]
      · rw [q4.2 86 2 (by decide) (by decide), q2.2 86 2 (by decide) (by decide), e2]
    repeat refine And.intro (by omega) ?_
    refine ⟨fun g => ?_, fun g => ?_⟩
    · have : y = 102 := by omega
      subst this
      refine tb_X3_settle_58 (c := false) ?_
      simp only [kb_X3_settle_58, w_ald_0, w_gf_5_8, tw_f, w_nil, true_and, and_true, Nat.reduceAdd, Nat.reduceSub, eq_self, tsh_86, tyk_5, tcq_5, tsh_87, tsh_90, tsh_93, tsh_96, tsh_99, tsh_102, tyk_6, tcq_6, tsh_79, tyk_10, tcq_10]
      exact n62
    · have : y = 99 := by omega
      subst this
      exact n62
  rw [e1]
  repeat refine And.intro (by omega) ?_
  refine ⟨fun g => ?_, fun g => ?_⟩
  · refine tb_X3_settle_33 (c := false) ?_
    simp only [kb_X3_settle_33, w_ald_0, w_gf_5_7, tw_f, w_nil, true_and, and_true, Nat.reduceAdd, Nat.reduceSub, eq_self, tsh_86, tyk_5, tcq_5, tsh_87, tsh_90, tsh_93, tsh_96, tsh_99, tsh_102, tyk_6, tcq_6, tsh_79, tyk_10, tcq_10]
    exact n37 99 102 A B (Or.inr ⟨g, rfl, rfl⟩) hA2 hB2 (by omega) (if_neg (by omega))
  · exact n37 102 99 B A (Or.inl ⟨by omega, rfl, rfl⟩) hB2 hA2 (by omega) (if_pos (by omega))
/-- the rows of the tables -/
def tabL (j : Nat) : List Int32 := if j = 2 then bLOGS else bARCS
def tbN (L : List Int32) (row : Nat) : Nat → Int
  | 0 => 0
  | i + 1 => tbN L row i + (L.getD (row * 6 + i) 0).toInt * 1000000000 ^ i
theorem tab_all : ∀ k, k < 54 → (0 ≤ (bLOGS.getD k 0).toInt ∧ (bLOGS.getD k 0).toInt < 1000000000) ∧ (0 ≤ (bARCS.getD k 0).toInt ∧ (bARCS.getD k 0).toInt < 1000000000) := by decide +kernel
theorem tab_r {j k : Nat} (hk : k < 54) : 0 ≤ ((tabL j).getD k 0).toInt ∧ ((tabL j).getD k 0).toInt < 1000000000 := by
  unfold tabL
  split
  · exact (tab_all k hk).1
  · exact (tab_all k hk).2
theorem txv_t {j k : Nat} (hj : j = 2 ∨ j = 3) : txv e j (k : Int) = ((tabL j).getD k 0).toInt := by
  rcases hj with rfl | rfl
  · show (bLOGS.getD ((k : Nat) : Int).toNat 0).toInt = _
    rw [nat_n]
    rfl
  · show (bARCS.getD ((k : Nat) : Int).toNat 0).toInt = _
    rw [nat_n]
    rfl
theorem tbN_r {j row : Nat} (hrow : row ≤ 8) : ∀ {i : Nat}, i ≤ 6 → 0 ≤ tbN (tabL j) row i ∧ tbN (tabL j) row i < 1000000000 ^ i := by
  intro i
  induction i with
  | zero => intro _; exact ⟨Int.le_refl _, by show (0 : Int) < _; decide⟩
  | succ i ih =>
    intro hi
    have g := ih (by omega)
    have t := tab_r (j := j) (k := row * 6 + i) (by omega)
    have p : (0 : Int) < 1000000000 ^ i := Int.pow_pos (by decide)
    have p1 := Int.mul_nonneg t.1 (Int.le_of_lt p)
    have p2 : ((tabL j).getD (row * 6 + i) 0).toInt * 1000000000 ^ i ≤ 999999999 * 1000000000 ^ i := Int.mul_le_mul_of_nonneg_right (by omega) (Int.le_of_lt p)
    show 0 ≤ tbN (tabL j) row i + ((tabL j).getD (row * 6 + i) 0).toInt * 1000000000 ^ i ∧ tbN (tabL j) row i + ((tabL j).getD (row * 6 + i) 0).toInt * 1000000000 ^ i < 1000000000 ^ i * 1000000000
    generalize ((tabL j).getD (row * 6 + i) 0).toInt * 1000000000 ^ i = w at *
    generalize (1000000000 : Int) ^ i = P at *
    omega
theorem txl_t {j : Nat} (hj : j = 2 ∨ j = 3) : txl e j = 54 := by
  rcases hj with rfl | rfl <;> rfl
theorem f_load {r j row f : Nat} (hr : FXC r) (hj : j = 2 ∨ j = 3) (hrow : row ≤ 8) (hf : f ≤ 80) (hb : b < 2) (hC : CI M) (hd : 1 ≤ d) : tC e d 1542 [.inr (.inr (.inl r)), .inr (.inr (.inr j)), .inl (row : Int), .inl (f : Int)] M n (tQn n (fun M' => LX M' r ((f : Int) * tbN (tabL j) row 6) ∧ GE b M M' r)) := by
  obtain ⟨t0, t1, t2⟩ := FS_of hr
  have hl := txl_t (e := e) hj
  have hj4 : j < 4 := by omega
  have hj0 : (1 : Nat) = if j = 0 then 2 else 1 := by rw [if_neg (by omega)]
  refine tst_X4_load ?_
  refine tb_X4_load_0 (c := false) ?_
  simp only [kb_X4_load_0, w_ald_0, w_iv0, tfr_0, tfr_1, tfr_2, tfr_3, tfr_4, w_ild_2, w_bi, w_imul, w_ist4, tkl_n, tkl_i, tkl_l, tkl_r, w_ild4, w_if_lt, w_iadd, w_ald_1, w_len, w_lenx, w_ic_le, w_nil, true_and, and_true, Nat.reduceAdd, Nat.reduceSub, eq_self, tyk_6, tcq_6, tyk_23, tyk_24, tcq_8n, tcq_10n, t0, hl]
  refine tc_n (D := 0) (fun d' hd' => f_clear (b := b) hr hb hC) (by omega) ?_
  rintro M1 ⟨q1, q2⟩
  try simp only [kb_X4_load_0, w_ald_0, w_iv0, tfr_0, tfr_1, tfr_2, tfr_3, tfr_4, w_ild_2, w_bi, w_imul, w_ist4, tkl_n, tkl_i, tkl_l, tkl_r, w_ild4, w_if_lt, w_iadd, w_ald_1, w_len, w_lenx, w_ic_le, w_nil, true_and, and_true, Nat.reduceAdd, Nat.reduceSub, eq_self, tyk_6, tcq_6, tyk_23, tyk_24, tcq_8n, tcq_10n, t0, hl]
  have hz : ∀ k : Nat, k < 8 → M1 (r + 1) (k : Int) = 0 := fun k hk => by
    rw [S9_lb q1 hk]
    unfold lb
    rw [Int.zero_ediv]
    rfl
  -- the row is there
  have n32 : ∀ (fu : Nat) (M2 : tM) (I : Nat) (cy : Int) (w8 w9 : Option tV), 6 - I = fu → I ≤ 6 → (0 ≤ cy ∧ cy ≤ 80) → (∀ k : Nat, k < 8 → 0 ≤ M2 (r + 1) (k : Int) ∧ M2 (r + 1) (k : Int) < 1000000000) → (∀ k : Nat, I ≤ k → k < 8 → M2 (r + 1) (k : Int) = 0) → S9 M2 (r + 1) I + cy * TT (9 * I) = (f : Int) * tbN (tabL j) row I → GE b M M2 r → tT e d 1542 32 [some (.inr (.inr (.inl (r)))), some (.inr (.inr (.inr j))), some (.inl ((row : Int))), some (.inl ((f : Int))), some (.inl ((row : Int) * 6)), some (.inr (.inl (cy))), none, some (.inl ((I : Int))), w8, w9] [] M2 n (tQn n (fun M' => LX M' r ((f : Int) * tbN (tabL j) row 6) ∧ GE b M M' r)) := by
    intro fu
    induction fu with
    | zero =>
      intro M2 I cy w8 w9 hf2 hI hcy hd1 hd2 hs hg
      have hIe : I = 6 := by omega
      subst hIe
      refine tb_X4_load_32 (c := false) ?_
      simp only [kb_X4_load_32, w_ild7, w_bi, w_ic_ge, w_ald_1, w_ild4, w_iadd, w_ia, w_iax, w_i2l, w_ild_3, w_lmul, tw_f, w_lld5, w_ladd, w_lst8, tkl_n, tkl_i, tkl_l, tkl_r, w_ald_0, w_gf_6_0, w_lld8, w_ld2, w_lrem, w_las, w_ldiv, w_lst5, w_inc7, w_goto, true_and, and_true, Nat.reduceAdd, Nat.reduceSub, eq_self, tyk_6, tcq_6, tyk_23, tyk_24, tcq_8n, tcq_10n]
      repeat refine And.intro (by omega) ?_
      refine ⟨fun _ => ?_, fun q => absurd (by omega) q⟩
      refine tb_X4_load_82 (c := false) ?_
      simp only [kb_X4_load_82, w_ald_0, w_gf_6_0, tw_f, w_bi, w_lld5, w_las, w_re, true_and, and_true, Nat.reduceAdd, Nat.reduceSub, eq_self, tyk_6, tcq_6, tyk_23, tyk_24, tcq_8n, tcq_10n, t0, t1]
      repeat refine And.intro (by omega) ?_
      have e8 : S9 M2 (r + 1) 8 = S9 M2 (r + 1) 6 := by
        have z6 := hd2 6 (by omega) (by omega)
        have z7 := hd2 7 (by omega) (by omega)
        rw [show (8 : Nat) = 7 + 1 from rfl, S9_s, z7, Int.zero_mul, Int.add_zero, show (7 : Nat) = 6 + 1 from rfl, S9_s, z6, Int.zero_mul, Int.add_zero]
      refine ⟨rfl, rfl, ⟨fun k hk => ?_, ?_⟩, GE_tr hg (lim_put (i := 6) (v := cy) hb hg.1.1 hr (by omega))⟩
      · by_cases hk6 : k = 6
        · rw [hk6, show (((6 : Nat) : Int)) = 6 from rfl, tU_eq]
          omega
        · rw [tU_ni (by omega)]
          exact hd1 k hk
      · have g := S9_set (M := M2) (r := r + 1) (j := 6) (v := cy) (k := 8) (by omega)
        have z6 := hd2 6 (by omega) (by omega)
        rw [z6, Int.sub_zero] at g
        rw [show ((6 : Nat) : Int) = 6 from rfl] at g
        rw [g, e8, hs]
    | succ fu ih =>
      intro M2 I cy w8 w9 hf2 hI hcy hd1 hd2 hs hg
      have ei : (row : Int) * 6 + (I : Int) = ((row * 6 + I : Nat) : Int) := by omega
      have ev := txv_t (e := e) (j := j) (k := row * 6 + I) hj
      have tr := tab_r (j := j) (k := row * 6 + I) (by omega)
      have p1 : 0 ≤ ((tabL j).getD (row * 6 + I) 0).toInt * (f : Int) := Int.mul_nonneg tr.1 (by omega)
      have p2 : ((tabL j).getD (row * 6 + I) 0).toInt * (f : Int) ≤ 999999999 * 80 := Int.mul_le_mul (by omega) (by omega) (by omega) (by decide)
      have td := td_e (y := ((tabL j).getD (row * 6 + I) 0).toInt * (f : Int) + cy) (q := 1000000000) (by omega)
      refine tb_X4_load_32 (c := false) ?_
      simp only [kb_X4_load_32, w_ild7, w_bi, w_ic_ge, w_ald_1, w_ild4, w_iadd, w_ia, w_iax, w_i2l, w_ild_3, w_lmul, tw_f, w_lld5, w_ladd, w_lst8, tkl_n, tkl_i, tkl_l, tkl_r, w_ald_0, w_gf_6_0, w_lld8, w_ld2, w_lrem, w_las, w_ldiv, w_lst5, w_inc7, w_goto, true_and, and_true, Nat.reduceAdd, Nat.reduceSub, eq_self, tyk_6, tcq_6, tyk_23, tyk_24, tcq_8n, tcq_10n, t0, t1, hl, ei, ev]
      repeat refine And.intro (by omega) ?_
      first | refine ⟨fun q => absurd q (by omega), fun _ => ?_⟩ | refine fun _ => ?_
      repeat refine And.intro (by omega) ?_
      rw [td.1, td.2]
      repeat refine And.intro (by omega) ?_
      rw [show ((I : Nat) : Int) + 1 = ((I + 1 : Nat) : Int) by omega]
      refine ih _ (I + 1) _ _ _ (by omega) (by omega) (by omega) (fun k hk => ?_) (fun k hk hk2 => ?_) ?_ (GE_tr hg (lim_put (i := (I : Int)) (v := (((tabL j).getD (row * 6 + I) 0).toInt * (f : Int) + cy) % 1000000000) hb hg.1.1 hr (by omega)))
      · by_cases hkI : k = I
        · rw [hkI, tU_eq]
          omega
        · rw [tU_ni (by omega)]
          exact hd1 k hk
      · rw [tU_ni (by omega)]
        exact hd2 k (by omega) hk2
      · rw [S9_s, tU_eq, S9_u (M := M2) (r := r + 1) (fun j q => tU_ni (by omega)), TT_9s]
        show _ = (f : Int) * (tbN (tabL j) row I + ((tabL j).getD (row * 6 + I) 0).toInt * 1000000000 ^ I)
        rw [Int.mul_add, ← hs, ← TT_lb]
        generalize ((tabL j).getD (row * 6 + I) 0).toInt = p at *
        generalize TT (9 * I) = T
        have f1 : (p * (f : Int) + cy) % 1000000000 * T + (p * (f : Int) + cy) / 1000000000 * (T * 1000000000) = p * (f : Int) * T + cy * T := by
          rw [vm, ← Int.add_mul, ← Int.add_mul]
          congr 1
          omega
        have f2 : (f : Int) * (p * T) = p * (f : Int) * T := by rw [← Int.mul_assoc, Int.mul_comm (f : Int) p]
        rw [f2]
        omega
  repeat refine And.intro (by omega) ?_
  first | refine ⟨fun q => absurd q (by omega), fun _ => ?_⟩ | refine fun _ => ?_
  repeat refine And.intro (by omega) ?_
  refine ⟨fun _ => ?_, fun q => absurd (by omega) q⟩
  refine tb_X4_load_26 (c := false) ?_
  simp only [kb_X4_load_26, w_lc0, w_lst5, tkl_n, tkl_i, tkl_l, tkl_r, w_ic, w_ist7, w_nil, true_and, and_true, Nat.reduceAdd, Nat.reduceSub, eq_self]
  repeat refine And.intro (by omega) ?_
  refine n32 6 M1 0 0 _ _ (by omega) (by omega) (by omega) (fun k hk => q1.1 k hk) (fun k _ hk => hz k hk) ?_ q2
  rw [Int.zero_mul]
  show (0 : Int) + 0 = (f : Int) * 0
  omega
end HAND
