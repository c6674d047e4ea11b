/-! THE CLASS: its unit, and setDigits. -/
theorem tyk_13 : tyk 13 = (0, 13, 17) := rfl
theorem tsh_77 : tsh 77 = 8 := by rw [tsh_def]; decide +kernel
/-- the last one of so many digits, in parts of 10^10 -/
noncomputable def un (D : Int) : Int := ((tn (10 - D.toNat) : Nat) : Int)
/-- the class's unit is that of its digits -/
def UN (M : tM) : Prop := M 78 5 = un (M 0 0)
theorem ten_all : ∀ k, k < 19 → (bTENS.getD k 0).toInt = ((10 ^ k : Nat) : Int) := by decide +kernel
theorem txv_0 {e : tE} {i : Int} (h : 0 ≤ i ∧ i < 19) : txv e 0 i = ((tn i.toNat : Nat) : Int) := by
  rw [tn_def]
  exact ten_all i.toNat (by omega)
theorem un_pos (D : Int) : 0 < un D := by
  unfold un
  exact Int.ofNat_lt.mpr (tn_pos _)
theorem un_le (D : Int) : un D ≤ 10000000000 := by
  unfold un
  have h := tn_mono (show 10 - D.toNat ≤ 10 by omega)
  have e10 := tn_10
  omega
section HAND
variable {e : tE} {d n : Nat} {M : tM}
theorem cl_0 : cl 0 13 := ⟨tsh_0, by decide⟩
theorem t_unitOf {x1 : Int} (h : 0 ≤ x1 ∧ x1 ≤ 10) : tC e d 3397 [.inl x1] M n (tQl n (fun z M' => z = un x1 ∧ M' = M)) := by
  refine tst_X11_unitOf ?_
  refine tb_X11_unitOf_0 (c := true) ?_
  simp only [kb_X11_unitOf_0, w_ild_0, w_if_lt, w_bi, w_ic_le, w_nil, w64_r, true_and, and_true, Nat.reduceAdd, Nat.reduceSub, eq_self]
  refine ⟨by omega, fun q => absurd q (by omega), fun _ => ?_⟩
  refine ⟨by omega, fun _ => ?_, fun q => absurd (by omega) q⟩
  refine tb_X11_unitOf_14 (c := true) ?_
  simp only [kb_X11_unitOf_14, w_gs, w_bi, w_ild_0, w_isub, w_la, w_lax, tw_t, w_nil, w64_r, true_and, and_true, Nat.reduceAdd, Nat.reduceSub, eq_self, tsh_0, tyk_13, tsh_77, tyk_8, tcq_8, tsh_78, tyk_2, tcq_2]
  refine ⟨by decide, rfl, ⟨by omega, by show _ < ((19 : Nat) : Int); omega⟩, ?_⟩
  refine tb_X11_unitOf_22 (c := true) ?_
  simp only [kb_X11_unitOf_22, w_lre, w64_r, true_and, and_true, Nat.reduceAdd, Nat.reduceSub, eq_self]
  rw [txv_0 (by omega)]
  refine ⟨_, rfl, rfl, ?_, rfl⟩
  unfold un
  rw [show (10 - x1).toNat = 10 - x1.toNat by omega]
theorem t_useD0 {x1 : Int} (h : 0 ≤ x1 ∧ x1 ≤ 10) (hd : 1 ≤ d) : tC e d 525 [.inr (.inr (.inl 78)), .inl x1] M n (tQn n (fun M' => M' = tU M 78 5 (un x1))) := by
  refine tst_X0_useDigits ?_
  refine tb_X0_useDigits_0 (c := true) ?_
  simp only [kb_X0_useDigits_0, w_ald_0, w_ild_1, w_is1, tfr_0, tfr_1, tfr_2, tfr_3, tfr_4, w_pf_2_5, w_re, w64_r, true_and, and_true, Nat.reduceAdd, Nat.reduceSub, eq_self, tsh_0, tyk_13, tsh_77, tyk_8, tcq_8, tsh_78, tyk_2, tcq_2]
  refine tc_l (D := 0) (fun d' hd' => t_unitOf h) (by omega) ?_
  rintro z M1 ⟨rfl, rfl⟩
  try simp only [kb_X0_useDigits_0, w_ald_0, w_ild_1, w_is1, tfr_0, tfr_1, tfr_2, tfr_3, tfr_4, w_pf_2_5, w_re, w64_r, true_and, and_true, Nat.reduceAdd, Nat.reduceSub, eq_self, tsh_0, tyk_13, tsh_77, tyk_8, tcq_8, tsh_78, tyk_2, tcq_2]
  exact ⟨rfl, rfl, rfl⟩
theorem t_useD {x1 : Int} (h : 0 ≤ x1 ∧ x1 ≤ 10) (hd : 2 ≤ d) : tC e d 2065 [.inr (.inr (.inl 77)), .inl x1] M n (tQn n (fun M' => M' = tU M 78 5 (un x1))) := by
  refine tst_X6_useDigits ?_
  refine tb_X6_useDigits_0 (c := true) ?_
  simp only [kb_X6_useDigits_0, w_ald_0, w_gf_8_0, tw_t, w_ild_1, w_iv1, tfr_0, tfr_1, tfr_2, tfr_3, tfr_4, w_re, w64_r, true_and, and_true, Nat.reduceAdd, Nat.reduceSub, eq_self, tsh_0, tyk_13, tsh_77, tyk_8, tcq_8, tsh_78, tyk_2, tcq_2]
  refine tc_n (D := 1) (fun d' hd' => t_useD0 h hd') (by omega) ?_
  rintro M1 rfl
  try simp only [kb_X6_useDigits_0, w_ald_0, w_gf_8_0, tw_t, w_ild_1, w_iv1, tfr_0, tfr_1, tfr_2, tfr_3, tfr_4, w_re, w64_r, true_and, and_true, Nat.reduceAdd, Nat.reduceSub, eq_self, tsh_0, tyk_13, tsh_77, tyk_8, tcq_8, tsh_78, tyk_2, tcq_2]
  exact ⟨rfl, rfl, rfl⟩
theorem CI_un {v : Int} (h : CI M) : CI (tU M 78 5 v) := CI_put h tsh_78u (fun _ => trivial)
theorem k_X11_setDigits {x1 : Int} (h1 : -2147483648 ≤ x1 ∧ x1 ≤ 2147483647) (hC : CI M) (hd : 3 ≤ d) : tC e d 3386 [.inr (.inr (.inl 0)), .inl x1] M n (fun v M' n' => ((0 ≤ x1 ∧ x1 ≤ 10) ∧ v = .inl (some (.inl (M 0 0))) ∧ n' = n ∧ (CI M' ∧ UN M') ∧ M' 0 0 = x1 ∧ ∀ (k : Nat) (i : Int), 664 ≤ k → M' k i = M k i) ∨ (¬ (0 ≤ x1 ∧ x1 ≤ 10) ∧ v = .inr "java/lang/IllegalArgumentException" ∧ n' = n + 1 ∧ M' = M)) := by
  refine tst_X11_setDigits ?_
  have n10 : ¬ (0 ≤ x1 ∧ x1 ≤ 10) → tT e d 3386 10 [some (.inr (.inr (.inl 0))), some (.inl x1), none] [] M n (fun v M' n' => ((0 ≤ x1 ∧ x1 ≤ 10) ∧ v = .inl (some (.inl (M 0 0))) ∧ n' = n ∧ (CI M' ∧ UN M') ∧ M' 0 0 = x1 ∧ ∀ (k : Nat) (i : Int), 664 ≤ k → M' k i = M k i) ∨ (¬ (0 ≤ x1 ∧ x1 ≤ 10) ∧ v = .inr "java/lang/IllegalArgumentException" ∧ n' = n + 1 ∧ M' = M)) := by
    intro h
    refine tb_X11_setDigits_10 (c := true) ?_
    simp only [kb_X11_setDigits_10, w_new, w64_r, true_and, and_true, Nat.reduceAdd, Nat.reduceSub, eq_self]
    exact Or.inr ⟨h, rfl⟩
  refine tb_X11_setDigits_0 (c := true) ?_
  simp only [kb_X11_setDigits_0, w_ild_1, w_if_lt, w_bi, w_ic_le, w_nil, w64_r, true_and, and_true, Nat.reduceAdd, Nat.reduceSub, eq_self]
  refine ⟨by omega, fun h => n10 (by omega), fun h => ?_⟩
  refine ⟨by omega, fun h2 => ?_, fun h2 => n10 (by omega)⟩
  refine tb_X11_setDigits_20 (c := true) ?_
  simp only [kb_X11_setDigits_20, w_ald_0, w_gf_13_0, tw_t, w_ist_2, tkl_n, tkl_i, tkl_l, tkl_r, w_ild_1, w_pf_13_0, w_gf_13_4, w_iv1, tfr_0, tfr_1, tfr_2, tfr_3, tfr_4, w_ild_2, w_ire, trg, w64_r, true_and, and_true, Nat.reduceAdd, Nat.reduceSub, eq_self, tsh_0, tyk_13, tsh_77, tyk_8, tcq_8, tsh_78, tyk_2, tcq_2]
  have hC2 : CI (tU M 0 0 x1) := CI_put hC tsh_0 (fun _ => by show 0 ≤ x1 ∧ x1 ≤ 10; omega)
  have u1 : tU M 0 0 x1 0 0 = x1 := tU_eq ..
  refine tc_n (D := 2) (fun d' hd' => t_useD (by omega) hd') (by omega) ?_
  rintro M2 rfl
  try simp only [kb_X11_setDigits_20, w_ald_0, w_gf_13_0, tw_t, w_ist_2, tkl_n, tkl_i, tkl_l, tkl_r, w_ild_1, w_pf_13_0, w_gf_13_4, w_iv1, tfr_0, tfr_1, tfr_2, tfr_3, tfr_4, w_ild_2, w_ire, trg, w64_r, true_and, and_true, Nat.reduceAdd, Nat.reduceSub, eq_self, tsh_0, tyk_13, tsh_77, tyk_8, tcq_8, tsh_78, tyk_2, tcq_2]
  have g0 : tU (tU M 0 0 x1) 78 5 (un x1) 0 0 = x1 := (tU_nk (by decide)).trans u1
  refine Or.inl ⟨by omega, ⟨CI_un hC2, ?_⟩, g0, fun k i hk => (tU_nk (by omega)).trans (tU_nk (by omega))⟩
  unfold UN
  rw [g0]
  exact tU_eq ..
/-- all stays but the class's own cells; its digits stay -/
def E8 (M M' : tM) : Prop := ∀ (k : Nat) (i : Int), 664 ≤ k ∨ (k = 0 ∧ i = 0) → M' k i = M k i
theorem E8_refl : E8 M M := fun _ _ _ => rfl
theorem E8_tr {M M1 M2 : tM} (h1 : E8 M M1) (h2 : E8 M1 M2) : E8 M M2 := fun k i h => (h2 k i h).trans (h1 k i h)
theorem E8_p {M M' : tM} (h : pE 0 M M') : E8 M M' := fun k i q => h k i (Or.inl (by rcases q with q | q; exact Or.inl q; exact Or.inr (Or.inl q)))
theorem E8_u {M : tM} {v : Int} : E8 M (tU M 78 5 v) := fun k i q => tU_nk (by omega)
theorem E8_end {M M1 : tM} (hU : UN M) (h : E8 M M1) : pE 0 M (tU M1 78 5 (un (M 0 0))) := by
  intro k i q
  have q2 : (664 ≤ k ∨ (k = 0 ∧ i = 0)) ∨ (k = 78 ∧ i = 5) := by
    rcases q with (q | q | q) | q | q | q
    · exact Or.inl (Or.inl q)
    · exact Or.inl (Or.inr q)
    · exact absurd q.1 (by decide)
    · exact absurd q.1 (by decide)
    · exact absurd q.1 (by decide)
    · exact Or.inr q
  rcases q2 with q2 | ⟨rfl, rfl⟩
  · exact (tU_nk (by omega)).trans (h k i q2)
  · exact (tU_eq ..).trans hU.symm
end HAND
