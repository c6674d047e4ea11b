/-! THE CLASS: setDigits. -/
theorem tyk_13 : tyk 13 = (0, 13, 17) := rfl
theorem tsh_77 : tsh 77 = 8 := by rw [tsh_def]; decide +kernel
section HAND
variable {e : tE} {d n : Nat}
theorem cl_0 : cl 0 13 := ⟨tsh_0, by decide⟩
theorem k_X11_setDigits {x1 : Int} {M : tM} (h1 : -2147483648 ≤ x1 ∧ x1 ≤ 2147483647) (hC : CI M) (hd : 3 ≤ d) : tC e d 3386 [.inr (.inr (.inl 0)), .inl x1] M n (fun v M' n' => ((0 ≤ x1 ∧ x1 ≤ 10) ∧ v = .inl (some (.inl (M 0 0))) ∧ n' = n ∧ CI M' ∧ M' 0 0 = x1 ∧ ∀ (k : Nat) (i : Int), 664 ≤ k → M' k i = M k i) ∨ (¬ (0 ≤ x1 ∧ x1 ≤ 10) ∧ v = .inr "java/lang/IllegalArgumentException" ∧ n' = n + 1 ∧ M' = M)) := by
  refine tst_X11_setDigits ?_
  have n10 : ¬ (0 ≤ x1 ∧ x1 ≤ 10) → tT e d 3386 10 [some (.inr (.inr (.inl 0))), some (.inl x1), none] [] M n (fun v M' n' => ((0 ≤ x1 ∧ x1 ≤ 10) ∧ v = .inl (some (.inl (M 0 0))) ∧ n' = n ∧ CI M' ∧ M' 0 0 = x1 ∧ ∀ (k : Nat) (i : Int), 664 ≤ k → M' k i = M k i) ∨ (¬ (0 ≤ x1 ∧ x1 ≤ 10) ∧ v = .inr "java/lang/IllegalArgumentException" ∧ n' = n + 1 ∧ M' = M)) := by
    intro h
    refine tb_X11_setDigits_10 (c := true) ?_
    simp only [kb_X11_setDigits_10, w_new, w64_r, true_and, and_true, Nat.reduceAdd, Nat.reduceSub, eq_self]
    exact Or.inr ⟨h, rfl⟩
  refine tb_X11_setDigits_0 (c := true) ?_
  simp only [kb_X11_setDigits_0, w_ild_1, w_if_lt, w_bi, w_ic_le, w_nil, w64_r, true_and, and_true, Nat.reduceAdd, Nat.reduceSub, eq_self]
  refine ⟨by omega, fun h => n10 (by omega), fun h => ?_⟩
  refine ⟨by omega, fun h2 => ?_, fun h2 => n10 (by omega)⟩
  refine tb_X11_setDigits_20 (c := true) ?_
  simp only [kb_X11_setDigits_20, w_ald_0, w_gf_13_0, tw_t, w_ist_2, tkl_n, tkl_i, tkl_l, tkl_r, w_ild_1, w_pf_13_0, w_gf_13_4, w_iv1, tfr_0, tfr_1, tfr_2, tfr_3, tfr_4, w_ild_2, w_ire, trg, w64_r, true_and, and_true, Nat.reduceAdd, Nat.reduceSub, eq_self, tsh_0, tyk_13, tsh_77, tyk_8, tcq_8]
  have hC2 : CI (tU M 0 0 x1) := CI_put hC tsh_0 (fun _ => by show 0 ≤ x1 ∧ x1 ≤ 10; omega)
  have u1 : tU M 0 0 x1 0 0 = x1 := tU_eq ..
  have h8 : cl 77 8 := ⟨by rw [tsh_def]; decide +kernel, by decide⟩
  refine ts_n (b := 1) (D := 2) (fun d' hd' => k_X6_useDigits (r := 77) h8 (by omega) (by omega) hd') hC2 (by omega) ?_
  intro M2 _ hC3 hE
  try simp only [kb_X11_setDigits_20, w_ald_0, w_gf_13_0, tw_t, w_ist_2, tkl_n, tkl_i, tkl_l, tkl_r, w_ild_1, w_pf_13_0, w_gf_13_4, w_iv1, tfr_0, tfr_1, tfr_2, tfr_3, tfr_4, w_ild_2, w_ire, trg, w64_r, true_and, and_true, Nat.reduceAdd, Nat.reduceSub, eq_self, tsh_0, tyk_13, tsh_77, tyk_8, tcq_8]
  refine Or.inl ⟨by omega, hC3, (hE 0 0 (Or.inl (Or.inr (Or.inl ⟨rfl, rfl⟩)))).trans u1, fun k i hk => (hE k i (Or.inl (Or.inl hk))).trans (tU_nk (by omega))⟩
end HAND
