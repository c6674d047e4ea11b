
/-! THE LAW: setDigits, exactly. -/
section LAW
variable {e : tE} {d n : Nat} {M : tM}
theorem d00 (hC : CI M) : 0 ≤ M 0 0 ∧ M 0 0 ≤ 10 := by
  have h := hC.1 0 0 (by decide) (Int.le_refl 0)
  rw [tsh_0] at h
  exact h
noncomputable def kpa_L_setDigits : List (Nat × bO) := [(0, .aload_n 2, 0, 0, 0, 0), (1, .iconst 0, 0, 0, 0, 0), (2, .aload_n 0, 0, 0, 0, 0), (3, .iload_n 1, 0, 0, 0, 0)]
noncomputable def kpc_L_setDigits : List (Nat × bO) := [(7, .i2l, 0, 0, 0, 0), (8, .lastore, 0, 0, 0, 0), (9, .goto 6, 0, 15, 0, 0)]
noncomputable def kph_L_setDigits_12 : List (Nat × bO) := [(13, .iconst 1, 0, 0, 0, 0), (14, .ireturn, 0, 0, 0, 0)]
theorem lw_setDigits {p1 : Int} (hC : CK M) (h1 : -2147483648 ≤ p1 ∧ p1 ≤ 2147483647) (hd : 4 ≤ d) : tC e d 3867 [.inr (.inr (.inl 0)), .inl p1, .inr (.inr (.inl 690))] M n (fun v M' n' => ((0 ≤ p1 ∧ p1 ≤ 10) ∧ v = .inl (some (.inl 0)) ∧ n' = n ∧ CK M' ∧ M' 0 0 = p1 ∧ M' 690 0 = M 0 0 ∧ ∀ (k : Nat) (i : Int), 664 ≤ k → k ≠ 690 → M' k i = M k i) ∨ (¬ (0 ≤ p1 ∧ p1 ≤ 10) ∧ v = .inl (some (.inl 1)) ∧ n' = n + 1 ∧ M' = M)) := by
  refine tst_L_setDigits ?_
  have hz := d00 hC.1
  obtain ⟨d', rfl⟩ : ∃ d', d = d' + 1 := ⟨d - 1, by omega⟩
  refine tblk_p kbl_L_setDigits kbs_L_setDigits (rk := 0) (c := false) (i := 0) rfl 0 4 (P := kpa_L_setDigits) (pe := 4) rfl (by decide +kernel) ?_
  simp only [kpa_L_setDigits, w_ald_2, w_ic, w_ald_0, w_ild_1, w_nil, true_and, and_true, Nat.reduceAdd, Nat.reduceSub, eq_self]
  refine tT_catch (pc := 4) (tblk_o kbl_L_setDigits kbs_L_setDigits (i := 0) (j := 4) rfl rfl) rfl sh0a sh0b rfl (v_setDigits h1 hC.2 hC.1 (by omega)) ?_ ?_
  · rintro v M1 n1 ⟨⟨hr, q, rfl, c1, c2, c3⟩ | ⟨_, q, _⟩, kw⟩
    · cases q
      refine tblk_p kbl_L_setDigits kbs_L_setDigits (rk := 0) (c := false) (i := 0) rfl 5 3 (P := kpc_L_setDigits) (pe := 12) rfl (by decide +kernel) ?_
      show wB _ _ _ _ _ _ _ _ [.inl (M 0 0), .inl 0, .inr (.inr (.inl 690))] _ _ _
      simp only [kpc_L_setDigits, w_i2l, w_las, w_goto, true_and, and_true, Nat.reduceAdd, Nat.reduceSub, eq_self, tsw_690, tyw_41, tcw_1]
      refine ⟨by omega, by omega, ?_⟩
      refine tb_L_setDigits_15 (c := false) ?_
      simp only [kb_L_setDigits_15, w_ic, w_ire, trg, true_and, and_true, Nat.reduceAdd, Nat.reduceSub, eq_self]
      refine Or.inl ⟨hr, CK_690 ⟨c1.1, kw⟩, ?_, ?_, fun k i hk h9 => ?_⟩
      · rw [tU_nk (by omega)]; exact c2
      · exact tU_eq ..
      · rw [tU_nk (by omega)]; exact c3 k i hk
    · cases q
  · rintro x M1 n1 ⟨⟨_, q, _⟩ | ⟨hr, q, rfl, hm⟩, kw⟩
    · cases q
    · cases q
      subst hm
      refine ⟨12, _, 3, 1, by decide +kernel, tblk_o kbl_L_setDigits kbs_L_setDigits (i := 1) (j := 0) rfl rfl, rfl, by decide +kernel, ?_⟩
      refine tblk_p kbl_L_setDigits kbs_L_setDigits (rk := 0) (c := false) (i := 1) rfl 1 2 (P := kph_L_setDigits_12) (pe := 112) rfl (by decide +kernel) ?_
      simp only [kph_L_setDigits_12, w_ic, w_ire, trg, true_and, and_true, Nat.reduceAdd, Nat.reduceSub, eq_self]
      exact Or.inr hr
end LAW
