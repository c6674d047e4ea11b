/-! THE LAW: constant, exactly. -/
section LAW
variable {e : tE} {d n : Nat} {M : tM}
def CR (M : tM) (n : Nat) (p1 p2 : Int) : tR → tM → Nat → Prop := fun v M' n' => ((0 ≤ p1 ∧ p1 ≤ 9) ∧ (p2 = 112 ∨ p2 = 101) ∧ v = .inl (some (.inl 0)) ∧ n' = n ∧ (CI M' ∧ WE M M') ∧ M' 690 0 = 0) ∨ (¬ (0 ≤ p1 ∧ p1 ≤ 9) ∧ v = .inl (some (.inl 1)) ∧ n' = n + 1 ∧ M' = M) ∨ ((0 ≤ p1 ∧ p1 ≤ 9) ∧ ¬ (p2 = 112 ∨ p2 = 101) ∧ v = .inl (some (.inl 2)) ∧ n' = n + 1 ∧ M' = M)
theorem lw_constant_x {p1 p2 : Int} (hC : CI M) (hU : UN M) (h1 : -2147483648 ≤ p1 ∧ p1 ≤ 2147483647) (h2 : 0 ≤ p2 ∧ p2 ≤ 65535) (hd : 9 ≤ d) : tC e d 3844 [.inr (.inr (.inl 0)), .inl p1, .inl p2, .inr (.inr (.inl 690))] M n (CR M n p1 p2) := by
  refine tst_L_constant ?_
  obtain ⟨d', rfl⟩ : ∃ d', d = d' + 1 := ⟨d - 1, by omega⟩
  refine tblk_p kbl_L_constant kbs_L_constant (rk := 0) (c := false) (i := 0) rfl 0 5 (P := kpa_L_constant) (pe := 5) rfl (by decide +kernel) ?_
  simp only [kpa_L_constant, w_ald_3, w_ic, w_ald_0, w_ild_1, w_ild_2, w_nil, true_and, and_true, Nat.reduceAdd, Nat.reduceSub, eq_self]
  refine tT_catch (pc := 5) (tblk_o kbl_L_constant kbs_L_constant (i := 0) (j := 5) rfl rfl) rfl sh0a sh0b rfl (x_constant h1 h2 (un_rg hU) hC (by omega)) ?_ ?_
  · rintro v M1 n1 (⟨hs, hw, q, rfl, c1, c2⟩ | ⟨_, q, _⟩ | ⟨_, _, q, _⟩)
    · cases q
      refine tblk_p kbl_L_constant kbs_L_constant (rk := 0) (c := false) (i := 0) rfl 6 3 (P := kpc_L_constant) (pe := 15) rfl (by decide +kernel) ?_
      show wB _ _ _ _ _ _ _ _ [.inl 0, .inl 0, .inr (.inr (.inl 690))] _ _ _
      simp only [kpc_L_constant, w_if_eq, w_lc1, w_goto, true_and, and_true, Nat.reduceAdd, Nat.reduceSub, eq_self, tsw_690, tyw_41, tcw_1]
      refine ⟨by omega, fun q => ?_, fun q => absurd trivial q⟩
      refine tb_L_constant_15 (c := false) ?_
      simp only [kb_L_constant_15, w_lc0, w_nil, true_and, and_true, Nat.reduceAdd, Nat.reduceSub, eq_self]
      refine tb_L_constant_16 (c := false) ?_
      simp only [kb_L_constant_16, w_las, w_goto, true_and, and_true, Nat.reduceAdd, Nat.reduceSub, eq_self, tsw_690, tyw_41, tcw_1]
      refine ⟨by omega, ?_⟩
      refine tb_L_constant_28 (c := false) ?_
      simp only [kb_L_constant_28, w_ic, w_ire, trg, true_and, and_true, Nat.reduceAdd, Nat.reduceSub, eq_self]
      exact Or.inl ⟨hs, hw, rfl, rfl, ⟨CI_690 c1, WE_tr (WE_p c2) WE_690⟩, tU_eq ..⟩
    · cases q
    · cases q
  · rintro x M1 n1 (⟨_, _, q, _⟩ | ⟨hs, q, rfl, rfl⟩ | ⟨hs, hw, q, rfl, rfl⟩)
    · cases q
    · cases q
      refine ⟨20, _, 4, 2, by decide +kernel, tblk_o kbl_L_constant kbs_L_constant (i := 3) (j := 0) rfl rfl, rfl, by decide +kernel, ?_⟩
      refine tblk_p kbl_L_constant kbs_L_constant (rk := 0) (c := false) (i := 3) rfl 1 2 (P := kph_L_constant_20) (pe := 121) rfl (by decide +kernel) ?_
      simp only [kph_L_constant_20, w_ic, w_ire, trg, true_and, and_true, Nat.reduceAdd, Nat.reduceSub, eq_self]
      exact Or.inr (Or.inl ⟨hs, rfl, rfl, rfl⟩)
    · cases q
      refine ⟨24, _, 4, 2, by decide +kernel, tblk_o kbl_L_constant kbs_L_constant (i := 4) (j := 0) rfl rfl, rfl, by decide +kernel, ?_⟩
      refine tblk_p kbl_L_constant kbs_L_constant (rk := 0) (c := false) (i := 4) rfl 1 2 (P := kph_L_constant_24) (pe := 125) rfl (by decide +kernel) ?_
      simp only [kph_L_constant_24, w_ic, w_ire, trg, true_and, and_true, Nat.reduceAdd, Nat.reduceSub, eq_self]
      exact Or.inr (Or.inr ⟨hs, hw, rfl, rfl, rfl⟩)
theorem tc_cn {x1 x2 : Int} {mi : Nat} {o : bO} {rest : List tV} {L : tL} {Q : tR → tM → Nat → Prop} {k : tL → List tV → tM → Nat → Prop} (hC : CI M) (hU : UN M) (h1 : -2147483648 ≤ x1 ∧ x1 ≤ 2147483647) (h2 : 0 ≤ x2 ∧ x2 ≤ 65535) (hd : 10 ≤ d) (hk : ∀ z M' n', ((0 ≤ x1 ∧ x1 ≤ 9) ∧ (x2 = 112 ∨ x2 = 101) ∧ z = 0 ∧ n' = n ∧ (CI M' ∧ WE M M') ∧ M' 690 0 = 0) ∨ (¬ (0 ≤ x1 ∧ x1 ≤ 9) ∧ z = 1 ∧ n' = n + 1 ∧ M' = M) ∨ ((0 ≤ x1 ∧ x1 ≤ 9) ∧ ¬ (x2 = 112 ∨ x2 = 101) ∧ z = 2 ∧ n' = n + 1 ∧ M' = M) → k L (.inl z :: rest) M' n') : tcall e d mi 3844 o [.inr (.inr (.inl 0)), .inl x1, .inl x2, .inr (.inr (.inl 690))] rest L M n Q k := by
  refine ⟨d - 1, by omega, _, lw_constant_x hC hU h1 h2 (by omega), ?_, ?_⟩
  · rintro v M' n' (⟨hs, hw, q, h⟩ | ⟨hs, q, h⟩ | ⟨hs, hw, q, h⟩)
    · cases q
      exact hk 0 M' n' (Or.inl ⟨hs, hw, rfl, h⟩)
    · cases q
      exact hk 1 M' n' (Or.inr (Or.inl ⟨hs, rfl, h⟩))
    · cases q
      exact hk 2 M' n' (Or.inr (Or.inr ⟨hs, hw, rfl, h⟩))
  · rintro v M' n' (⟨hs, hw, q, h⟩ | ⟨hs, q, h⟩ | ⟨hs, hw, q, h⟩)
    · cases q
    · cases q
    · cases q
end LAW
