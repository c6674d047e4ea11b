/-! THE LAW: put, exactly. -/
section LAW
variable {e : tE} {d n : Nat} {M : tM}
def PQ (M : tM) (n D : Nat) (x1 X x3 : Int) : tR → tM → Nat → Prop := fun v M' n' => (¬ (0 ≤ x1 ∧ x1 ≤ 9) ∧ v = .inl (some (.inl 1)) ∧ n' = n + 1 ∧ CI M' ∧ WE M M') ∨ (((0 ≤ x1 ∧ x1 ≤ 9) ∧ ¬ (0 ≤ x3 ∧ x3 ≤ 18)) ∧ v = .inl (some (.inl 2)) ∧ n' = n + 1 ∧ CI M' ∧ WE M M') ∨ (((0 ≤ x1 ∧ x1 ≤ 9) ∧ (0 ≤ x3 ∧ x3 ≤ 18)) ∧ (FZ (nlo D x3.toNat X) ∨ FZ (nhi D x3.toNat X)) ∧ v = .inl (some (.inl 3)) ∧ n' = n + 1 ∧ CI M' ∧ WE M M') ∨ (((0 ≤ x1 ∧ x1 ≤ 9) ∧ (0 ≤ x3 ∧ x3 ≤ 18)) ∧ ¬ (FZ (nlo D x3.toNat X) ∨ FZ (nhi D x3.toNat X)) ∧ v = .inl (some (.inl 0)) ∧ ((M' 690 0 = 1 ∧ nlo D x3.toNat X = nhi D x3.toNat X) ∨ (M' 690 0 = 0 ∧ ¬ nlo D x3.toNat X = nhi D x3.toNat X)) ∧ n' = n ∧ CI M' ∧ WE M M')
theorem lw_put_x {p1 p2 p3 : Int} {D : Nat} (hC : CI M) (hD : D ≤ 10) (hu : M 78 5 = TT (10 - D)) (h1 : -2147483648 ≤ p1 ∧ p1 ≤ 2147483647) (h2 : -9223372036854775808 ≤ p2 ∧ p2 < 9223372036854775808) (h3 : -2147483648 ≤ p3 ∧ p3 ≤ 2147483647) (hd : 9 ≤ d) : tC e d 3864 [.inr (.inr (.inl 0)), .inl p1, .inr (.inl p2), .inl p3, .inr (.inr (.inl 690))] M n (PQ M n D p1 p2 p3) := by
  refine tst_L_put ?_
  obtain ⟨d', rfl⟩ : ∃ d', d = d' + 1 := ⟨d - 1, by omega⟩
  have nst : ∀ (L : tL) (M1 : tM) (v : Int), CI M1 → WE M M1 → ((0 ≤ p1 ∧ p1 ≤ 9) ∧ (0 ≤ p3 ∧ p3 ≤ 18)) → ¬ (FZ (nlo D p3.toNat p2) ∨ FZ (nhi D p3.toNat p2)) → ((v = 1 ∧ nlo D p3.toNat p2 = nhi D p3.toNat p2) ∨ (v = 0 ∧ ¬ nlo D p3.toNat p2 = nhi D p3.toNat p2)) → tT e (d' + 1) 3864 19 L [.inr (.inl v), .inl 0, .inr (.inr (.inl 690))] M1 n (PQ M n D p1 p2 p3) := by
    intro L M1 v c1 c2 g1 g2 g3
    refine tb_L_put_19 (c := false) ?_
    simp only [kb_L_put_19, w_las, w_goto, true_and, and_true, Nat.reduceAdd, Nat.reduceSub, eq_self, tsw_690, tyw_41, tcw_1]
    refine ⟨by omega, ?_⟩
    refine tb_L_put_35 (c := false) ?_
    simp only [kb_L_put_35, w_ic, w_ire, trg, true_and, and_true, Nat.reduceAdd, Nat.reduceSub, eq_self]
    have e9 : tU M1 690 0 v 690 0 = v := tU_eq ..
    exact Or.inr (Or.inr (Or.inr ⟨g1, g2, rfl, by rw [e9]; exact g3, rfl, CI_690 c1, WE_tr c2 WE_690⟩))
  refine tblk_p kbl_L_put kbs_L_put (rk := 0) (c := false) (i := 0) rfl 0 6 (P := kpa_L_put) (pe := 8) rfl (by decide +kernel) ?_
  simp only [kpa_L_put, w_ald5, w_ic, w_ald_0, w_ild_1, w_lld_2, w_ild4, w_nil, true_and, and_true, Nat.reduceAdd, Nat.reduceSub, eq_self]
  refine tT_catch (pc := 8) (tblk_o kbl_L_put kbs_L_put (i := 0) (j := 6) rfl rfl) rfl sh0a sh0b rfl (x_put (D := D) h1 h2 h3 hD hu hC (by omega)) ?_ ?_
  · rintro v M1 n1 (⟨_, q, _⟩ | ⟨_, q, _⟩ | ⟨_, _, q, _⟩ | ⟨g1, g2, ⟨z, q, g3⟩, rfl, c1, c2⟩)
    · cases q
    · cases q
    · cases q
    · cases q
      have c2 := WE_p c2
      refine tblk_p kbl_L_put kbs_L_put (rk := 0) (c := false) (i := 0) rfl 7 3 (P := kpc_L_put) (pe := 18) rfl (by decide +kernel) ?_
      show wB _ _ _ _ _ _ _ _ [.inl z, .inl 0, .inr (.inr (.inl 690))] _ _ _
      simp only [kpc_L_put, w_if_eq, w_lc1, w_goto, true_and, and_true, Nat.reduceAdd, Nat.reduceSub, eq_self, tsw_690, tyw_41, tcw_1]
      refine ⟨by omega, fun q => ?_, fun q => nst _ M1 1 c1 c2 g1 g2 (by omega)⟩
      refine tb_L_put_18 (c := false) ?_
      simp only [kb_L_put_18, w_lc0, w_nil, true_and, and_true, Nat.reduceAdd, Nat.reduceSub, eq_self]
      exact nst _ M1 0 c1 c2 g1 g2 (by omega)
  · rintro x M1 n1 (⟨g1, q, rfl, rfl⟩ | ⟨g1, q, rfl, rfl⟩ | ⟨g1, g2, q, rfl, c1, c2⟩ | ⟨_, _, ⟨z, q, _⟩, _⟩)
    · cases q
      refine ⟨23, _, 6, 2, by decide +kernel, tblk_o kbl_L_put kbs_L_put (i := 3) (j := 0) rfl rfl, rfl, by decide +kernel, ?_⟩
      refine tblk_p kbl_L_put kbs_L_put (rk := 0) (c := false) (i := 3) rfl 1 2 (P := kph_L_put_23) (pe := 124) rfl (by decide +kernel) ?_
      simp only [kph_L_put_23, w_ic, w_ire, trg, true_and, and_true, Nat.reduceAdd, Nat.reduceSub, eq_self]
      exact Or.inl ⟨g1, rfl, rfl, hC, WE_refl⟩
    · cases q
      refine ⟨27, _, 6, 2, by decide +kernel, tblk_o kbl_L_put kbs_L_put (i := 4) (j := 0) rfl rfl, rfl, by decide +kernel, ?_⟩
      refine tblk_p kbl_L_put kbs_L_put (rk := 0) (c := false) (i := 4) rfl 1 2 (P := kph_L_put_27) (pe := 128) rfl (by decide +kernel) ?_
      simp only [kph_L_put_27, w_ic, w_ire, trg, true_and, and_true, Nat.reduceAdd, Nat.reduceSub, eq_self]
      exact Or.inr (Or.inl ⟨g1, rfl, rfl, hC, WE_refl⟩)
    · cases q
      refine ⟨31, _, 6, 2, by decide +kernel, tblk_o kbl_L_put kbs_L_put (i := 5) (j := 0) rfl rfl, rfl, by decide +kernel, ?_⟩
      refine tblk_p kbl_L_put kbs_L_put (rk := 0) (c := false) (i := 5) rfl 1 2 (P := kph_L_put_31) (pe := 132) rfl (by decide +kernel) ?_
      simp only [kph_L_put_31, w_ic, w_ire, trg, true_and, and_true, Nat.reduceAdd, Nat.reduceSub, eq_self]
      exact Or.inr (Or.inr (Or.inl ⟨g1, g2, rfl, rfl, c1, WE_p c2⟩))
    · cases q
theorem tc_pt {x1 X x3 : Int} {D mi : Nat} {o : bO} {rest : List tV} {L : tL} {Q : tR → tM → Nat → Prop} {k : tL → List tV → tM → Nat → Prop} (hC : CI M) (hD : D ≤ 10) (hu : M 78 5 = TT (10 - D)) (h1 : -2147483648 ≤ x1 ∧ x1 ≤ 2147483647) (h2 : -9223372036854775808 ≤ X ∧ X < 9223372036854775808) (h3 : -2147483648 ≤ x3 ∧ x3 ≤ 2147483647) (hd : 10 ≤ d) (hk : ∀ z M' n', (n ≤ n' ∧ n' ≤ n + 1) → CI M' → WE M M' → ((¬ (0 ≤ x1 ∧ x1 ≤ 9) ∧ z = 1) ∨ (((0 ≤ x1 ∧ x1 ≤ 9) ∧ ¬ (0 ≤ x3 ∧ x3 ≤ 18)) ∧ z = 2) ∨ (((0 ≤ x1 ∧ x1 ≤ 9) ∧ (0 ≤ x3 ∧ x3 ≤ 18)) ∧ (FZ (nlo D x3.toNat X) ∨ FZ (nhi D x3.toNat X)) ∧ z = 3) ∨ (((0 ≤ x1 ∧ x1 ≤ 9) ∧ (0 ≤ x3 ∧ x3 ≤ 18)) ∧ ¬ (FZ (nlo D x3.toNat X) ∨ FZ (nhi D x3.toNat X)) ∧ z = 0 ∧ ((M' 690 0 = 1 ∧ nlo D x3.toNat X = nhi D x3.toNat X) ∨ (M' 690 0 = 0 ∧ ¬ nlo D x3.toNat X = nhi D x3.toNat X)))) → k L (.inl z :: rest) M' n') : tcall e d mi 3864 o [.inr (.inr (.inl 0)), .inl x1, .inr (.inl X), .inl x3, .inr (.inr (.inl 690))] rest L M n Q k := by
  refine ⟨d - 1, by omega, _, lw_put_x hC hD hu h1 h2 h3 (by omega), ?_, ?_⟩
  · rintro v M' n' (⟨g1, q, rfl, c1, w1⟩ | ⟨g1, q, rfl, c1, w1⟩ | ⟨g1, g2, q, rfl, c1, w1⟩ | ⟨g1, g2, q, g3, rfl, c1, w1⟩)
    · cases q
      exact hk 1 M' _ (by omega) c1 w1 (Or.inl ⟨g1, rfl⟩)
    · cases q
      exact hk 2 M' _ (by omega) c1 w1 (Or.inr (Or.inl ⟨g1, rfl⟩))
    · cases q
      exact hk 3 M' _ (by omega) c1 w1 (Or.inr (Or.inr (Or.inl ⟨g1, g2, rfl⟩)))
    · cases q
      exact hk 0 M' _ (by omega) c1 w1 (Or.inr (Or.inr (Or.inr ⟨g1, g2, rfl, g3⟩)))
  · rintro v M' n' (⟨g1, q, _⟩ | ⟨g1, q, _⟩ | ⟨g1, g2, q, _⟩ | ⟨g1, g2, q, _⟩)
    · cases q
    · cases q
    · cases q
    · cases q
end LAW
