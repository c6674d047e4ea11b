/-! THE MODEL: how many shelves are held. -/
section MODEL
variable {e : tE} {d n D : Nat} {M : tM}
theorem o_held (hP : MP M D) : tC e d 3621 [.inr (.inr (.inl 664))] M n (tQi n (fun z M' => (0 ≤ z ∧ z ≤ 10) ∧ MP M' D ∧ ME M M')) := by
  refine tst_X12_held ?_
  have h4 := MP_3 (v := 0) hP
  have n9 : ∀ (fu : Nat) (s j : Int), 10 - j < (fu : Int) → (0 ≤ j ∧ j ≤ 10) → (0 ≤ s ∧ s ≤ j) → tT e d 3621 9 [some (.inr (.inr (.inl 664))), some (.inl s), some (.inl j)] [] (tU M 664 3 0) n (tQi n (fun z M' => (0 ≤ z ∧ z ≤ 10) ∧ MP M' D ∧ ME M M')) := by
    intro fu
    induction fu with
    | zero => intro s j h1 h2; exfalso; omega
    | succ fu ih =>
      intro s j h1 h2 h3
      have n30 : ∀ v : Int, (v = 0 ∨ v = 1) → j < 10 → tT e d 3621 30 [some (.inr (.inr (.inl 664))), some (.inl s), some (.inl j)] [.inl v, .inl s] (tU M 664 3 0) n (tQi n (fun z M' => (0 ≤ z ∧ z ≤ 10) ∧ MP M' D ∧ ME M M')) := by
        intro v hv hj
        refine tb_X12_held_30 (c := false) ?_
        simp only [kb_X12_held_30, w_iadd, w_ist_1, tkl_n, tkl_i, tkl_l, tkl_r, w_inc2, w_goto, true_and, and_true, Nat.reduceAdd, Nat.reduceSub, eq_self]
        exact ih (s + v) (j + 1) (by omega) (by omega) (by omega)
      refine tb_X12_held_9 (c := false) ?_
      simp only [kb_X12_held_9, w_ild_2, w_bi, w_ic_ge, w_ild_1, w_ald_0, w_gf_14_10, tw_f, w_ba, w_if_eq, w_ic, w_goto, true_and, and_true, Nat.reduceAdd, Nat.reduceSub, eq_self, tshm_14, tykm_14, tci_14, tsn_671, tyn_17, tcn_10]
      refine ⟨by omega, fun h => ?_, fun h => ?_⟩
      · refine tb_X12_held_38 (c := false) ?_
        simp only [kb_X12_held_38, w_ild_1, w_ire, trg, true_and, and_true, Nat.reduceAdd, Nat.reduceSub, eq_self]
        exact ⟨s, rfl, rfl, by omega, h4.1, h4.2⟩
      have g := h4.1.2.1.2.2 j (by omega) (by omega)
      refine ⟨by omega, by omega, fun h => ?_, fun h => n30 1 (Or.inr rfl) (by omega)⟩
      refine tb_X12_held_29 (c := false) ?_
      simp only [kb_X12_held_29, w_ic, w_nil, true_and, and_true, Nat.reduceAdd, Nat.reduceSub, eq_self]
      exact n30 0 (Or.inl rfl) (by omega)
  refine tb_X12_held_0 (c := false) ?_
  simp only [kb_X12_held_0, w_ald_0, w_ic, w_pf_14_3, w_ist_1, tkl_n, tkl_i, tkl_l, tkl_r, w_ist_2, w_nil, true_and, and_true, Nat.reduceAdd, Nat.reduceSub, eq_self, tshm_14, tykm_14, tci_14, tsn_671, tyn_17, tcn_10]
  exact n9 11 0 0 (by omega) (by omega) (by omega)
end MODEL
