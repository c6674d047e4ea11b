/-! THE LAW, with its room. -/
section START4
theorem bcs_tcell {k t : Nat} {m : Int → Int} : bcs (tcell k t m) = (tyk t).2.2 := by
  unfold tcell
  split
  · rename_i q
    rw [q]
    exact (List.length_map _).trans List.length_range
  · rename_i q
    rw [q]
    exact (List.length_map _).trans List.length_range
  · rename_i q
    rw [q]
    exact (List.length_map _).trans List.length_range
  · rename_i q
    rw [q]
    exact (List.length_map _).trans List.length_range
theorem two_size (M : tM) (n : Nat) : bsz (two M n).1 ≤ 20000 := by
  have e1 : bsz (two M n).1 = ((List.range 691).map (fun k => (tyk (tshl.getD k 0)).2.2)).sum := by
    rw [two_1]
    unfold tw0 bsz
    rw [List.map_map]
    refine congrArg List.sum (List.map_congr_left (fun k _ => ?_))
    show bcs (tcell k (tsh k) (M k)) = _
    rw [bcs_tcell, tsh_def]
  rw [e1]
  decide +kernel
theorem p2_all {scr : List Int32} (hl : scr.length ≤ 3072) (he : EK (scr, eT)) : ∃ w2 : bW, bX_s (bPr scr) 500 3853 0 [(0, .inr (.inr (.inr (some 1))))] [] ([], 0) (.inl (some (.inl 1))) w2 ∧ w2.1.length + w2.2 ≤ 600000 ∧ bsz w2.1 + 6 * w2.2 ≤ 7000000 := by
  obtain ⟨M, n, hn, h⟩ := l_start hl he
  refine ⟨two M n, h, ?_, ?_⟩
  · rw [two_len, two_2]
    omega
  · have := two_size M n
    rw [two_2]
    omega
end START4
