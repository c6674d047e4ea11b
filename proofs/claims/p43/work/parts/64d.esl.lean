/-! THE TABLE: what is taken of the recipes holds; all that is taken. -/
section ESLT
theorem ESL_all (scr : List Int32) : ESL (scr, eT) := by
  refine ⟨?_, ?_⟩
  · intro lv w c x h0 h1
    show eT 2062 0 lv [] w = _
    rw [eT_r]
    unfold rT0
    rw [h0, h1]
    rfl
  · intro lv w j x h1 hj h2 hx
    show eT 2059 27 lv [] w = _
    rw [eT_s]
    unfold sT0
    rw [h1, h2]
    simp only []
    rw [if_pos ⟨hj, hx⟩]
    rfl
theorem EK_all (scr : List Int32) : EK (scr, eT) := ⟨EO_all scr, EVr_all scr, ESL_all scr, SPT_all⟩
end ESLT
