/-! THE LAW from its first place on. -/
section START3
theorem y_xs {scr : List Int32} {d mi pc : Nat} {lv : List (Nat × bV)} {st : List bV} {w w2 : bW} {r : bR} (h : bY (scr, eT) d mi pc lv st w r w2) : bX_s (bPr scr) d mi pc lv st w r w2 := fun R hR => h R ⟨hR.1, hR.2⟩
def lF : bR → bW → Prop := fun q w => q = .inl (some (.inl 1)) ∧ ∃ M n, n ≤ 512 ∧ w = two M n
theorem l_lv {scr : List Int32} : tOk [some (.inr (.inr (.inr 1))), some (.inr (.inr (.inl 0))), some (.inr (.inr (.inl 664))), some (.inr (.inr (.inl 690))), some (.inl 0), none, none] (cvs (senv scr) sLv1) := by
  intro i u h
  match i, h with
  | 0, h => cases h; rfl
  | 1, h => cases h; rfl
  | 2, h => cases h; rfl
  | 3, h => cases h; rfl
  | 4, h => cases h; rfl
  | 5, h => cases h
  | 6, h => cases h
theorem l_start {scr : List Int32} (hs : scr.length ≤ 3072) (he : EK (scr, eT)) : ∃ M n, n ≤ 512 ∧ bX_s (bPr scr) 500 3853 0 [(0, .inr (.inr (.inr (some 1))))] [] ([], 0) (.inl (some (.inl 1))) (two M n) := by
  obtain ⟨r, M', n', hq, hb⟩ := l_loop he (d := 500) (by decide) hs 512 M0 0 0 none none LI_M0 (by decide) (by show ((scr.length : Nat) : Int) < _; omega) (by show scr.length < 2147483648; omega)
  obtain ⟨hr, hn⟩ := hq
  subst hr
  have k : pRun scr lF (senv scr) sP1 := by
    show ∃ q w', bX_s (bPr scr) 500 3853 23 (cvs (senv scr) sLv1) [] (cw (senv scr) sW1) q w' ∧ lF q w'
    rw [M0_two]
    exact ⟨_, _, y_xs (hb _ l_lv), rfl, M', n', hn, rfl⟩
  have k0 : pRun scr lF (senv scr) sP0 := p_stage (senv_R (by omega)) cok_nil _ stage1 k
  obtain ⟨q, w', h1, rfl, M2, n2, h3, rfl⟩ := k0
  exact ⟨M2, n2, h3, h1⟩
end START3
