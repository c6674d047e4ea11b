/-! CONCRETE RUNS: without the script; a world as another one's beginning with some cells else. -/
def bE0 (j : Nat) : bC := match j with
  | 0 => .inr (.inr (.inl bTENS))
  | 2 => .inr (.inl (1, bLOGS))
  | 3 => .inr (.inl (1, bARCS))
  | _ => .inl (0, [])
noncomputable def bP0 : bP := (bop, bmeth, bE0, bcok, fun x => ((bexx x).1, (bexx x).2.1))
def bpt (l : List (Nat × bC)) (cs : List bC) : List bC := match l with
  | [] => cs
  | q :: t => bpt t (cs.set q.1 q.2)
theorem bE0_eq {scr : List Int32} (j : Nat) : bE0 j = bE scr j ∨ bE0 j = .inl (0, []) := by
  match j with
  | 0 => exact Or.inl rfl
  | 1 => exact Or.inr rfl
  | 2 => exact Or.inl rfl
  | 3 => exact Or.inl rfl
  | j + 4 => exact Or.inl rfl
theorem barr_E {scr : List Int32} {w : bW} {a : bV} : barr bE0 w a = barr (bE scr) w a ∨ barr bE0 w a = some (.inl (0, [])) := by
  unfold barr
  split
  · exact Or.inl rfl
  · rename_i j
    rcases bE0_eq (scr := scr) j with h | h
    · exact Or.inl (by rw [h])
    · exact Or.inr (by rw [h])
  · exact Or.inl rfl
theorem bld_E {scr : List Int32} {pc t : Nat} {lv : List (Nat × bV)} {st : List bV} {w : bW} {q : bF} (h : bld bE0 pc t lv st w = some q) : bld (bE scr) pc t lv st w = some q := by
  obtain ⟨i, a, v, r, rfl, hv, rfl⟩ := bld_inv h
  rcases barr_E (scr := scr) (w := w) (a := a) with h1 | h1
  · rw [h1] at hv
    unfold bld
    simp only [hv]
  · rw [h1] at hv
    cases hv
theorem balen_E {scr : List Int32} {pc : Nat} {lv : List (Nat × bV)} {st : List bV} {w : bW} {q : bF} (h : balen bE0 pc lv st w = some q) : balen (bE scr) pc lv st w = some q := by
  obtain ⟨a, r, c1, n, rfl, h1, h2, rfl⟩ := balen_inv h
  rcases barr_E (scr := scr) (w := w) (a := a) with h3 | h3
  · rw [h3] at h1
    unfold balen
    simp only [h1, h2]
  · rw [h3] at h1
    cases h1
    cases h2
theorem bstep_E {scr : List Int32} {nL pc : Nat} {o : bO} {lv : List (Nat × bV)} {st : List bV} {w : bW} {q : bF} (h : bstep bE0 nL o pc lv st w = some q) : bstep (bE scr) nL o pc lv st w = some q := by
  obtain ⟨ins, ln, a, b, v⟩ := o
  cases ins with
  | iaload => exact bld_E h
  | caload => exact bld_E h
  | baload => exact bld_E h
  | laload => exact bld_E h
  | aaload => exact bld_E h
  | arraylength => exact balen_E h
  | _ => exact h
theorem bX_E {scr : List Int32} {d mi pc : Nat} {lv : List (Nat × bV)} {st : List bV} {w w2 : bW} {r : bR} (h : bX bP0 d mi pc lv st w r w2) : bX (bPr scr) d mi pc lv st w r w2 := by
  refine h (bX (bPr scr)) ⟨?_, ?_, ?_, ?_, ?_, ?_⟩
  · intro d mi pc lv st w o q r w2 ho hs k
    exact x_step (P := bPr scr) ho (bstep_E hs) k
  · intro d mi pc lv st w o v ho hs
    exact x_ret (P := bPr scr) ho hs
  · intro d mi pc lv st w o q v w1 r w2 ho hq hl h k
    exact x_call (P := bPr scr) ho hq hl h k
  · intro d mi pc lv st w o q x w1 ho hq hl h hH hn
    exact x_callO (P := bPr scr) ho hq hl h hH hn
  · intro d mi pc lv st w o q x w1 hp o2 ik r w2 ho hq hl h hh ho2 hn hk hi k
    exact x_catch (P := bPr scr) ho hq hl h hh ho2 hn hk hi k
  · intro d mi pc lv w o ix ho h1 h2 h3
    exact x_thr (P := bPr scr) ho h1 h2 h3 rfl
