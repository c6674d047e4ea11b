/-! What a step leaves of the world's size. -/
section BMONO
variable {pc nL : Nat} {E : Nat → bC} {lv : List (Nat × bV)} {st : List bV} {w : bW}
def bmo (w w2 : bW) : Prop := w2.2 = w.2 ∧ w.1.length ≤ w2.1.length ∧ bsz w.1 ≤ bsz w2.1
theorem bmo_r (w : bW) : bmo w w := sorry
theorem bmo_set {w : bW} {r : Nat} {c c0 : bC} (h : w.1[r]? = some c0) (hc : bcs c = bcs c0) : bmo w (w.1.set r c, w.2) := sorry
theorem bmo_push {w : bW} {c : bC} : bmo w (w.1 ++ [c], w.2) := sorry
theorem bstep_mo {o : bO} {q : bF} (h : bstep E nL o pc lv st w = some q) : bmo w q.2.2.2 := sorry
end BMONO
