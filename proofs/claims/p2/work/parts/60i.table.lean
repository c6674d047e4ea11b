/-! THE TABLE of what is taken of the special methods. -/
def bT0 : Nat → Nat → List (Nat × bV) → List bV → bW → Option bV := fun _ _ _ _ _ => none
theorem eT_ex : ∃ f : Nat → Nat → List (Nat × bV) → List bV → bW → Option bV, f = bT0 := ⟨_, rfl⟩
/-- the table -/
noncomputable def eT : Nat → Nat → List (Nat × bV) → List bV → bW → Option bV := Classical.choose eT_ex
theorem eT_def : eT = bT0 := Classical.choose_spec eT_ex
