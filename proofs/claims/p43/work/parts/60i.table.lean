/-! THE TABLE of what is taken of the special methods. -/
def gT0 (lv : List (Nat × bV)) (w : bW) : Option bV := match blk lv 0, blk lv 1 with
  | some (.inr (.inr (.inl r))), some (.inl k) => (match w.1[r]? with
    | some (.inl (3, [.inr (.inl a), .inr (.inl b)])) => if 2 ≤ k.toInt ∧ k.toInt ≤ 9 then some (.inr (.inl (gval k.toInt.toNat a b))) else none
    | _ => none)
  | _, _ => none
def rT0 (lv : List (Nat × bV)) : Option bV := match blk lv 0, blk lv 1 with
  | some (.inl c), some (.inl x) => some (.inr (.inr (.inr (some (recJ c x)))))
  | _, _ => none
def sT0 (lv : List (Nat × bV)) : Option bV := match blk lv 1, blk lv 2 with
  | some (.inr (.inr (.inr (some j)))), some (.inl x) => if (4 ≤ j ∧ j < 16) ∧ 0 ≤ x.toInt then some (.inl (sgJ j x)) else none
  | _, _ => none
def bT0 : Nat → Nat → List (Nat × bV) → List bV → bW → Option bV := fun mi pc lv st w => match st with
  | [] => if mi = 2564 ∧ pc = 0 then gT0 lv w else if mi = 2062 ∧ pc = 0 then rT0 lv else if mi = 2059 ∧ pc = 27 then sT0 lv else none
  | _ => none
theorem eT_ex : ∃ f : Nat → Nat → List (Nat × bV) → List bV → bW → Option bV, f = bT0 := ⟨_, rfl⟩
/-- the table -/
noncomputable def eT : Nat → Nat → List (Nat × bV) → List bV → bW → Option bV := Classical.choose eT_ex
theorem eT_def : eT = bT0 := Classical.choose_spec eT_ex
