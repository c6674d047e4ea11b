/-! THE CLASS: what is taken of the special methods (doubles, texts of recipes): told by the table e.2. -/
/-- the nearly told root; the recipes; the sign of a recipe -/
def EO (e : tE) : Prop :=
  (∃ g : bV → bV → bW → Int64, ∀ (lv : List (Nat × bV)) (M : tM) (n r : Nat) (k : Int32), tsh r = 3 → blk lv 0 = some (.inr (.inr (.inl r))) → blk lv 1 = some (.inl k) → (2 ≤ k.toInt ∧ k.toInt ≤ 9) → e.2 2564 0 lv [] (two M n) = some (.inr (.inl (g (.inr (.inr (.inl r))) (.inl k) (two M n))))) ∧
  (∃ g : Int32 → Int32 → Nat, ∀ (lv : List (Nat × bV)) (w : bW) (c x : Int32), blk lv 0 = some (.inl c) → blk lv 1 = some (.inl x) → (4 ≤ g c x ∧ g c x < 16) ∧ e.2 2062 0 lv [] w = some (.inr (.inr (.inr (some (g c x)))))) ∧
  (∃ g : Nat → Int32 → Int32, ∀ (lv : List (Nat × bV)) (w : bW) (j : Nat) (x : Int32), blk lv 1 = some (.inr (.inr (.inr (some j)))) → 4 ≤ j → j < 16 → blk lv 2 = some (.inl x) → 0 ≤ x.toInt → e.2 2059 27 lv [] w = some (.inl (g j x)) ∧ (0 ≤ (g j x).toInt ∧ (g j x).toInt ≤ 127) ∧ (9 ≤ x.toInt → g j x = 0))
section HAND
variable {e : tE} {b d n : Nat}
theorem y_spec {e : tE} {d mi pc : Nat} {lv : List (Nat × bV)} {st : List bV} {w : bW} {v : bV} (h : e.2 mi pc lv st w = some v) : bY e (d + 4) mi pc lv st w (.inl (some v)) w :=
  fun R hR => hR.2 d mi pc lv st w v h
theorem k_X8_guessRoot {x1 : Nat} {x2 : Int} (h0 : cl x1 3) (_ : (-2147483648 ≤ x2 ∧ x2 ≤ 2147483647)) (hq : 2 ≤ x2 ∧ x2 ≤ 9) (he : EO e) (hd : 4 ≤ d) : sC e b d 2564 [.inr (.inr (.inl x1)), .inl x2] n (SQl n (fun z => (-9223372036854775808 ≤ z ∧ z < 9223372036854775808))) := by
  obtain ⟨g, hg⟩ := he.1
  intro M hC _
  refine tst_X8_guessRoot ?_
  intro _
  refine ⟨.inl (some (.inr (.inl (g (.inr (.inr (.inl x1))) (.inl (Int32.ofInt x2)) (two M n)).toInt))), M, n, ⟨⟨hC, pE_refl⟩, _, rfl, rfl, Int64.le_toInt _, Int64.toInt_lt _⟩, fun lv hl => ?_⟩
  have q := hg lv M n x1 (Int32.ofInt x2) h0.1 (hl 0 _ rfl) (hl 1 _ rfl) (by rw [ofI_bound ⟨by omega, by omega⟩]; exact hq)
  have y := y_spec (d := d - 4) q
  rw [show d - 4 + 4 = d by omega] at y
  have e1 : tdr (.inl (some (.inr (.inl (g (.inr (.inr (.inl x1))) (.inl (Int32.ofInt x2)) (two M n)).toInt)))) = .inl (some (.inr (.inl (g (.inr (.inr (.inl x1))) (.inl (Int32.ofInt x2)) (two M n))))) := by
    show Sum.inl (some (Sum.inr (Sum.inl (Int64.ofInt (Int64.toInt _))))) = _
    rw [Int64.ofInt_toInt]
  rw [e1]
  exact y
/-- the text of a recipe -/
theorem k_X6_recipeOf {M : tM} {x1 x2 : Int} (he : EO e) (hd : 4 ≤ d) : ∃ j, (4 ≤ j ∧ j < 16) ∧ tC e d 2062 [.inl x1, .inl x2] M n (fun r M' n' => r = .inl (some (.inr (.inr (.inr j)))) ∧ M' = M ∧ n' = n) := by
  obtain ⟨g, hg⟩ := he.2.1
  refine ⟨g (Int32.ofInt x1) (Int32.ofInt x2), (hg [(0, .inl (Int32.ofInt x1)), (1, .inl (Int32.ofInt x2))] ([], 0) _ _ rfl rfl).1, ?_⟩
  refine tst_X6_recipeOf ?_
  intro _
  refine ⟨.inl (some (.inr (.inr (.inr (g (Int32.ofInt x1) (Int32.ofInt x2)))))), M, n, ⟨rfl, rfl, rfl⟩, fun lv hl => ?_⟩
  have q := (hg lv (two M n) (Int32.ofInt x1) (Int32.ofInt x2) (hl 0 _ rfl) (hl 1 _ rfl)).2
  have y := y_spec (d := d - 4) q
  rw [show d - 4 + 4 = d by omega] at y
  exact y
end HAND
