/-! THE MODEL: the arcus tangens, monotone. -/
theorem U44 : U6 ≤ U4 * U4 := sorry
/-- On the grid. -/
theorem aap_g {a b : Nat} (h : a < b) (hb : b ≤ 10000000000) : aap (a * U4) (b * U4) := sorry
theorem A6_ex : ∃ u : Nat, u = 10000000000000000000000000000000000000000000000000000000000000000 := sorry
noncomputable def A6 : Nat := Classical.choose A6_ex
theorem A6_def : A6 = 10000000000000000000000000000000000000000000000000000000000000000 := sorry
theorem A6_big : 1000000000000000000 * 30000000000000000000000 * (30000000000000000000000 + 1) ≤ A6 := sorry
theorem A6_top : A6 / 10000000001 + U4 / 2 ≤ U6 := sorry
theorem U418 : U6 ≤ 1000000000000000000 * (U4 / 2) := sorry
/-- Of reciprocals. -/
theorem aap_r {a b : Nat} (h0 : 10000000000 < a) (h : a < b) (hb : b ≤ 30000000000000000000000) : aap (A6 / b) (A6 / a) := sorry
def atSc (w : Nat) : Nat → Nat → Nat → Nat → Nat
  | 0, _, _, acc => acc
  | f + 1, t, k, acc => if t = 0 then acc else atSc w f (t * w / 1000000000000000000000000000000000000000000000000000000 * (2 * k) / (2 * k + 1)) (k + 1) (acc + t * w / 1000000000000000000000000000000000000000000000000000000 * (2 * k) / (2 * k + 1))
theorem atS_c (w f : Nat) : ∀ t k acc, atS w f t k acc = atSc w f t k acc := sorry
theorem at_x : atV U6 + atV (A6 / 10000000001) ≤ PIc / 2 := sorry
noncomputable def atF (z : Nat) : Nat := if z ≤ 10000000000 then atV (z * U4) else PIc / 2 - atV (A6 / z)
theorem atV_g {a : Nat} (h : a ≤ 10000000000) : atV (a * U4) ≤ atV U6 := sorry
theorem atV_r {a : Nat} (h0 : 10000000000 < a) (h : a ≤ 30000000000000000000000) : atV (A6 / a) ≤ atV (A6 / 10000000001) := sorry
theorem atF_le {a b : Nat} (h : a ≤ b) (hb : b ≤ 30000000000000000000000) : atF a ≤ atF b := sorry
