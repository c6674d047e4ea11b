/-! THE MODEL: the logarithm's numbers. -/
/-- A series of odd terms: t shrinks by w. -/
noncomputable def aS (w : Nat) : Nat → Nat → Nat → Nat → Nat
  | 0, _, _, acc => acc
  | f + 1, t, k, acc => if t = 0 then acc else aS w f (t * w / U6) (k + 2) (acc + t * w / U6 / k)
theorem aS_ge (w f : Nat) : ∀ t k acc, acc ≤ aS w f t k acc := sorry
theorem aS_le {w w' : Nat} (h : w ≤ w') (f : Nat) : ∀ t t' k acc acc', t ≤ t' → acc ≤ acc' → aS w f t k acc ≤ aS w' f t' k acc' := sorry
/-- Twice the series of x. -/
noncomputable def lgS (x : Nat) : Nat := aS (x * x / U6) 200 x 3 x * 2
theorem lgS_le {x y : Nat} (h : x ≤ y) : lgS x ≤ lgS y := sorry
/-- The logarithm of a number near 1, with its sign. -/
noncomputable def lgN (m : Nat) : Int := if m < U6 then -((lgS ((U6 - m) * U6 / (m + U6)) : Nat) : Int) else ((lgS ((m - U6) * U6 / (m + U6)) : Nat) : Int)
theorem frac_le {a b c d : Nat} (hb : 0 < b) (hd : 0 < d) (h : a * d ≤ c * b) : a * U6 / b ≤ c * U6 / d := sorry
theorem lgN_le {a b : Nat} (h : a ≤ b) : lgN a ≤ lgN b := sorry
noncomputable def H15 : Nat := U6 * 3 / 2
noncomputable def H75 : Nat := U6 * 3 / 2 / 2
def aSc (w : Nat) : Nat → Nat → Nat → Nat → Nat
  | 0, _, _, acc => acc
  | f + 1, t, k, acc => if t = 0 then acc else aSc w f (t * w / 1000000000000000000000000000000000000000000000000000000) (k + 2) (acc + t * w / 1000000000000000000000000000000000000000000000000000000 / k)
theorem aS_c (w f : Nat) : ∀ t k acc, aS w f t k acc = aSc w f t k acc := sorry
theorem lg_x : lgS ((U6 - H75) * U6 / (H75 + U6)) + lgS ((H15 - U6) * U6 / (H15 + U6)) ≤ LGc := sorry
