/-! THE MODEL: the arcus tangens' numbers. -/
noncomputable def atS (w : Nat) : Nat → Nat → Nat → Nat → Nat
  | 0, _, _, acc => acc
  | f + 1, t, k, acc => if t = 0 then acc else atS w f (t * w / U6 * (2 * k) / (2 * k + 1)) (k + 1) (acc + t * w / U6 * (2 * k) / (2 * k + 1))
theorem atS_ge (w f : Nat) : ∀ t k acc, acc ≤ atS w f t k acc := sorry
theorem atS_end {w f t k acc : Nat} (h : t = 0) : atS w f t k acc = acc := sorry
theorem atS_le {w w' : Nat} (h : w ≤ w') (f : Nat) : ∀ t t' k acc acc', t ≤ t' → acc ≤ acc' → atS w f t k acc ≤ atS w' f t' k acc' := sorry
/-- The square of s at 10^-54; what the terms shrink by; the first term. -/
noncomputable def aq (s : Nat) : Nat := s * s / U6
noncomputable def ar (s : Nat) : Nat := aq s * U6 / (U6 + aq s)
noncomputable def at0 (s : Nat) : Nat := s * U6 / (U6 + aq s)
noncomputable def atV (s : Nat) : Nat := atS (ar s) 200 (at0 s) 1 (at0 s)
/-- Two numbers that lie far enough apart. -/
def aap (s1 s2 : Nat) : Prop := s1 < s2 ∧ s2 ≤ U6 ∧ s2 * U6 ≤ (s2 - s1) * (U6 * U6 - s1 * s2)
theorem at0_le {s1 s2 : Nat} (h : aap s1 s2) : at0 s1 ≤ at0 s2 := sorry
theorem ar_le {s1 s2 : Nat} (h : s1 ≤ s2) : ar s1 ≤ ar s2 := sorry
theorem atV_le {s1 s2 : Nat} (h : aap s1 s2) : atV s1 ≤ atV s2 := sorry
