/-! THE MODEL: the arcus tangens' numbers. -/
noncomputable def atS (w : Nat) : Nat → Nat → Nat → Nat → Nat
  | 0, _, _, acc => acc
  | f + 1, t, k, acc => if t = 0 then acc else atS w f (t * w / U6 * (2 * k) / (2 * k + 1)) (k + 1) (acc + t * w / U6 * (2 * k) / (2 * k + 1))
theorem atS_ge (w f : Nat) : ∀ t k acc, acc ≤ atS w f t k acc := by
  induction f with
  | zero => exact fun _ _ _ => Nat.le_refl _
  | succ f ih =>
    intro t k acc
    unfold atS
    split
    · exact Nat.le_refl _
    · exact Nat.le_trans (Nat.le_add_right _ _) (ih _ _ _)
theorem atS_end {w f t k acc : Nat} (h : t = 0) : atS w f t k acc = acc := by
  subst h
  cases f with
  | zero => rfl
  | succ f =>
    unfold atS
    rw [if_pos rfl]
theorem atS_le {w w' : Nat} (h : w ≤ w') (f : Nat) : ∀ t t' k acc acc', t ≤ t' → acc ≤ acc' → atS w f t k acc ≤ atS w' f t' k acc' := by
  induction f with
  | zero => exact fun _ _ _ _ _ _ h => h
  | succ f ih =>
    intro t t' k acc acc' h1 h2
    by_cases h0 : t = 0
    · rw [atS_end h0]
      exact Nat.le_trans h2 (atS_ge _ _ _ _ _)
    · unfold atS
      rw [if_neg h0, if_neg (by omega)]
      have hm : t * w / U6 * (2 * k) / (2 * k + 1) ≤ t' * w' / U6 * (2 * k) / (2 * k + 1) := Nat.div_le_div_right (Nat.mul_le_mul_right _ (Nat.div_le_div_right (Nat.mul_le_mul h1 h)))
      exact ih _ _ _ _ _ hm (Nat.add_le_add h2 hm)
/-- The square of s at 10^-54; what the terms shrink by; the first term. -/
noncomputable def aq (s : Nat) : Nat := s * s / U6
noncomputable def ar (s : Nat) : Nat := aq s * U6 / (U6 + aq s)
noncomputable def at0 (s : Nat) : Nat := s * U6 / (U6 + aq s)
noncomputable def atV (s : Nat) : Nat := atS (ar s) 200 (at0 s) 1 (at0 s)
/-- Two numbers that lie far enough apart. -/
def aap (s1 s2 : Nat) : Prop := s1 < s2 ∧ s2 ≤ U6 ∧ s2 * U6 ≤ (s2 - s1) * (U6 * U6 - s1 * s2)
theorem at0_le {s1 s2 : Nat} (h : aap s1 s2) : at0 s1 ≤ at0 s2 := by
  obtain ⟨h1, h2, h3⟩ := h
  have hu := U6_pos
  unfold at0
  refine frac_le (by omega) (by omega) ?_
  have e1 : aq s2 * U6 ≤ s2 * s2 := Nat.div_mul_le_self _ _
  have e2 : s1 * s1 < aq s1 * U6 + U6 := Nat.lt_div_mul_add hu
  generalize aq s1 = q1 at *
  generalize aq s2 = q2 at *
  have h4 : s1 * s2 ≤ U6 * U6 := Nat.mul_le_mul (by omega) h2
  obtain ⟨dl, hdl⟩ : ∃ dl, s2 = s1 + dl := ⟨s2 - s1, by omega⟩
  rw [show s2 - s1 = dl by omega] at h3
  generalize U6 = U at *
  have h5 : dl * (U * U - s1 * s2) + dl * (s1 * s2) = dl * (U * U) := by
    rw [← Nat.mul_add]
    congr 1
    omega
  -- times U
  have g1 : s1 * (q2 * U) ≤ s1 * (s2 * s2) := Nat.mul_le_mul_left _ e1
  have g2 : s2 * (s1 * s1) ≤ s2 * (q1 * U + U) := Nat.mul_le_mul_left _ (Nat.le_of_lt e2)
  have g3 : s1 * (s2 * s2) = s2 * (s1 * s1) + dl * (s1 * s2) := by
    have : s1 * (s2 * s2) = s2 * (s1 * s2) := Nat.mul_left_comm _ _ _
    rw [this]
    have : s2 * (s1 * s1) + dl * (s1 * s2) = s2 * (s1 * s1) + s2 * (s1 * dl) := by
      congr 1
      rw [Nat.mul_comm dl, Nat.mul_assoc, Nat.mul_left_comm]
    rw [this, ← Nat.mul_add, ← Nat.mul_add, ← hdl]
  have g4 : s2 * (q1 * U + U) = s2 * (q1 * U) + s2 * U := Nat.mul_add _ _ _
  have g5 : s2 * (U * U) = s1 * (U * U) + dl * (U * U) := by rw [hdl, Nat.add_mul]
  have key : s1 * (U * U) + s1 * (q2 * U) ≤ s2 * (U * U) + s2 * (q1 * U) := by omega
  have f1 : s1 * (U + q2) * U = s1 * (U * U) + s1 * (q2 * U) := by rw [Nat.mul_assoc, Nat.add_mul, Nat.mul_add]
  have f2 : s2 * (U + q1) * U = s2 * (U * U) + s2 * (q1 * U) := by rw [Nat.mul_assoc, Nat.add_mul, Nat.mul_add]
  rw [← f1, ← f2] at key
  exact Nat.le_of_mul_le_mul_right key hu
theorem ar_le {s1 s2 : Nat} (h : s1 ≤ s2) : ar s1 ≤ ar s2 := by
  have hu := U6_pos
  have e1 : aq s1 ≤ aq s2 := Nat.div_le_div_right (Nat.mul_le_mul h h)
  unfold ar
  refine frac_le (by omega) (by omega) ?_
  generalize aq s1 = q1 at *
  generalize aq s2 = q2 at *
  have h6 := Nat.mul_le_mul_right U6 e1
  have h7 : q1 * q2 = q2 * q1 := Nat.mul_comm _ _
  simp only [Nat.mul_add]
  omega
theorem atV_le {s1 s2 : Nat} (h : aap s1 s2) : atV s1 ≤ atV s2 :=
  atS_le (ar_le (Nat.le_of_lt h.1)) 200 _ _ _ _ _ (at0_le h) (at0_le h)
