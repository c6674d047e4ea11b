/-! THE MODEL: the logarithm's numbers. -/
/-- A series of odd terms: t shrinks by w. -/
noncomputable def aS (w : Nat) : Nat → Nat → Nat → Nat → Nat
  | 0, _, _, acc => acc
  | f + 1, t, k, acc => if t = 0 then acc else aS w f (t * w / U6) (k + 2) (acc + t * w / U6 / k)
theorem aS_ge (w f : Nat) : ∀ t k acc, acc ≤ aS w f t k acc := by
  induction f with
  | zero => exact fun _ _ _ => Nat.le_refl _
  | succ f ih =>
    intro t k acc
    unfold aS
    split
    · exact Nat.le_refl _
    · exact Nat.le_trans (Nat.le_add_right _ _) (ih _ _ _)
theorem aS_le {w w' : Nat} (h : w ≤ w') (f : Nat) : ∀ t t' k acc acc', t ≤ t' → acc ≤ acc' → aS w f t k acc ≤ aS w' f t' k acc' := by
  induction f with
  | zero => exact fun _ _ _ _ _ _ h => h
  | succ f ih =>
    intro t t' k acc acc' h1 h2
    by_cases h0 : t = 0
    · have : aS w (f + 1) t k acc = acc := by unfold aS; rw [if_pos h0]
      rw [this]
      exact Nat.le_trans h2 (aS_ge _ _ _ _ _)
    · unfold aS
      rw [if_neg h0, if_neg (by omega)]
      have hm : t * w / U6 ≤ t' * w' / U6 := Nat.div_le_div_right (Nat.mul_le_mul h1 h)
      exact ih _ _ _ _ _ hm (Nat.add_le_add h2 (Nat.div_le_div_right hm))
/-- Twice the series of x. -/
noncomputable def lgS (x : Nat) : Nat := aS (x * x / U6) 200 x 3 x * 2
theorem lgS_le {x y : Nat} (h : x ≤ y) : lgS x ≤ lgS y := Nat.mul_le_mul_right _ (aS_le (Nat.div_le_div_right (Nat.mul_le_mul h h)) 200 _ _ _ _ _ h h)
/-- The logarithm of a number near 1, with its sign. -/
noncomputable def lgN (m : Nat) : Int := if m < U6 then -((lgS ((U6 - m) * U6 / (m + U6)) : Nat) : Int) else ((lgS ((m - U6) * U6 / (m + U6)) : Nat) : Int)
theorem frac_le {a b c d : Nat} (hb : 0 < b) (hd : 0 < d) (h : a * d ≤ c * b) : a * U6 / b ≤ c * U6 / d := by
  rw [Nat.le_div_iff_mul_le hd]
  have h1 : a * U6 / b * b ≤ a * U6 := Nat.div_mul_le_self _ _
  have h2 : a * U6 / b * d * b ≤ c * U6 * b := by
    calc a * U6 / b * d * b = a * U6 / b * b * d := Nat.mul_right_comm _ _ _
      _ ≤ a * U6 * d := Nat.mul_le_mul_right _ h1
      _ = a * d * U6 := Nat.mul_right_comm _ _ _
      _ ≤ c * b * U6 := Nat.mul_le_mul_right _ h
      _ = c * U6 * b := Nat.mul_right_comm _ _ _
  exact Nat.le_of_mul_le_mul_right h2 hb
theorem lgN_le {a b : Nat} (h : a ≤ b) : lgN a ≤ lgN b := by
  have hu := U6_pos
  unfold lgN
  by_cases h1 : a < U6
  · rw [if_pos h1]
    by_cases h2 : b < U6
    · rw [if_pos h2]
      have : lgS ((U6 - b) * U6 / (b + U6)) ≤ lgS ((U6 - a) * U6 / (a + U6)) := lgS_le (frac_le (by omega) (by omega) (Nat.mul_le_mul (by omega) (by omega)))
      exact Int.neg_le_neg (Int.ofNat_le.mpr this)
    · rw [if_neg h2]
      exact Int.le_trans (Int.neg_nonpos_of_nonneg (Int.natCast_nonneg _)) (Int.natCast_nonneg _)
  · rw [if_neg h1, if_neg (by omega)]
    refine Int.ofNat_le.mpr (lgS_le (frac_le (by omega) (by omega) ?_))
    obtain ⟨x, rfl⟩ : ∃ x, a = U6 + x := ⟨a - U6, by omega⟩
    obtain ⟨y, rfl⟩ : ∃ y, b = U6 + y := ⟨b - U6, by omega⟩
    rw [Nat.add_sub_cancel_left, Nat.add_sub_cancel_left]
    have hxy : x ≤ y := by omega
    have h5 : x * y = y * x := Nat.mul_comm _ _
    have h6 := Nat.mul_le_mul_right U6 hxy
    simp only [Nat.mul_add]
    omega
noncomputable def H15 : Nat := U6 * 3 / 2
noncomputable def H75 : Nat := U6 * 3 / 2 / 2
def aSc (w : Nat) : Nat → Nat → Nat → Nat → Nat
  | 0, _, _, acc => acc
  | f + 1, t, k, acc => if t = 0 then acc else aSc w f (t * w / 1000000000000000000000000000000000000000000000000000000) (k + 2) (acc + t * w / 1000000000000000000000000000000000000000000000000000000 / k)
theorem aS_c (w f : Nat) : ∀ t k acc, aS w f t k acc = aSc w f t k acc := by
  induction f with
  | zero => exact fun _ _ _ => rfl
  | succ f ih =>
    intro t k acc
    unfold aS aSc
    rw [U6_def, ih]
theorem lg_x : lgS ((U6 - H75) * U6 / (H75 + U6)) + lgS ((H15 - U6) * U6 / (H15 + U6)) ≤ LGc := by
  unfold lgS H75 H15
  rw [aS_c, aS_c, U6_def]
  decide +kernel
