/-! THE MODEL: the arcus tangens, monotone. -/
theorem U44 : U6 ≤ U4 * U4 := by rewrite [U6_def, U4_def]; decide
/-- On the grid. -/
theorem aap_g {a b : Nat} (h : a < b) (hb : b ≤ 10000000000) : aap (a * U4) (b * U4) := by
  have hu := U4_pos
  have e6 := U6_U4
  have h1 : (a + 1) * U4 ≤ b * U4 := Nat.mul_le_mul_right _ h
  have h2 : b * U4 ≤ 10000000000 * U4 := Nat.mul_le_mul_right _ hb
  rw [Nat.add_mul, Nat.one_mul] at h1
  generalize a * U4 = s1 at *
  generalize b * U4 = s2 at *
  have h3 : s2 ≤ U6 := by omega
  refine ⟨by omega, h3, ?_⟩
  have h4 : s1 * s2 + U4 * U6 ≤ U6 * U6 := by
    have : s1 * s2 ≤ (U6 - U4) * U6 := Nat.mul_le_mul (by omega) h3
    have e2 : (U6 - U4) * U6 + U4 * U6 = U6 * U6 := by
      rw [← Nat.add_mul]
      congr 1
      omega
    omega
  have h5 : U4 * (U4 * U6) ≤ (s2 - s1) * (U6 * U6 - s1 * s2) := Nat.mul_le_mul (by omega) (by omega)
  have h6 : s2 * U6 ≤ U4 * (U4 * U6) := by
    rw [← Nat.mul_assoc]
    exact Nat.mul_le_mul_right _ (Nat.le_trans h3 U44)
  exact Nat.le_trans h6 h5
theorem A6_ex : ∃ u : Nat, u = 10000000000000000000000000000000000000000000000000000000000000000 := ⟨_, rfl⟩
noncomputable def A6 : Nat := Classical.choose A6_ex
theorem A6_def : A6 = 10000000000000000000000000000000000000000000000000000000000000000 := Classical.choose_spec A6_ex
theorem A6_big : 1000000000000000000 * 30000000000000000000000 * (30000000000000000000000 + 1) ≤ A6 := by rewrite [A6_def]; decide
theorem A6_top : A6 / 10000000001 + U4 / 2 ≤ U6 := by rewrite [A6_def, U6_def, U4_def]; decide
theorem U418 : U6 ≤ 1000000000000000000 * (U4 / 2) := by rewrite [U6_def, U4_def]; decide
/-- Of reciprocals. -/
theorem aap_r {a b : Nat} (h0 : 10000000000 < a) (h : a < b) (hb : b ≤ 30000000000000000000000) : aap (A6 / b) (A6 / a) := by
  have step : A6 / b + 1000000000000000000 ≤ A6 / a := by
    rw [Nat.le_div_iff_mul_le (by omega)]
    have h1 : A6 / b * b ≤ A6 := Nat.div_mul_le_self _ _
    have h2 : 1000000000000000000 * 30000000000000000000000 ≤ A6 / b := by
      rw [Nat.le_div_iff_mul_le (by omega)]
      exact Nat.le_trans (Nat.mul_le_mul_left _ (by omega)) A6_big
    have h3 : 1000000000000000000 * a ≤ 1000000000000000000 * 30000000000000000000000 := Nat.mul_le_mul_left _ (by omega)
    have h4 : A6 / b * (a + 1) ≤ A6 / b * b := Nat.mul_le_mul_left _ h
    rw [Nat.mul_add, Nat.mul_one] at h4
    rw [Nat.add_mul]
    generalize A6 / b * a = P at *
    generalize 1000000000000000000 * a = R at *
    omega
  have top : A6 / a ≤ A6 / 10000000001 := Nat.div_le_div_left h0 (by decide)
  have htop := A6_top
  have hu4 := U4_pos
  generalize A6 / b = s1 at *
  generalize A6 / a = s2 at *
  generalize A6 / 10000000001 = T at *
  have h3 : s2 ≤ U6 := by omega
  refine ⟨by omega, h3, ?_⟩
  have h4 : s1 * s2 + U4 / 2 * U6 ≤ U6 * U6 := by
    have : s1 * s2 ≤ (U6 - U4 / 2) * U6 := Nat.mul_le_mul (by omega) h3
    have e2 : (U6 - U4 / 2) * U6 + U4 / 2 * U6 = U6 * U6 := by
      rw [← Nat.add_mul]
      congr 1
      omega
    omega
  have h5 : 1000000000000000000 * (U4 / 2 * U6) ≤ (s2 - s1) * (U6 * U6 - s1 * s2) := Nat.mul_le_mul (by omega) (by omega)
  have h6 : s2 * U6 ≤ 1000000000000000000 * (U4 / 2 * U6) := by
    rw [← Nat.mul_assoc]
    exact Nat.mul_le_mul_right _ (Nat.le_trans h3 U418)
  exact Nat.le_trans h6 h5
def atSc (w : Nat) : Nat → Nat → Nat → Nat → Nat
  | 0, _, _, acc => acc
  | f + 1, t, k, acc => if t = 0 then acc else atSc w f (t * w / 1000000000000000000000000000000000000000000000000000000 * (2 * k) / (2 * k + 1)) (k + 1) (acc + t * w / 1000000000000000000000000000000000000000000000000000000 * (2 * k) / (2 * k + 1))
theorem atS_c (w f : Nat) : ∀ t k acc, atS w f t k acc = atSc w f t k acc := by
  induction f with
  | zero => exact fun _ _ _ => rfl
  | succ f ih =>
    intro t k acc
    unfold atS atSc
    rw [U6_def, ih]
theorem at_x : atV U6 + atV (A6 / 10000000001) ≤ PIc / 2 := by
  unfold atV ar at0 aq
  rewrite [atS_c, atS_c, U6_def, A6_def]
  decide +kernel
noncomputable def atF (z : Nat) : Nat := if z ≤ 10000000000 then atV (z * U4) else PIc / 2 - atV (A6 / z)
theorem atV_g {a : Nat} (h : a ≤ 10000000000) : atV (a * U4) ≤ atV U6 := by
  rcases Nat.lt_or_ge a 10000000000 with q | q
  · have := atV_le (aap_g q (Nat.le_refl _))
    rw [← U6_U4] at this
    exact this
  · rw [show a = 10000000000 by omega, ← U6_U4]
    exact Nat.le_refl _
theorem atV_r {a : Nat} (h0 : 10000000000 < a) (h : a ≤ 30000000000000000000000) : atV (A6 / a) ≤ atV (A6 / 10000000001) := by
  rcases Nat.lt_or_ge 10000000001 a with q | q
  · exact atV_le (aap_r (by decide) q h)
  · rw [show a = 10000000001 by omega]
    exact Nat.le_refl _
theorem atF_le {a b : Nat} (h : a ≤ b) (hb : b ≤ 30000000000000000000000) : atF a ≤ atF b := by
  have hx := at_x
  rcases Nat.eq_or_lt_of_le h with rfl | h
  · exact Nat.le_refl _
  unfold atF
  by_cases h1 : a ≤ 10000000000
  · rw [if_pos h1]
    by_cases h2 : b ≤ 10000000000
    · rw [if_pos h2]
      exact atV_le (aap_g h h2)
    · rw [if_neg h2]
      have := atV_g h1
      have := atV_r (show 10000000000 < b by omega) hb
      omega
  · rw [if_neg h1, if_neg (by omega)]
    have := atV_le (aap_r (by omega) h hb)
    omega
