/-! THE MODEL: the logarithm read. -/
noncomputable def lgb (up : Int) (D z : Nat) : Int := if z = 10000000000 then 0 else if lgE (z * K4) = 44 then deepb up D (lgN (z * K4 * 2 ^ lgE (z * K4))).natAbs (if z * K4 * 2 ^ lgE (z * K4) < U6 then 1 else 0) else deepb up D (lgF z).natAbs (if 44 < lgE (z * K4) then 1 else 0)
theorem lgN_s (m : Nat) : (m < U6 → lgN m ≤ 0) ∧ (¬ m < U6 → 0 ≤ lgN m) := by
  unfold lgN
  refine ⟨fun h => ?_, fun h => ?_⟩
  · rw [if_pos h]
    exact Int.neg_nonpos_of_nonneg (Int.natCast_nonneg _)
  · rw [if_neg h]
    exact Int.natCast_nonneg _
theorem lgN_b {m : Nat} (h1 : H75 ≤ m) (h2 : m < H15) : -(LGc : Int) ≤ lgN m ∧ lgN m ≤ (LGc : Int) := by
  have h3 := lgN_le h1
  have h4 := lgN_le (Nat.le_of_lt h2)
  have h5 := lgN_x
  have h6 := (lgN_s H75).1 (by unfold H75; rw [U6_def]; decide)
  have h7 := (lgN_s H15).2 (by unfold H15; rw [U6_def]; decide)
  omega
theorem lgF_b {z : Nat} (hz : 0 < z ∧ z ≤ 30000000000000000000000) : (lgE (z * K4) < 44 → 0 ≤ lgF z) ∧ (44 < lgE (z * K4) → lgF z ≤ 0) := by
  obtain ⟨a1, a2⟩ := lgE_in hz
  obtain ⟨b1, b2⟩ := lgN_b a1 a2
  unfold lgF
  refine ⟨fun h => ?_, fun h => ?_⟩
  · have : (LGc : Int) * 1 ≤ (LGc : Int) * (44 - (lgE (z * K4) : Int)) := Int.mul_le_mul_of_nonneg_left (by omega) (Int.natCast_nonneg _)
    rw [Int.mul_one] at this
    omega
  · have : (LGc : Int) * (44 - (lgE (z * K4) : Int)) ≤ (LGc : Int) * (-1) := Int.mul_le_mul_of_nonneg_left (by omega) (Int.natCast_nonneg _)
    rw [Int.mul_neg, Int.mul_one] at this
    omega
theorem lgS_0 : lgS 0 = 0 := by
  unfold lgS
  show aS (0 * 0 / U6) (199 + 1) 0 3 0 * 2 = 0
  unfold aS
  rw [if_pos rfl]
theorem lgF_1 : lgF 10000000000 = 0 := by
  have e1 : 10000000000 * K4 * 2 ^ 44 = U6 := by rw [Nat.mul_assoc, K4_U4, ← U6_U4]
  have h1 : U6 < H15 := by unfold H15; rw [U6_def]; decide
  have h2 : H75 ≤ U6 := by unfold H75; rw [U6_def]; decide
  have e2 : lgE (10000000000 * K4) = 44 := by
    have d1 : dnE (10000000000 * K4) 44 = 44 := by
      show dnE (10000000000 * K4) (43 + 1) = 44
      unfold dnE
      rw [if_pos (by rw [e1]; exact h1)]
    unfold lgE
    rw [d1]
    show upE (10000000000 * K4) (39 + 1) 44 = 44
    unfold upE
    rw [if_pos (by rw [e1]; exact h2)]
  unfold lgF
  rw [e2, e1]
  unfold lgN
  rw [if_neg (Nat.lt_irrefl _), Nat.sub_self, Nat.zero_mul, Nat.zero_div, lgS_0]
  rfl
theorem lgb_in {D z : Nat} (hD : D ≤ 10) (hz : 0 < z ∧ z ≤ 30000000000000000000000) : lgb 0 D z * (U4 : Int) ≤ lgF z ∧ lgF z ≤ lgb 1 D z * (U4 : Int) := by
  unfold lgb
  by_cases h : z = 10000000000
  · rw [if_pos h, if_pos h, h, lgF_1, Int.zero_mul]
    exact ⟨Int.le_refl _, Int.le_refl _⟩
  · rw [if_neg h, if_neg h]
    by_cases h2 : lgE (z * K4) = 44
    · rw [if_pos h2, if_pos h2]
      have e1 : lgF z = lgN (z * K4 * 2 ^ lgE (z * K4)) := by
        unfold lgF
        rw [h2, show (44 : Int) - ((44 : Nat) : Int) = 0 from rfl, Int.mul_zero, Int.add_zero]
      rw [e1]
      have hs := lgN_s (z * K4 * 2 ^ lgE (z * K4))
      generalize z * K4 * 2 ^ lgE (z * K4) = m at *
      by_cases hm : m < U6
      · rw [if_pos hm]
        have := deep_in (D := D) (v := (lgN m).natAbs) (ib := 1) hD (Or.inr rfl)
        rw [if_pos rfl] at this
        have := hs.1 hm
        omega
      · rw [if_neg hm]
        have := deep_in (D := D) (v := (lgN m).natAbs) (ib := 0) hD (Or.inl rfl)
        rw [if_neg (by omega)] at this
        have := hs.2 hm
        omega
    · rw [if_neg h2, if_neg h2]
      have hs := lgF_b hz
      by_cases hm : 44 < lgE (z * K4)
      · rw [if_pos hm]
        have := deep_in (D := D) (v := (lgF z).natAbs) (ib := 1) hD (Or.inr rfl)
        rw [if_pos rfl] at this
        have := hs.2 hm
        omega
      · rw [if_neg hm]
        have := deep_in (D := D) (v := (lgF z).natAbs) (ib := 0) hD (Or.inl rfl)
        rw [if_neg (by omega)] at this
        have := hs.1 (by omega)
        omega
