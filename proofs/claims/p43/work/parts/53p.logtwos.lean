/-! THE MODEL: the logarithm's twos. -/
/-- 5^44, opaque. -/
theorem K4_ex : ∃ u : Nat, u = 5684341886080801486968994140625 := ⟨_, rfl⟩
noncomputable def K4 : Nat := Classical.choose K4_ex
theorem K4_def : K4 = 5684341886080801486968994140625 := Classical.choose_spec K4_ex
theorem K4_U4 : K4 * 2 ^ 44 = U4 := by rw [K4_def, U4_def]
theorem H_2 : H15 = H75 * 2 := by unfold H15 H75; rw [U6_def]
noncomputable def dnE (x : Nat) : Nat → Nat
  | 0 => 0
  | E + 1 => if x * 2 ^ (E + 1) < H15 then E + 1 else dnE x E
noncomputable def upE (x : Nat) : Nat → Nat → Nat
  | 0, E => E
  | f + 1, E => if H75 ≤ x * 2 ^ E then E else upE x f (E + 1)
noncomputable def lgE (x : Nat) : Nat := upE x 40 (dnE x 44)
theorem dnE_lt {x : Nat} (hx : x < H15) : ∀ E, x * 2 ^ dnE x E < H15 := by
  intro E
  induction E with
  | zero => show x * 2 ^ 0 < H15; rw [Nat.pow_zero, Nat.mul_one]; exact hx
  | succ E ih =>
    unfold dnE
    split
    · assumption
    · exact ih
theorem two_p (x E : Nat) : x * 2 ^ (E + 1) = x * 2 ^ E * 2 := by rw [Nat.pow_succ, Nat.mul_assoc]
theorem dnE_ge {x : Nat} : ∀ E, dnE x E = E ∨ H75 ≤ x * 2 ^ dnE x E := by
  intro E
  induction E with
  | zero => exact Or.inl rfl
  | succ E ih =>
    unfold dnE
    split
    · exact Or.inl rfl
    · rename_i h
      right
      rcases ih with q | q
      · rw [q]
        rw [two_p, H_2] at h
        omega
      · exact q
theorem upE_lt {x : Nat} : ∀ f E, x * 2 ^ E < H15 → x * 2 ^ upE x f E < H15 := by
  intro f
  induction f with
  | zero => exact fun E h => h
  | succ f ih =>
    intro E h
    unfold upE
    split
    · exact h
    · rename_i h2
      refine ih (E + 1) ?_
      rw [two_p, H_2]
      omega
theorem upE_ge {x : Nat} : ∀ f E, H75 ≤ x * 2 ^ (E + f) → H75 ≤ x * 2 ^ upE x f E := by
  intro f
  induction f with
  | zero => exact fun E h => h
  | succ f ih =>
    intro E h
    unfold upE
    split
    · assumption
    · refine ih (E + 1) ?_
      rw [Nat.add_assoc, Nat.add_comm 1 f]
      exact h
theorem lg_ends : 30000000000000000000000 * K4 < H15 ∧ H75 ≤ K4 * 2 ^ 84 := by unfold H15 H75; rw [U6_def, K4_def]; decide
theorem lgE_in {z : Nat} (hz : 0 < z ∧ z ≤ 30000000000000000000000) : H75 ≤ z * K4 * 2 ^ lgE (z * K4) ∧ z * K4 * 2 ^ lgE (z * K4) < H15 := by
  have hx : z * K4 < H15 := Nat.lt_of_le_of_lt (Nat.mul_le_mul_right _ hz.2) lg_ends.1
  refine ⟨?_, upE_lt _ _ (dnE_lt hx _)⟩
  rcases dnE_ge (x := z * K4) 44 with q | q
  · refine upE_ge _ _ ?_
    rw [q]
    exact Nat.le_trans lg_ends.2 (Nat.mul_le_mul_right _ (Nat.le_mul_of_pos_left _ hz.1))
  · unfold lgE upE
    rw [if_pos q]
    exact q
/-- The logarithm, signed, at 10^-54. -/
noncomputable def lgF (z : Nat) : Int := lgN (z * K4 * 2 ^ lgE (z * K4)) + (LGc : Int) * (44 - (lgE (z * K4) : Int))
theorem lgN_x : lgN H15 ≤ lgN H75 + (LGc : Int) := by
  have h := lg_x
  have h1 : ¬ H15 < U6 := by unfold H15; rw [U6_def]; decide
  have h2 : H75 < U6 := by unfold H75; rw [U6_def]; decide
  unfold lgN
  rw [if_neg h1, if_pos h2]
  omega
theorem lgF_le {z y : Nat} (hz : 0 < z) (h : z ≤ y) (hy : y ≤ 30000000000000000000000) : lgF z ≤ lgF y := by
  obtain ⟨a1, a2⟩ := lgE_in ⟨hz, Nat.le_trans h hy⟩
  obtain ⟨b1, b2⟩ := lgE_in ⟨Nat.lt_of_lt_of_le hz h, hy⟩
  have hx : z * K4 ≤ y * K4 := Nat.mul_le_mul_right _ h
  unfold lgF
  generalize z * K4 = X at *
  generalize y * K4 = Y at *
  generalize lgE X = E at *
  generalize lgE Y = F at *
  rcases Nat.lt_trichotomy E F with q | q | q
  · exfalso
    have h1 : X * 2 ^ (E + 1) ≤ Y * 2 ^ F := Nat.mul_le_mul hx (Nat.pow_le_pow_right (by decide) q)
    rw [two_p] at h1
    rw [H_2] at b2
    omega
  · subst q
    exact Int.add_le_add_right (lgN_le (Nat.mul_le_mul_right _ hx)) _
  · have h1 := lgN_le (Nat.le_of_lt a2)
    have h2 := lgN_le b1
    have h3 := lgN_x
    have h4 : (LGc : Int) * (44 - (E : Int)) + (LGc : Int) ≤ (LGc : Int) * (44 - (F : Int)) := by
      have e1 : (LGc : Int) * (44 - (E : Int)) + (LGc : Int) = (LGc : Int) * (44 - (E : Int) + 1) := by rw [Int.mul_add, Int.mul_one]
      rw [e1]
      exact Int.mul_le_mul_of_nonneg_left (by omega) (Int.natCast_nonneg _)
    omega
