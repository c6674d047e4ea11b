/-! THE MODEL: the logarithm's twos. -/
/-- 5^44, opaque. -/
theorem K4_ex : ∃ u : Nat, u = 5684341886080801486968994140625 := sorry
noncomputable def K4 : Nat := Classical.choose K4_ex
theorem K4_def : K4 = 5684341886080801486968994140625 := sorry
theorem K4_U4 : K4 * 2 ^ 44 = U4 := sorry
theorem H_2 : H15 = H75 * 2 := sorry
noncomputable def dnE (x : Nat) : Nat → Nat
  | 0 => 0
  | E + 1 => if x * 2 ^ (E + 1) < H15 then E + 1 else dnE x E
noncomputable def upE (x : Nat) : Nat → Nat → Nat
  | 0, E => E
  | f + 1, E => if H75 ≤ x * 2 ^ E then E else upE x f (E + 1)
noncomputable def lgE (x : Nat) : Nat := upE x 40 (dnE x 44)
theorem dnE_lt {x : Nat} (hx : x < H15) : ∀ E, x * 2 ^ dnE x E < H15 := sorry
theorem two_p (x E : Nat) : x * 2 ^ (E + 1) = x * 2 ^ E * 2 := sorry
theorem dnE_ge {x : Nat} : ∀ E, dnE x E = E ∨ H75 ≤ x * 2 ^ dnE x E := sorry
theorem upE_lt {x : Nat} : ∀ f E, x * 2 ^ E < H15 → x * 2 ^ upE x f E < H15 := sorry
theorem upE_ge {x : Nat} : ∀ f E, H75 ≤ x * 2 ^ (E + f) → H75 ≤ x * 2 ^ upE x f E := sorry
theorem lg_ends : 30000000000000000000000 * K4 < H15 ∧ H75 ≤ K4 * 2 ^ 84 := sorry
theorem lgE_in {z : Nat} (hz : 0 < z ∧ z ≤ 30000000000000000000000) : H75 ≤ z * K4 * 2 ^ lgE (z * K4) ∧ z * K4 * 2 ^ lgE (z * K4) < H15 := sorry
/-- The logarithm, signed, at 10^-54. -/
noncomputable def lgF (z : Nat) : Int := lgN (z * K4 * 2 ^ lgE (z * K4)) + (LGc : Int) * (44 - (lgE (z * K4) : Int))
theorem lgN_x : lgN H15 ≤ lgN H75 + (LGc : Int) := sorry
theorem lgF_le {z y : Nat} (hz : 0 < z) (h : z ≤ y) (hy : y ≤ 30000000000000000000000) : lgF z ≤ lgF y := sorry
