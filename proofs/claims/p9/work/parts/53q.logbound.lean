/-! THE MODEL: the logarithm read. -/
noncomputable def lgb (up : Int) (D z : Nat) : Int := if z = 10000000000 then 0 else if lgE (z * K4) = 44 then deepb up D (lgN (z * K4 * 2 ^ lgE (z * K4))).natAbs (if z * K4 * 2 ^ lgE (z * K4) < U6 then 1 else 0) else deepb up D (lgF z).natAbs (if 44 < lgE (z * K4) then 1 else 0)
theorem lgN_s (m : Nat) : (m < U6 → lgN m ≤ 0) ∧ (¬ m < U6 → 0 ≤ lgN m) := sorry
theorem lgN_b {m : Nat} (h1 : H75 ≤ m) (h2 : m < H15) : -(LGc : Int) ≤ lgN m ∧ lgN m ≤ (LGc : Int) := sorry
theorem lgF_b {z : Nat} (hz : 0 < z ∧ z ≤ 30000000000000000000000) : (lgE (z * K4) < 44 → 0 ≤ lgF z) ∧ (44 < lgE (z * K4) → lgF z ≤ 0) := sorry
theorem lgS_0 : lgS 0 = 0 := sorry
theorem lgF_1 : lgF 10000000000 = 0 := sorry
theorem lgb_in {D z : Nat} (hD : D ≤ 10) (hz : 0 < z ∧ z ≤ 30000000000000000000000) : lgb 0 D z * (U4 : Int) ≤ lgF z ∧ lgF z ≤ lgb 1 D z * (U4 : Int) := sorry
