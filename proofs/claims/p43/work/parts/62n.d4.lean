/-! NEWTON's step in whole numbers. -/
section NEWT
theorem root_ex {k V : Nat} : ∀ n : Nat, V ≤ n ^ k → ∃ R : Nat, V ≤ R ^ k ∧ (R = 0 ∨ (R - 1) ^ k < V)
  | 0, h => ⟨0, h, Or.inl rfl⟩
  | n + 1, h => if g : V ≤ n ^ k then root_ex n g else ⟨n + 1, h, Or.inr (by rw [Nat.add_sub_cancel]; omega)⟩
theorem sq2 (x r : Nat) : 2 * (x * r) ≤ x * x + r * r := by
  rcases Nat.le_total x r with h | h
  · obtain ⟨d, rfl⟩ := Nat.exists_eq_add_of_le h
    have e1 : (x + d) * (x + d) = x * x + x * d + (x * d + d * d) := by rw [Nat.add_mul, Nat.mul_add, Nat.mul_add, Nat.mul_comm d x]
    have e2 : x * (x + d) = x * x + x * d := Nat.mul_add ..
    omega
  · obtain ⟨d, rfl⟩ := Nat.exists_eq_add_of_le h
    have e1 : (r + d) * (r + d) = r * r + r * d + (r * d + d * d) := by rw [Nat.add_mul, Nat.mul_add, Nat.mul_add, Nat.mul_comm d r]
    have e2 : (r + d) * r = r * r + r * d := by rw [Nat.add_mul, Nat.mul_comm d r]
    omega
/-- the means -/
theorem am_m (x r : Nat) : ∀ m : Nat, (m + 1) * x ^ m * r ≤ m * x ^ (m + 1) + r ^ (m + 1)
  | 0 => by
    rw [Nat.pow_zero, Nat.zero_mul, Nat.pow_one]
    omega
  | m + 1 => by
    have ih := Nat.mul_le_mul_right r (am_m x r m)
    have s := Nat.mul_le_mul_left ((m + 1) * x ^ m) (sq2 x r)
    have e1 : (m * x ^ (m + 1) + r ^ (m + 1)) * r = m * (x ^ (m + 1) * r) + r ^ (m + 1 + 1) := by rw [Nat.add_mul, Nat.mul_assoc, ← Nat.pow_succ]
    have e2 : (m + 1) * x ^ m * (x * x + r * r) = (m + 1) * x ^ (m + 1 + 1) + (m + 1) * x ^ m * r * r := by
      rw [Nat.mul_add, Nat.pow_succ, Nat.pow_succ, ← Nat.mul_assoc ((m + 1) * x ^ m) r r]
      congr 1
      rw [Nat.mul_assoc, Nat.mul_assoc]
    have e3 : (m + 1) * x ^ m * (2 * (x * r)) = 2 * ((m + 1) * (x ^ (m + 1) * r)) := by
      rw [Nat.mul_left_comm, Nat.pow_succ, Nat.mul_assoc (m + 1), Nat.mul_assoc (x ^ m)]
    rw [e1] at ih
    rw [e2, e3] at s
    have e4 : (m + 1 + 1) * x ^ (m + 1) * r = (m + 1 + 1) * (x ^ (m + 1) * r) := Nat.mul_assoc ..
    rw [e4]
    generalize x ^ (m + 1) * r = u at *
    generalize (m + 1) * x ^ m * r * r = w at *
    generalize (m + 1) * x ^ (m + 1 + 1) = y at *
    generalize r ^ (m + 1 + 1) = v at *
    have e5 : (m + 1) * u = m * u + u := Nat.succ_mul ..
    have e6 : (m + 1 + 1) * u = m * u + u + u := by rw [Nat.succ_mul, Nat.succ_mul]
    omega
/-- a power's growth -/
theorem gr_m (x d : Nat) : ∀ m : Nat, (x + d) ^ (m + 1) ≤ x ^ (m + 1) + (m + 1) * d * (x + d) ^ m
  | 0 => by
    rw [Nat.pow_one, Nat.pow_one, Nat.pow_zero]
    omega
  | m + 1 => by
    have ih := Nat.mul_le_mul_right (x + d) (gr_m x d m)
    rw [← Nat.pow_succ, Nat.add_mul, Nat.mul_assoc ((m + 1) * d), ← Nat.pow_succ, Nat.mul_add, ← Nat.pow_succ] at ih
    simp only [Nat.succ_eq_add_one] at ih
    have h : x ^ (m + 1) * d ≤ (x + d) ^ (m + 1) * d := Nat.mul_le_mul_right _ (Nat.pow_le_pow_left (by omega) _)
    have e1 : (m + 1 + 1) * d * (x + d) ^ (m + 1) = (m + 1) * d * (x + d) ^ (m + 1) + (x + d) ^ (m + 1) * d := by rw [Nat.succ_mul (m + 1), Nat.add_mul, Nat.mul_comm d]
    rw [e1]
    omega
/-- a greater guess gives a greater one -/
theorem mono_m {m x y v : Nat} (h : x ≤ y) (hv : v ≤ x ^ (m + 1)) : (m * x ^ (m + 1) + v) * y ^ m ≤ (m * y ^ (m + 1) + v) * x ^ m := by
  obtain ⟨d, rfl⟩ := Nat.exists_eq_add_of_le h
  cases m with
  | zero =>
    rw [Nat.pow_zero, Nat.pow_zero, Nat.zero_mul, Nat.zero_mul]
    omega
  | succ m =>
    have g := Nat.mul_le_mul_left v (gr_m x d m)
    rw [Nat.mul_add] at g
    have g2 : v * ((m + 1) * d * (x + d) ^ m) ≤ (m + 1) * d * (x ^ (m + 1) * (x + d) ^ (m + 1)) := by
      have w1 : v * ((m + 1) * d * (x + d) ^ m) ≤ x ^ (m + 1 + 1) * ((m + 1) * d * (x + d) ^ m) := Nat.mul_le_mul_right _ hv
      refine Nat.le_trans w1 ?_
      rw [Nat.mul_left_comm]
      refine Nat.mul_le_mul_left _ ?_
      rw [Nat.pow_succ x (m + 1), Nat.mul_assoc]
      refine Nat.mul_le_mul_left _ ?_
      rw [Nat.pow_succ, Nat.mul_comm]
      exact Nat.mul_le_mul_left _ (by omega)
    have e1 : ((m + 1) * x ^ (m + 1 + 1) + v) * (x + d) ^ (m + 1) = (m + 1) * (x ^ (m + 1) * (x + d) ^ (m + 1) * x) + v * (x + d) ^ (m + 1) := by
      rw [Nat.add_mul, Nat.pow_succ x (m + 1), Nat.mul_assoc (m + 1), Nat.mul_right_comm (x ^ (m + 1))]
    have e2 : ((m + 1) * (x + d) ^ (m + 1 + 1) + v) * x ^ (m + 1) = (m + 1) * (x ^ (m + 1) * (x + d) ^ (m + 1) * x) + (m + 1) * d * (x ^ (m + 1) * (x + d) ^ (m + 1)) + v * x ^ (m + 1) := by
      have e3 : (x + d) ^ (m + 1 + 1) * x ^ (m + 1) = x ^ (m + 1) * (x + d) ^ (m + 1) * x + d * (x ^ (m + 1) * (x + d) ^ (m + 1)) := by
        rw [Nat.pow_succ (x + d) (m + 1), Nat.mul_right_comm, Nat.mul_comm ((x + d) ^ (m + 1)) (x ^ (m + 1)), Nat.mul_add, Nat.mul_comm _ d]
      rw [Nat.add_mul, Nat.mul_assoc (m + 1), e3, Nat.mul_add, Nat.mul_assoc (m + 1) d]
    rw [e1, e2]
    omega
/-- a step from above -/
theorem st_U {m X Y V R D N N' : Nat} (hX : 0 < X) (hN : 0 < N) (hs : 9007199254740992 * ((m + 1) * Y * X ^ m) ≤ (9007199254740992 + 14) * (m * X ^ (m + 1) + V)) (hv : V ≤ X ^ (m + 1)) (hR : V ≤ R ^ (m + 1)) (h : X * D ≤ R * N) (hc : (9007199254740992 + 14) * (m * N ^ (m + 1) + D ^ (m + 1)) ≤ 9007199254740992 * (m + 1) * N ^ m * N') (hR0 : 0 < R) (hD : 0 < D) : Y * D ≤ R * N' := by
  have hx0 : 0 < (X * D) ^ m := Nat.pow_pos (Nat.mul_pos hX hD)
  have hn0 : 0 < N ^ m := Nat.pow_pos hN
  have hr0 : 0 < R ^ m := Nat.pow_pos hR0
  have a1 : V * D ^ (m + 1) ≤ (X * D) ^ (m + 1) := by
    rw [Nat.mul_pow]
    exact Nat.mul_le_mul_right _ hv
  have a2 : V * D ^ (m + 1) ≤ (R * D) ^ (m + 1) := by
    rw [Nat.mul_pow]
    exact Nat.mul_le_mul_right _ hR
  have a3 := mono_m h a1
  -- scaled
  have a4 : 9007199254740992 * ((m + 1) * (Y * D) * (X * D) ^ m) ≤ (9007199254740992 + 14) * (m * (X * D) ^ (m + 1) + V * D ^ (m + 1)) := by
    have w := Nat.mul_le_mul_right (D ^ (m + 1)) hs
    have e1 : 9007199254740992 * ((m + 1) * Y * X ^ m) * D ^ (m + 1) = 9007199254740992 * ((m + 1) * (Y * D) * (X * D) ^ m) := by
      rw [Nat.mul_pow, Nat.pow_succ]
      simp only [Nat.mul_assoc, Nat.mul_left_comm, Nat.mul_comm]
    have e2 : (9007199254740992 + 14) * (m * X ^ (m + 1) + V) * D ^ (m + 1) = (9007199254740992 + 14) * (m * (X * D) ^ (m + 1) + V * D ^ (m + 1)) := by
      rw [Nat.mul_pow, Nat.mul_assoc, Nat.add_mul (m * X ^ (m + 1)) V, Nat.mul_assoc m]
    rw [e1, e2] at w
    exact w
  generalize V * D ^ (m + 1) = v at *
  generalize X * D = x at *
  generalize Y * D = y at *
  have a5 : (m * x ^ (m + 1) + v) * (R ^ m * N ^ m) ≤ R ^ m * (R * (m * N ^ (m + 1) + D ^ (m + 1))) * x ^ m := by
    rw [← Nat.mul_pow]
    refine Nat.le_trans a3 (Nat.mul_le_mul_right _ ?_)
    have e1 : R ^ m * (R * (m * N ^ (m + 1) + D ^ (m + 1))) = m * (R * N) ^ (m + 1) + (R * D) ^ (m + 1) := by
      rw [← Nat.mul_assoc, ← Nat.pow_succ, Nat.mul_add, Nat.mul_left_comm, Nat.mul_pow, Nat.mul_pow]
    rw [e1]
    omega
  have a6 : (m * x ^ (m + 1) + v) * N ^ m ≤ R * (m * N ^ (m + 1) + D ^ (m + 1)) * x ^ m := by
    refine Nat.le_of_mul_le_mul_left ?_ hr0
    have e1 : R ^ m * ((m * x ^ (m + 1) + v) * N ^ m) = (m * x ^ (m + 1) + v) * (R ^ m * N ^ m) := Nat.mul_left_comm ..
    rw [e1, ← Nat.mul_assoc (R ^ m)]
    exact a5
  generalize m * x ^ (m + 1) + v = s at *
  have a7 := Nat.mul_le_mul_right (N ^ m) a4
  have a8 := Nat.mul_le_mul_left (9007199254740992 + 14) a6
  have a9 := Nat.mul_le_mul_left R (Nat.mul_le_mul_right (x ^ m) hc)
  refine Nat.le_of_mul_le_mul_left (c := 9007199254740992 * (m + 1) * N ^ m * x ^ m) ?_ (Nat.mul_pos (Nat.mul_pos (by omega) hn0) hx0)
  generalize m * N ^ (m + 1) + D ^ (m + 1) = t at *
  have e1 : 9007199254740992 * (m + 1) * N ^ m * x ^ m * y = 9007199254740992 * ((m + 1) * y * x ^ m) * N ^ m := by
    simp only [Nat.mul_assoc, Nat.mul_left_comm, Nat.mul_comm]
  have e2 : 9007199254740992 * (m + 1) * N ^ m * x ^ m * (R * N') = R * (9007199254740992 * (m + 1) * N ^ m * N' * x ^ m) := by
    simp only [Nat.mul_assoc, Nat.mul_left_comm, Nat.mul_comm]
  have e3 : (9007199254740992 + 14) * (R * t * x ^ m) = R * ((9007199254740992 + 14) * t * x ^ m) := by
    simp only [Nat.mul_assoc, Nat.mul_left_comm, Nat.mul_comm]
  have e4 : (9007199254740992 + 14) * s * N ^ m = (9007199254740992 + 14) * (s * N ^ m) := Nat.mul_assoc ..
  rw [e1, e2]
  rw [e4] at a7
  rw [e3] at a8
  exact Nat.le_trans a7 (Nat.le_trans a8 a9)
/-- a step from below -/
theorem st_B {m X Y V R D N' : Nat} (hX : 0 < X) (hs : 9007199254740992 * ((m + 1) * Y * X ^ m) ≤ (9007199254740992 + 14) * (m * X ^ (m + 1) + V)) (hR : V ≤ R ^ (m + 1)) (h : 9007199254740992 * R ≤ (9007199254740992 + 15) * X) (hXR : X ≤ R) (hc : (9007199254740992 + 14) * (m * 9007199254740992 ^ (m + 1) + (9007199254740992 + 15) ^ (m + 1)) * D ≤ 9007199254740992 * (m + 1) * 9007199254740992 ^ (m + 1) * N') : Y * D ≤ R * N' := by
  have a1 : 9007199254740992 ^ (m + 1) * V ≤ (9007199254740992 + 15) ^ (m + 1) * X ^ (m + 1) := by
    rw [← Nat.mul_pow]
    refine Nat.le_trans (Nat.mul_le_mul_left _ hR) ?_
    rw [← Nat.mul_pow]
    exact Nat.pow_le_pow_left h _
  have fp : 0 < 9007199254740992 ^ (m + 1) := Nat.pow_pos (by decide)
  have xp : 0 < X ^ m := Nat.pow_pos hX
  generalize 9007199254740992 ^ (m + 1) = f at *
  generalize (9007199254740992 + 15) ^ (m + 1) = g at *
  have a2 : f * (m * X ^ (m + 1) + V) ≤ (m * f + g) * X ^ (m + 1) := by
    rw [Nat.mul_add, Nat.add_mul, ← Nat.mul_assoc, Nat.mul_comm f m]
    omega
  have a3 := Nat.mul_le_mul_left f hs
  have a4 := Nat.mul_le_mul_left (9007199254740992 + 14) a2
  have a5 : 9007199254740992 * (m + 1) * f * Y ≤ (9007199254740992 + 14) * (m * f + g) * R := by
    refine Nat.le_trans ?_ (Nat.mul_le_mul_left _ hXR)
    refine Nat.le_of_mul_le_mul_left (c := X ^ m) ?_ xp
    have e1 : X ^ m * (9007199254740992 * (m + 1) * f * Y) = f * (9007199254740992 * ((m + 1) * Y * X ^ m)) := by
      simp only [Nat.mul_assoc, Nat.mul_left_comm, Nat.mul_comm]
    have e2 : X ^ m * ((9007199254740992 + 14) * (m * f + g) * X) = (9007199254740992 + 14) * ((m * f + g) * X ^ (m + 1)) := by
      rw [Nat.pow_succ]
      simp only [Nat.mul_assoc, Nat.mul_left_comm, Nat.mul_comm]
    have e3 : f * ((9007199254740992 + 14) * (m * X ^ (m + 1) + V)) = (9007199254740992 + 14) * (f * (m * X ^ (m + 1) + V)) := Nat.mul_left_comm ..
    rw [e1, e2]
    rw [e3] at a3
    exact Nat.le_trans a3 a4
  refine Nat.le_of_mul_le_mul_left (c := 9007199254740992 * (m + 1) * f) ?_ (Nat.mul_pos (by omega) fp)
  have a6 := Nat.mul_le_mul_right D a5
  have a7 := Nat.mul_le_mul_right R hc
  have e1 : 9007199254740992 * (m + 1) * f * (Y * D) = 9007199254740992 * (m + 1) * f * Y * D := (Nat.mul_assoc ..).symm
  have e2 : (9007199254740992 + 14) * (m * f + g) * R * D = (9007199254740992 + 14) * (m * f + g) * D * R := Nat.mul_right_comm ..
  have e3 : 9007199254740992 * (m + 1) * f * (R * N') = 9007199254740992 * (m + 1) * f * N' * R := by rw [Nat.mul_comm R, ← Nat.mul_assoc]
  rw [e1, e3]
  rw [e2] at a6
  exact Nat.le_trans a6 a7
/-- a step's least -/
theorem st_L {m X Y V R : Nat} (hX : 0 < X) (hs : 9007199254740992 * (m * X ^ (m + 1) + V) ≤ (9007199254740992 + 14) * ((m + 1) * Y * X ^ m)) (hR : (R - 1) ^ (m + 1) ≤ V) (h0 : 9007199254741100 ≤ R) : 9007199254740992 * R ≤ (9007199254740992 + 15) * Y := by
  have a1 := am_m X (R - 1) m
  have xp : 0 < X ^ m := Nat.pow_pos hX
  have a2 : 9007199254740992 * (R - 1) ≤ (9007199254740992 + 14) * Y := by
    refine Nat.le_of_mul_le_mul_left (c := (m + 1) * X ^ m) ?_ (Nat.mul_pos (by omega) xp)
    have e1 : (m + 1) * X ^ m * (9007199254740992 * (R - 1)) = 9007199254740992 * ((m + 1) * X ^ m * (R - 1)) := Nat.mul_left_comm ..
    have e2 : (m + 1) * X ^ m * ((9007199254740992 + 14) * Y) = (9007199254740992 + 14) * ((m + 1) * Y * X ^ m) := by
      rw [Nat.mul_left_comm, Nat.mul_right_comm (m + 1) Y]
    rw [e1, e2]
    refine Nat.le_trans (Nat.mul_le_mul_left _ (Nat.le_trans a1 ?_)) hs
    omega
  omega
end NEWT
