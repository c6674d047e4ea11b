/-! DOUBLES by their values: a guessed root is near. -/
section DBLG
theorem fin_U {z R Y T s : Nat} (hT : 10000000000 ≤ T) (hR : R ≤ 1048576 * T) (h1 : 9007199254740992 * Y ≤ (9007199254740992 + 33) * (R * 10000000000)) (h2 : z * T ≤ Y) (hs : s + 900 = z) : s * T * (9007199254740992 + 8) ≤ 9007199254740992 * ((R - 1) * 10000000000) := by
  subst hs
  rw [Nat.add_mul] at h2
  generalize s * T = A at *
  rcases Nat.eq_zero_or_pos R with h | h
  · subst h
    omega
  · omega
theorem fin_L {z R Y T : Nat} (hT : 10000000000 ≤ T) (hR : R ≤ 1048576 * T) (h1 : 9007199254740992 * (R * 10000000000) ≤ (9007199254740992 + 33) * Y) (h0 : 9007199254740992 * Y ≤ (9007199254740992 + 33) * (R * 10000000000)) (h2 : Y < z * T + T) : (9007199254740992 + 8) * 10000000000 * R < 9007199254740992 * ((z + 900) * T) := by
  rw [Nat.add_mul z 900 T]
  generalize z * T = A at *
  omega
/-- the root's guess, from above -/
theorem rt_U {k Z v R Y T z s : Nat} (hk : 1 ≤ k) (hT : 10000000000 ≤ T) (hR : R ≤ 1048576 * T) (h1 : 9007199254740992 * Y ≤ (9007199254740992 + 33) * (R * 10000000000)) (h2 : z * T ≤ Y) (hs : s + 900 = z) (hZ : 9007199254740992 * (Z * 10000000000) ≤ (9007199254740992 + 8) * (v * T)) (hV : (R - 1) ^ k ≤ Z * T ^ (k - 1)) : s ^ k ≤ v * 10000000000 ^ (k - 1) := by
  obtain ⟨m, rfl⟩ : ∃ m, k = m + 1 := ⟨k - 1, by omega⟩
  rw [Nat.add_sub_cancel] at *
  have a1 := Nat.pow_le_pow_left (fin_U hT hR h1 h2 hs) (m + 1)
  have T0 : 0 < T ^ (m + 1) := Nat.pow_pos (by omega)
  have F0 : 0 < (9007199254740992 + 8) ^ (m + 1) := Nat.pow_pos (by decide)
  rw [Nat.mul_pow, Nat.mul_pow, Nat.mul_pow, Nat.mul_pow] at a1
  have a2 : 9007199254740992 * 10000000000 * (R - 1) ^ (m + 1) ≤ (9007199254740992 + 8) * v * T ^ (m + 1) := by
    refine Nat.le_trans (Nat.mul_le_mul_left _ hV) ?_
    have w := Nat.mul_le_mul_right (T ^ m) hZ
    have e1 : 9007199254740992 * 10000000000 * (Z * T ^ m) = 9007199254740992 * (Z * 10000000000) * T ^ m := by
      rw [Nat.mul_assoc, Nat.mul_assoc, Nat.mul_assoc Z, Nat.mul_left_comm Z]
    have e2 : (9007199254740992 + 8) * v * T ^ (m + 1) = (9007199254740992 + 8) * (v * T) * T ^ m := by
      rw [Nat.pow_succ, Nat.mul_comm (T ^ m) T, ← Nat.mul_assoc, Nat.mul_assoc (9007199254740992 + 8) v T]
    rw [e1, e2]
    exact w
  have a3 := Nat.mul_le_mul_left (9007199254740992 ^ m * 10000000000 ^ m) a2
  have e1 : 9007199254740992 ^ m * 10000000000 ^ m * (9007199254740992 * 10000000000 * (R - 1) ^ (m + 1)) = 9007199254740992 ^ (m + 1) * ((R - 1) ^ (m + 1) * 10000000000 ^ (m + 1)) := by
    rw [Nat.pow_succ 9007199254740992, Nat.pow_succ 10000000000]
    generalize 9007199254740992 ^ m = f
    generalize 10000000000 ^ m = t
    generalize (R - 1) ^ (m + 1) = r
    simp only [Nat.mul_assoc, Nat.mul_left_comm, Nat.mul_comm]
  rw [e1] at a3
  have a4 : 9007199254740992 ^ m ≤ (9007199254740992 + 8) ^ m := Nat.pow_le_pow_left (by decide) m
  have a5 : 9007199254740992 ^ m * 10000000000 ^ m * ((9007199254740992 + 8) * v * T ^ (m + 1)) ≤ v * 10000000000 ^ m * T ^ (m + 1) * (9007199254740992 + 8) ^ (m + 1) := by
    have w := Nat.mul_le_mul_right (10000000000 ^ m * ((9007199254740992 + 8) * v * T ^ (m + 1))) a4
    rw [← Nat.mul_assoc] at w
    refine Nat.le_trans w (Nat.le_of_eq ?_)
    rw [Nat.pow_succ (9007199254740992 + 8)]
    generalize (9007199254740992 + 8) ^ m = f
    generalize 10000000000 ^ m = t
    generalize T ^ (m + 1) = u
    generalize (9007199254740992 + 8) = g
    simp only [Nat.mul_assoc, Nat.mul_left_comm, Nat.mul_comm]
  have a6 := Nat.le_trans a1 (Nat.le_trans a3 a5)
  have a7 := Nat.le_of_mul_le_mul_right a6 F0
  exact Nat.le_of_mul_le_mul_right a7 T0
/-- from below -/
theorem rt_L {k Z v R Y T z : Nat} (hk : 1 ≤ k) (hT : 10000000000 ≤ T) (hR : R ≤ 1048576 * T) (h1 : 9007199254740992 * (R * 10000000000) ≤ (9007199254740992 + 33) * Y) (h0 : 9007199254740992 * Y ≤ (9007199254740992 + 33) * (R * 10000000000)) (h2 : Y < z * T + T) (hZ : 9007199254740992 * (v * T) ≤ (9007199254740992 + 8) * (Z * 10000000000)) (hV : Z * T ^ (k - 1) ≤ R ^ k) : v * 10000000000 ^ (k - 1) < (z + 900) ^ k := by
  obtain ⟨m, rfl⟩ : ∃ m, k = m + 1 := ⟨k - 1, by omega⟩
  rw [Nat.add_sub_cancel] at *
  have a1 : ((9007199254740992 + 8) * 10000000000 * R) ^ (m + 1) < (9007199254740992 * ((z + 900) * T)) ^ (m + 1) := Nat.pow_lt_pow_left (fin_L hT hR h1 h0 h2) (by omega)
  have T0 : 0 < T ^ (m + 1) := Nat.pow_pos (by omega)
  have F0 : 0 < 9007199254740992 ^ (m + 1) := Nat.pow_pos (by decide)
  rw [Nat.mul_pow, Nat.mul_pow, Nat.mul_pow, Nat.mul_pow] at a1
  have a2 : 9007199254740992 * v * T ^ (m + 1) ≤ (9007199254740992 + 8) * 10000000000 * R ^ (m + 1) := by
    refine Nat.le_trans ?_ (Nat.mul_le_mul_left _ hV)
    have w := Nat.mul_le_mul_right (T ^ m) hZ
    have e1 : (9007199254740992 + 8) * 10000000000 * (Z * T ^ m) = (9007199254740992 + 8) * (Z * 10000000000) * T ^ m := by
      rw [Nat.mul_assoc, Nat.mul_assoc, Nat.mul_assoc Z, Nat.mul_left_comm Z]
    have e2 : 9007199254740992 * v * T ^ (m + 1) = 9007199254740992 * (v * T) * T ^ m := by
      rw [Nat.pow_succ, Nat.mul_comm (T ^ m) T, ← Nat.mul_assoc, Nat.mul_assoc 9007199254740992 v T]
    rw [e1, e2]
    exact w
  have a3 := Nat.mul_le_mul_left (9007199254740992 ^ m * 10000000000 ^ m) a2
  have a4 : 9007199254740992 ^ m ≤ (9007199254740992 + 8) ^ m := Nat.pow_le_pow_left (by decide) m
  have a5 : 9007199254740992 ^ m * 10000000000 ^ m * ((9007199254740992 + 8) * 10000000000 * R ^ (m + 1)) ≤ (9007199254740992 + 8) ^ (m + 1) * 10000000000 ^ (m + 1) * R ^ (m + 1) := by
    have w := Nat.mul_le_mul_right (10000000000 ^ m * ((9007199254740992 + 8) * 10000000000 * R ^ (m + 1))) a4
    rw [← Nat.mul_assoc] at w
    refine Nat.le_trans w (Nat.le_of_eq ?_)
    rw [Nat.pow_succ (9007199254740992 + 8), Nat.pow_succ 10000000000]
    generalize (9007199254740992 + 8) ^ m = f
    generalize 10000000000 ^ m = t
    generalize R ^ (m + 1) = u
    generalize (9007199254740992 + 8) = g
    simp only [Nat.mul_assoc, Nat.mul_left_comm, Nat.mul_comm]
  have e1 : 9007199254740992 ^ m * 10000000000 ^ m * (9007199254740992 * v * T ^ (m + 1)) = 9007199254740992 ^ (m + 1) * (v * 10000000000 ^ m * T ^ (m + 1)) := by
    rw [Nat.pow_succ 9007199254740992]
    generalize 9007199254740992 ^ m = f
    generalize 10000000000 ^ m = t
    generalize T ^ (m + 1) = u
    simp only [Nat.mul_assoc, Nat.mul_left_comm, Nat.mul_comm]
  rw [e1] at a3
  have a6 := Nat.lt_of_le_of_lt (Nat.le_trans a3 a5) a1
  have a7 := Nat.lt_of_mul_lt_mul_left a6
  exact Nat.lt_of_mul_lt_mul_right a7
/-- a guess's value -/
theorem gvV {k a b : Nat} {w p : Int64} (hk : 2 ≤ k ∧ k ≤ 4) (hw : w.toInt = (a : Int)) (hp : p.toInt = (b : Int)) (ha : a < 1000000000000) (hb : b < 10000000000) (h0 : 0 < a * 10000000000 + b) : ∃ z : Nat, (gval k w p).toInt = (z : Int) ∧ z ≤ 100000000000000000 ∧ (z ≤ 900 ∨ (z - 900) ^ k ≤ (a * 10000000000 + b) * 10000000000 ^ (k - 1)) ∧ (a * 10000000000 + b) * 10000000000 ^ (k - 1) < (z + 900) ^ k := by
  obtain ⟨Z, z1, z2⟩ := szV hw hp ha hb h0
  obtain ⟨z3', z4⟩ := szR z2 h0 (by omega)
  have z3 : 2 ^ 365 ≤ Z := Nat.le_trans (pw_le2.mpr (by decide)) z3'
  have z5 : Z < 2 ^ 441 := Nat.lt_trans z4 (pw_lt2.mpr (by decide))
  obtain ⟨j, j1, j2, j3, j4⟩ := gs0V hk z1 z3 z5
  obtain ⟨R, r1, r2⟩ := root_ex _ j3
  have Z0 : 0 < Z := Nat.lt_of_lt_of_le (two_pos _) z3
  have V0 : 0 < Z * TW ^ (k - 1) := Nat.mul_pos Z0 (Nat.pow_pos TW_pos)
  have R0 : R ≠ 0 := by
    intro h
    rw [h, Nat.zero_pow (by omega)] at r1
    omega
  have r3 : (R - 1) ^ k < Z * TW ^ (k - 1) := by
    rcases r2 with h | h
    · exact absurd h R0
    · exact h
  -- the root's size
  have eT : TW ^ (k - 1) = 2 ^ (400 * (k - 1)) := by rw [TW_def, ← Nat.pow_mul]
  have rU : R ≤ 2 ^ 420 := by
    rcases Nat.lt_or_ge (2 ^ 420) R with g | g
    · have w1 : (2 ^ 420) ^ k ≤ (R - 1) ^ k := Nat.pow_le_pow_left (by omega) k
      have w2 : Z * TW ^ (k - 1) < 2 ^ 440 * 2 ^ (400 * (k - 1)) := by
        rw [eT]
        exact Nat.mul_lt_mul_of_pos_right z4 (two_pos _)
      have w3 := Nat.lt_of_le_of_lt w1 (Nat.lt_trans r3 w2)
      rw [← Nat.pow_mul, ← Nat.pow_add, pw_lt2] at w3
      rcases (show k = 2 ∨ k = 3 ∨ k = 4 by omega) with rfl | rfl | rfl <;> omega
    · exact g
  have rL : 2 ^ 383 ≤ R := by
    rcases Nat.lt_or_ge R (2 ^ 383) with g | g
    · have w1 : R ^ k < (2 ^ 383) ^ k := Nat.pow_lt_pow_left g (by omega)
      have w2 : 2 ^ 366 * 2 ^ (400 * (k - 1)) ≤ Z * TW ^ (k - 1) := by
        rw [eT]
        exact Nat.mul_le_mul_right _ z3'
      have w3 := Nat.lt_of_le_of_lt (Nat.le_trans w2 r1) w1
      rw [← Nat.pow_mul, ← Nat.pow_add, pw_lt2] at w3
      rcases (show k = 2 ∨ k = 3 ∨ k = 4 by omega) with rfl | rfl | rfl <;> omega
    · exact g
  -- the first guess
  have x1 : R ≤ 2 ^ (j + 336) := by
    rcases Nat.lt_or_ge (2 ^ (j + 336)) R with g | g
    · have w := Nat.pow_le_pow_left (show 2 ^ (j + 336) ≤ R - 1 by omega) k
      omega
    · exact g
  have x2 : 2 ^ (j + 335) ≤ R := by
    rcases Nat.lt_or_ge R (2 ^ (j + 335)) with g | g
    · have w : R ^ k < (2 ^ (j + 335)) ^ k := Nat.pow_lt_pow_left g (by omega)
      omega
    · exact g
  have hI : NI R (2 * 9007199254740992) (2 ^ (j + 336)) := by
    have e : 2 ^ (j + 336) = 2 ^ (j + 335) * 2 := Nat.pow_succ ..
    unfold NI
    rw [e] at x1 ⊢
    generalize 2 ^ (j + 335) = t at *
    omega
  obtain ⟨m, rfl⟩ : ∃ m, k = m + 1 := ⟨k - 1, by omega⟩
  rw [Nat.add_sub_cancel] at *
  obtain ⟨l1, l2, l3⟩ := NL_ok ⟨m, by omega⟩ (by show 1 ≤ m; omega)
  obtain ⟨X, y1, y2⟩ := nwsV (m := m) (by omega) z1 z3 z5 r1 (Nat.le_of_lt r3) rL rU (NL m) (2 * 9007199254740992) _ _ l1 j2 hI (Nat.le_refl _)
  rw [l3] at y1
  rw [l2] at y2
  obtain ⟨y3, y4⟩ := y2
  have n1 : nr 30 X R := by
    unfold nr
    omega
  have X1 : 2 ^ 382 ≤ X := nr_ge n1 (by decide) rL
  have X2 : X < 2 ^ 422 := nr_lt n1 (by decide) (Nat.lt_of_le_of_lt rU (pw_lt2.mpr (by decide)))
  obtain ⟨t1, t2⟩ := TWb
  have hT : (2 : Nat) ^ 33 ≤ 10000000000 ∧ 10000000000 < 2 ^ 34 := by decide
  obtain ⟨Y, q1, q2⟩ := mulV y1 tenV (pm_ge X1 (pm_ge hT.1 t1 (Nat.le_refl _)) (by decide)) (pm_lt X2 (pm_lt hT.2 t2 (Nat.le_refl _)) (by decide))
  have n2 : nr 2 Y (X * 10000000000) := nr_can TW_pos (nr_comm q2 rfl (Nat.mul_assoc ..).symm)
  have n3 : nr 33 Y (R * 10000000000) := nr_tr (by decide) n2 (nr_mul 10000000000 n1)
  have eR : 2 ^ 420 = 1048576 * TW := by rw [TW_def, show 420 = 20 + 400 by rfl, Nat.pow_add]
  rw [eR] at rU
  have hT10 : 10000000000 ≤ TW := Nat.le_trans (Nat.le_of_lt (Nat.lt_of_lt_of_le hT.2 (pw_le2.mpr (by decide)))) t1
  obtain ⟨n4, n5⟩ := n3
  have zY : Y / TW * TW ≤ Y := Nat.div_mul_le_self ..
  have zY2 : Y < Y / TW * TW + TW := Nat.lt_div_mul_add TW_pos
  have zB : Y / TW ≤ 100000000000000000 := by
    refine Nat.le_of_lt_succ (Nat.div_lt_of_lt_mul ?_)
    generalize TW = t at *
    omega
  have hg : (gval (m + 1) w p).toInt = ((Y / TW : Nat) : Int) := d2lV q1 (by omega)
  refine ⟨Y / TW, hg, zB, ?_, rt_L (k := m + 1) (Nat.le_add_left 1 m) hT10 rU n5 n4 zY2 z2.2 (by rw [Nat.add_sub_cancel]; exact r1)⟩
  rcases Nat.le_total (Y / TW) 900 with g | g
  · exact Or.inl g
  · exact Or.inr (rt_U (k := m + 1) (Nat.le_add_left 1 m) hT10 rU n4 zY (by omega) z2.1 (by rw [Nat.add_sub_cancel]; exact Nat.le_of_lt r3))
theorem gv0 : ∀ k : Fin 5, 2 ≤ k.val → gval k.val 0 0 = 0 := by decide +kernel
theorem TT_T (j : Nat) : TT (10 * j) = ((10000000000 ^ j : Nat) : Int) := by
  induction j with
  | zero => exact TT_v.1
  | succ j ih =>
    rw [show 10 * (j + 1) = 10 * j + 10 by omega, TT_add, ih, TT_10, Nat.pow_succ]
    omega
theorem pwrK_n {k : Nat} (h : 1 ≤ k) : pwrK k = ((10000000000 ^ (k - 1) : Nat) : Int) := by
  unfold pwrK
  rw [if_neg (by omega)]
  exact TT_T _
end DBLG
