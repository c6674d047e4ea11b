/-! DOUBLES by their values: a step of Newton. -/
section DBLN
theorem pm_ge {a b c X Y : Nat} (h1 : 2 ^ a ≤ X) (h2 : 2 ^ b ≤ Y) (h : c ≤ a + b) : 2 ^ c ≤ X * Y := by
  refine Nat.le_trans (pw_le2.mpr h) ?_
  rw [Nat.pow_add]
  exact Nat.mul_le_mul h1 h2
theorem pm_lt {a b c X Y : Nat} (h1 : X < 2 ^ a) (h2 : Y < 2 ^ b) (h : a + b ≤ c) : X * Y < 2 ^ c := by
  refine Nat.lt_of_lt_of_le ?_ (pw_le2.mpr h)
  rw [Nat.pow_add]
  exact Nat.lt_of_le_of_lt (Nat.mul_le_mul_right _ (Nat.le_of_lt h1)) (Nat.mul_lt_mul_of_pos_left h2 (two_pos _))
theorem nr_ge {k a A B : Nat} (h : nr k A B) (hk : k ≤ 1000000) (h1 : 2 ^ (a + 1) ≤ B) : 2 ^ a ≤ A := by
  have h2 := h.2
  have h3 : (9007199254740992 + k) * A ≤ 2 * 9007199254740992 * A := Nat.mul_le_mul_right _ (by omega)
  rw [Nat.pow_succ] at h1
  generalize 2 ^ a = t at *
  omega
theorem nr_lt {k a A B : Nat} (h : nr k A B) (hk : k ≤ 1000000) (h1 : B < 2 ^ a) : A < 2 ^ (a + 1) := by
  have h2 := h.1
  have h3 : (9007199254740992 + k) * B ≤ 2 * 9007199254740992 * B := Nat.mul_le_mul_right _ (by omega)
  rw [Nat.pow_succ]
  generalize 2 ^ a = t at *
  omega
theorem pd_ge {a P : Nat} (h : 2 ^ (a + 400) ≤ P * TW) : 2 ^ a ≤ P := by
  rw [TW_def, Nat.pow_add] at h
  exact Nat.le_of_mul_le_mul_right h (two_pos _)
theorem pd_lt {a P : Nat} (h : P * TW < 2 ^ (a + 400)) : P < 2 ^ a := by
  rw [TW_def, Nat.pow_add] at h
  exact Nat.lt_of_mul_lt_mul_right h
theorem nr_add {k A B C D : Nat} (h : nr k A B) (g : nr k C D) : nr k (A + C) (B + D) := by
  unfold nr at *
  rw [Nat.mul_add, Nat.mul_add, Nat.mul_add, Nat.mul_add]
  omega
theorem nr_0 {k A : Nat} : nr k A A := by
  have m1 : 9007199254740992 * A ≤ (9007199254740992 + k) * A := Nat.mul_le_mul_right _ (by omega)
  exact ⟨m1, m1⟩
theorem i2dV : ∀ k : Nat, 1 ≤ k ∧ k ≤ 4 → NV (FP.i2d (Int32.ofNat k)) (k * TW) := by
  intro k hk
  rw [TW_def]
  rcases (show k = 1 ∨ k = 2 ∨ k = 3 ∨ k = 4 by omega) with rfl | rfl | rfl | rfl
  · exact ⟨4503599627370496, -52, by decide +kernel, by decide, by decide, by decide +kernel⟩
  · exact ⟨4503599627370496, -51, by decide +kernel, by decide, by decide, by decide +kernel⟩
  · exact ⟨6755399441055744, -51, by decide +kernel, by decide, by decide, by decide +kernel⟩
  · exact ⟨4503599627370496, -50, by decide +kernel, by decide, by decide, by decide +kernel⟩
/-- a power -/
theorem pwV {k : Nat} {g : UInt64} {X : Nat} (hk : 2 ≤ k ∧ k ≤ 4) (hx : NV g X) (h1 : 2 ^ 382 ≤ X) (h2 : X < 2 ^ 422) : ∃ P : Nat, NV (pwN g (k - 2) g) P ∧ nr 5 (P * TW ^ (k - 2)) (X ^ (k - 1)) ∧ 2 ^ 344 ≤ P ∧ P < 2 ^ 470 := by
  rcases (show k = 2 ∨ k = 3 ∨ k = 4 by omega) with rfl | rfl | rfl
  · refine ⟨X, hx, ?_, Nat.le_trans (pw_le2.mpr (by decide)) h1, Nat.lt_trans h2 (pw_lt2.mpr (by decide))⟩
    rw [show 2 - 2 = 0 by rfl, show 2 - 1 = 1 by rfl, Nat.pow_zero, Nat.mul_one, Nat.pow_one]
    exact nr_0
  · obtain ⟨P, a1, a2⟩ := mulV hx hx (pm_ge h1 h1 (by decide)) (pm_lt h2 h2 (by decide))
    refine ⟨P, a1, ?_, Nat.le_trans (pw_le2.mpr (by decide)) (pd_ge (a := 363) (nr_ge a2 (by decide) (pm_ge h1 h1 (by decide)))), Nat.lt_trans (pd_lt (a := 445) (nr_lt a2 (by decide) (pm_lt h2 h2 (by decide)))) (pw_lt2.mpr (by decide))⟩
    rw [show 3 - 2 = 1 by rfl, show 3 - 1 = 2 by rfl, Nat.pow_one, Nat.pow_two]
    exact nr_w (by decide) a2
  · obtain ⟨P, a1, a2⟩ := mulV hx hx (pm_ge h1 h1 (by decide)) (pm_lt h2 h2 (by decide))
    have p1 : 2 ^ 363 ≤ P := pd_ge (nr_ge a2 (by decide) (pm_ge h1 h1 (by decide)))
    have p2 : P < 2 ^ 445 := pd_lt (nr_lt a2 (by decide) (pm_lt h2 h2 (by decide)))
    obtain ⟨P2, b1, b2⟩ := mulV a1 hx (pm_ge p1 h1 (by decide)) (pm_lt p2 h2 (by decide))
    have q1 : 2 ^ 344 ≤ P2 := pd_ge (nr_ge b2 (by decide) (pm_ge p1 h1 (by decide)))
    have q2 : P2 < 2 ^ 468 := pd_lt (nr_lt b2 (by decide) (pm_lt p2 h2 (by decide)))
    refine ⟨P2, b1, ?_, q1, Nat.lt_trans q2 (pw_lt2.mpr (by decide))⟩
    rw [show 4 - 2 = 2 by rfl, show 4 - 1 = 3 by rfl, Nat.pow_two, Nat.pow_succ, Nat.pow_two]
    have n1 := nr_mul TW b2
    have n2 := nr_mul X a2
    rw [Nat.mul_right_comm] at n2
    rw [Nat.mul_assoc] at n1
    exact nr_tr (by decide) n1 n2
theorem nr_comm {k A B C D : Nat} (h : nr k A B) (h1 : A = C) (h2 : B = D) : nr k C D := by
  rw [← h1, ← h2]
  exact h
/-- a step -/
theorem newtV {k : Nat} {z g : UInt64} {Z X : Nat} (hk : 2 ≤ k ∧ k ≤ 4) (hz : NV z Z) (z1 : 2 ^ 365 ≤ Z) (z2 : Z < 2 ^ 441) (hx : NV g X) (x1 : 2 ^ 382 ≤ X) (x2 : X < 2 ^ 422) : ∃ Y : Nat, NV (nw (FP.i2d (Int32.ofNat (k - 1))) (FP.i2d (Int32.ofNat k)) z (k - 2) g) Y ∧ nr 14 (k * Y * X ^ (k - 1)) ((k - 1) * X ^ k + Z * TW ^ (k - 1)) := by
  have hm := i2dV (k - 1) (by omega)
  have hn := i2dV k (by omega)
  have T0 : 2 ^ 400 ≤ TW := Nat.le_of_eq TW_def.symm
  have m1 : 2 ^ 382 ≤ (k - 1) * X := Nat.le_trans x1 (by have := Nat.mul_le_mul_right X (show 1 ≤ k - 1 by omega); omega)
  have m2 : (k - 1) * X < 2 ^ 424 := by
    have w1 : (k - 1) * X ≤ 3 * X := Nat.mul_le_mul_right X (by omega)
    have w2 : 3 * X < 2 ^ 2 * 2 ^ 422 := by omega
    rw [← Nat.pow_add] at w2
    exact Nat.lt_of_le_of_lt w1 w2
  have eA : (k - 1) * TW * X = (k - 1) * X * TW := Nat.mul_right_comm ..
  have m3 : (k - 1) * X * TW < 2 ^ 1000 := pm_lt m2 (show TW < 2 ^ 401 by rw [TW_def, pw_lt2]; decide) (by decide)
  obtain ⟨A, a1, a2⟩ := mulV hm hx (by rw [eA]; exact pm_ge m1 T0 (by decide)) (by rw [eA]; exact m3)
  rw [eA] at a2
  have a3 := nr_can TW_pos a2
  have a4 : 2 ^ 381 ≤ A := nr_ge a3 (by decide) m1
  have a5 : A < 2 ^ 425 := nr_lt a3 (by decide) m2
  obtain ⟨P, p1, p2, p3, p4⟩ := pwV hk hx x1 x2
  obtain ⟨Q, q1, q2⟩ := divV hz p1 (Nat.le_trans (Nat.le_of_lt p4) (pm_ge z1 (Nat.le_refl (2 ^ 150)) (by decide))) (Nat.le_trans (Nat.le_of_lt z2) (pm_ge p3 (Nat.le_refl (2 ^ 100)) (by decide)))
  have q3 : Q * P < 2 ^ 842 := nr_lt q2 (by decide) (by
    rw [TW_def, show 841 = 441 + 400 by rfl, Nat.pow_add]
    exact Nat.mul_lt_mul_of_pos_right z2 (two_pos _))
  have q4 : Q < 2 ^ 498 := by
    have w1 : Q * 2 ^ 344 < 2 ^ 498 * 2 ^ 344 := by
      rw [← Nat.pow_add]
      exact Nat.lt_of_le_of_lt (Nat.mul_le_mul_left Q p3) q3
    exact Nat.lt_of_mul_lt_mul_right w1
  have s1 : 2 ^ 381 ≤ A + Q := Nat.le_trans a4 (Nat.le_add_right _ _)
  have s2 : A + Q < 2 ^ 499 := by
    have w1 : 2 ^ 425 ≤ 2 ^ 498 := pw_le2.mpr (by decide)
    rw [show 499 = 498 + 1 by rfl, Nat.pow_succ]
    generalize 2 ^ 498 = t at *
    omega
  obtain ⟨S, s3, s4⟩ := addV (NZ_V a1) (NZ_V q1) (Nat.le_trans (pw_le2.mpr (by decide)) s1) (Nat.lt_trans s2 (pw_lt2.mpr (by decide)))
  have s5 : 2 ^ 380 ≤ S := nr_ge s4 (by decide) s1
  have s6 : S < 2 ^ 500 := nr_lt s4 (by decide) s2
  have k1 : TW ≤ k * TW := by have := Nat.mul_le_mul_right TW (show 1 ≤ k by omega); omega
  have k2 : k * TW < 2 ^ 404 := pm_lt (show k < 2 ^ 3 by omega) (show TW < 2 ^ 401 by rw [TW_def, pw_lt2]; decide) (by decide)
  obtain ⟨Y, y1, y2⟩ := divV s3 hn (Nat.le_trans (Nat.le_of_lt k2) (pm_ge s5 (Nat.le_refl (2 ^ 150)) (by decide))) (Nat.le_trans (Nat.le_of_lt s6) (pm_ge (Nat.le_trans T0 k1) (Nat.le_refl (2 ^ 100)) (by decide)))
  refine ⟨Y, y1, ?_⟩
  have c1 : nr 2 (k * Y) S := nr_can TW_pos (nr_comm y2 (by rw [Nat.mul_left_comm, ← Nat.mul_assoc]) rfl)
  have c2 : nr 5 (k * Y * X ^ (k - 1)) ((A + Q) * X ^ (k - 1)) := nr_mul _ (nr_tr (by decide) c1 s4)
  have c3 : nr 2 (A * X ^ (k - 1)) ((k - 1) * X ^ k) := nr_comm (nr_mul (X ^ (k - 1)) a3) rfl (by
    rw [Nat.mul_assoc, Nat.mul_comm X, ← Nat.pow_succ, show (k - 1).succ = k by omega])
  have c4 : nr 5 (Q * X ^ (k - 1)) (Q * P * TW ^ (k - 2)) := nr_comm (nr_mul Q (nr_sym p2)) (Nat.mul_comm ..) (by rw [Nat.mul_right_comm, Nat.mul_comm P Q])
  have c5 : nr 2 (Q * P * TW ^ (k - 2)) (Z * TW ^ (k - 1)) := nr_comm (nr_mul (TW ^ (k - 2)) q2) rfl (by
    rw [Nat.mul_assoc, Nat.mul_comm TW, ← Nat.pow_succ, show (k - 2).succ = k - 1 by omega])
  have c6 : nr 8 (Q * X ^ (k - 1)) (Z * TW ^ (k - 1)) := nr_tr (by decide) c4 c5
  have c7 : nr 8 ((A + Q) * X ^ (k - 1)) ((k - 1) * X ^ k + Z * TW ^ (k - 1)) := by
    rw [Nat.add_mul]
    exact nr_add (nr_w (by decide) c3) c6
  exact nr_tr (by decide) c2 c7
end DBLN
