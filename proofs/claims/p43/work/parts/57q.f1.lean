/-! THE CURVES' NUMBERS: sums of odd powers. -/
def pwn (z : Int) : Nat → Int
  | 0 => z
  | i + 1 => tpv (pwn z i) (tpv z z)
def srn (alt : Bool) (z : Int) : Nat → Int
  | 0 => z
  | i + 1 => if alt = true ∧ i % 2 = 0 then srn alt z i - pwn z (i + 1) / ((2 * i + 3 : Nat) : Int) else srn alt z i + pwn z (i + 1) / ((2 * i + 3 : Nat) : Int)
theorem pwn_s (z : Int) (i : Nat) : pwn z (i + 1) = tpv (pwn z i) (tpv z z) := rfl
theorem srn_s (alt : Bool) (z : Int) (i : Nat) : srn alt z (i + 1) = if alt = true ∧ i % 2 = 0 then srn alt z i - pwn z (i + 1) / ((2 * i + 3 : Nat) : Int) else srn alt z i + pwn z (i + 1) / ((2 * i + 3 : Nat) : Int) := rfl
theorem zz_r {z : Int} (h : 0 ≤ z ∧ z ≤ 62500000000000000000000000000000000000000000000000000) : 0 ≤ tpv z z ∧ tpv z z ≤ 3906250000000000000000000000000000000000000000000000 := by
  have r := tpv_r h.1 h.1
  have r0 := tpv_nn h.1 h.1
  have p : z * z ≤ 62500000000000000000000000000000000000000000000000000 * 62500000000000000000000000000000000000000000000000000 := Int.mul_le_mul h.2 h.2 h.1 (by decide)
  generalize z * z = A at *
  omega
theorem pwn_r {z : Int} (h : 0 ≤ z ∧ z ≤ 62500000000000000000000000000000000000000000000000000) : ∀ i : Nat, 0 ≤ pwn z i ∧ pwn z i ≤ 62500000000000000000000000000000000000000000000000000 := by
  have s := zz_r h
  intro i
  induction i with
  | zero => exact h
  | succ i ih =>
    have r := tpv_r ih.1 s.1
    have r0 := tpv_nn ih.1 s.1
    have p : pwn z i * tpv z z ≤ pwn z i * 3906250000000000000000000000000000000000000000000000 := Int.mul_le_mul_of_nonneg_left s.2 ih.1
    rw [pwn_s]
    generalize pwn z i * tpv z z = A at *
    omega
theorem pwn_256 {z : Int} (h : 0 ≤ z ∧ z ≤ 62500000000000000000000000000000000000000000000000000) (i : Nat) : 256 * pwn z (i + 1) ≤ pwn z i := by
  have s := zz_r h
  have ih := pwn_r h i
  have r := tpv_r ih.1 s.1
  have r0 := tpv_nn ih.1 s.1
  have p : pwn z i * tpv z z ≤ pwn z i * 3906250000000000000000000000000000000000000000000000 := Int.mul_le_mul_of_nonneg_left s.2 ih.1
  rw [pwn_s]
  generalize pwn z i * tpv z z = A at *
  omega
theorem zz_lo {z z' : Int} (h : 0 ≤ z ∧ z ≤ z') : tpv z z ≤ tpv z' z' + 5 := by
  have r1 := tpv_r h.1 h.1
  have r2 := tpv_r (show 0 ≤ z' by omega) (show 0 ≤ z' by omega)
  have p : z * z ≤ z' * z' := Int.mul_le_mul h.2 h.2 h.1 (by omega)
  generalize z * z = A at *
  generalize z' * z' = B at *
  omega
theorem pwn_lo {z z' : Int} (h : 0 ≤ z ∧ z ≤ z' ∧ z' ≤ 62500000000000000000000000000000000000000000000000000) : ∀ i : Nat, pwn z i ≤ pwn z' i + 6 := by
  have s1 := zz_r (z := z) ⟨h.1, by omega⟩
  have s2 := zz_r (z := z') ⟨by omega, h.2.2⟩
  have sl := zz_lo (z := z) (z' := z') ⟨h.1, h.2.1⟩
  intro i
  induction i with
  | zero => show z ≤ z' + 6; omega
  | succ i ih =>
    have a1 := pwn_r (z := z) ⟨h.1, by omega⟩ i
    have a2 := pwn_r (z := z') ⟨by omega, h.2.2⟩ i
    have r1 := tpv_r a1.1 s1.1
    have r2 := tpv_r a2.1 s2.1
    have p : pwn z i * tpv z z ≤ (pwn z' i + 6) * (tpv z' z' + 5) := Int.mul_le_mul ih sl s1.1 (by omega)
    rw [Int.mul_add, Int.add_mul] at p
    rw [pwn_s, pwn_s]
    generalize pwn z i * tpv z z = A at *
    generalize pwn z' i * tpv z' z' = B at *
    omega
def bqn (dl : Int) : Nat → Int
  | 0 => dl
  | i + 1 => bqn dl i / 16 + 1
theorem bqn_s (dl : Int) (i : Nat) : bqn dl (i + 1) = bqn dl i / 16 + 1 := rfl
theorem bqn_0 {dl : Int} (h : 0 ≤ dl) : ∀ i : Nat, 0 ≤ bqn dl i := by
  intro i
  induction i with
  | zero => exact h
  | succ i ih => rw [bqn_s]; omega
theorem zz_hi {z dl : Int} (h : 0 ≤ z ∧ 0 ≤ dl ∧ z + dl ≤ 62500000000000000000000000000000000000000000000000000) : 8 * tpv (z + dl) (z + dl) ≤ 8 * tpv z z + 47 + dl := by
  have r1 := tpv_r h.1 h.1
  have r2 := tpv_r (show 0 ≤ z + dl by omega) (show 0 ≤ z + dl by omega)
  have e : (z + dl) * (z + dl) = z * z + dl * (2 * z + dl) := by
    rw [Int.mul_add, Int.add_mul, Int.add_mul, Int.mul_add, Int.mul_comm z dl, Int.mul_left_comm dl 2 z]
    omega
  have p : dl * (2 * z + dl) ≤ dl * (2 * 62500000000000000000000000000000000000000000000000000) := Int.mul_le_mul_of_nonneg_left (by omega) h.2.1
  rw [e] at r2
  generalize z * z = A at *
  generalize dl * (2 * z + dl) = B at *
  omega
theorem pwn_hi {z dl : Int} (h : 0 ≤ z ∧ 0 ≤ dl ∧ z + dl ≤ 62500000000000000000000000000000000000000000000000000) : ∀ i : Nat, pwn (z + dl) i ≤ pwn z i + bqn dl i + 9 ∧ 16 * (dl * pwn z i) ≤ 1000000000000000000000000000000000000000000000000000000 * bqn dl i := by
  have s1 := zz_r (z := z) ⟨h.1, by omega⟩
  have s2 := zz_r (z := z + dl) ⟨by omega, h.2.2⟩
  have sh := zz_hi h
  intro i
  induction i with
  | zero =>
    refine ⟨by show z + dl ≤ z + dl + 9; omega, ?_⟩
    have p : dl * z ≤ dl * 62500000000000000000000000000000000000000000000000000 := Int.mul_le_mul_of_nonneg_left (by omega) h.2.1
    show 16 * (dl * z) ≤ 1000000000000000000000000000000000000000000000000000000 * dl
    omega
  | succ i ih =>
    obtain ⟨i1, i2⟩ := ih
    have b0 := bqn_0 h.2.1 i
    have a1 := pwn_r (z := z) ⟨h.1, by omega⟩ i
    have a2 := pwn_r (z := z + dl) ⟨by omega, h.2.2⟩ i
    have r1 := tpv_r a1.1 s1.1
    have r2 := tpv_r a2.1 s2.1
    have g := pwn_256 (z := z) ⟨h.1, by omega⟩ i
    have hY : 256 * (dl * pwn z (i + 1)) ≤ dl * pwn z i := by
      have m : dl * (256 * pwn z (i + 1)) ≤ dl * pwn z i := Int.mul_le_mul_of_nonneg_left g h.2.1
      rw [Int.mul_left_comm] at m
      exact m
    refine ⟨?_, by rw [bqn_s]; generalize dl * pwn z (i + 1) = Y at *; generalize dl * pwn z i = X at *; generalize bqn dl i = b at *; omega⟩
    rw [pwn_s, pwn_s, bqn_s]
    have p1 : pwn (z + dl) i * tpv (z + dl) (z + dl) ≤ (pwn z i + (bqn dl i + 9)) * tpv (z + dl) (z + dl) := Int.mul_le_mul_of_nonneg_right (by omega) s2.1
    rw [Int.add_mul] at p1
    have p2 : (bqn dl i + 9) * tpv (z + dl) (z + dl) ≤ (bqn dl i + 9) * 3906250000000000000000000000000000000000000000000000 := Int.mul_le_mul_of_nonneg_left s2.2 (by omega)
    have p3 : pwn z i * (8 * tpv (z + dl) (z + dl)) ≤ pwn z i * (8 * tpv z z + (47 + dl)) := Int.mul_le_mul_of_nonneg_left (by omega) a1.1
    rw [Int.mul_add, Int.mul_left_comm, Int.mul_left_comm (pwn z i) 8, Int.mul_add, Int.mul_comm (pwn z i) dl] at p3
    generalize tpv (pwn (z + dl) i) (tpv (z + dl) (z + dl)) = q' at *
    generalize tpv (pwn z i) (tpv z z) = q at *
    generalize pwn (z + dl) i * tpv (z + dl) (z + dl) = A' at *
    generalize pwn z i * tpv (z + dl) (z + dl) = A2 at *
    generalize pwn z i * tpv z z = A at *
    generalize dl * pwn z i = X at *
    generalize (bqn dl i + 9) * tpv (z + dl) (z + dl) = B2 at *
    generalize bqn dl i = b at *
    omega
theorem dv_lo {p p' : Int} {k : Nat} (hk : 0 < k) (hp : p ≤ p' + 6) : p / (k : Int) ≤ p' / (k : Int) + 6 := by
  have c : p / (k : Int) ≤ (p' + 6 * (k : Int)) / (k : Int) := Int.ediv_le_ediv (by omega) (by omega)
  rw [Int.add_mul_ediv_right _ _ (by omega)] at c
  exact c
theorem dv_hi {p p' c : Int} {k : Nat} (hk : 0 < k) (hc : 0 ≤ c) (hp : p' ≤ p + c) : p' / (k : Int) ≤ p / (k : Int) + c := by
  have m : c * 1 ≤ c * (k : Int) := Int.mul_le_mul_of_nonneg_left (by omega) hc
  have g : p' / (k : Int) ≤ (p + c * (k : Int)) / (k : Int) := Int.ediv_le_ediv (by omega) (by omega)
  rw [Int.add_mul_ediv_right _ _ (by omega)] at g
  exact g
theorem srn_pos {z dl : Int} (h : 0 ≤ z ∧ 0 ≤ dl ∧ z + dl ≤ 62500000000000000000000000000000000000000000000000000) : ∀ i : Nat, srn false z i + dl ≤ srn false (z + dl) i + 6 * (i : Int) := by
  intro i
  induction i with
  | zero => show z + dl ≤ z + dl + 6 * 0; omega
  | succ i ih =>
    have g := dv_lo (k := 2 * i + 3) (by omega) (pwn_lo (z := z) (z' := z + dl) ⟨h.1, by omega, h.2.2⟩ (i + 1))
    rw [srn_s, srn_s, if_neg (fun q => by cases q.1), if_neg (fun q => by cases q.1)]
    generalize pwn z (i + 1) / ((2 * i + 3 : Nat) : Int) = t at *
    generalize pwn (z + dl) (i + 1) / ((2 * i + 3 : Nat) : Int) = t' at *
    omega
theorem srn_alt {z dl : Int} (h : 0 ≤ z ∧ 0 ≤ dl ∧ z + dl ≤ 62500000000000000000000000000000000000000000000000000) : ∀ i : Nat, 4 * srn true z i + 3 * dl + bqn dl i ≤ 4 * srn true (z + dl) i + 60 * (i : Int) := by
  intro i
  induction i with
  | zero => show 4 * z + 3 * dl + dl ≤ 4 * (z + dl) + 60 * 0; omega
  | succ i ih =>
    have b0 := bqn_0 h.2.1 i
    have g := dv_lo (k := 2 * i + 3) (by omega) (pwn_lo (z := z) (z' := z + dl) ⟨h.1, by omega, h.2.2⟩ (i + 1))
    have e := (pwn_hi h (i + 1)).1
    rw [bqn_s] at e ⊢
    have g2 := dv_hi (k := 2 * i + 3) (c := bqn dl i / 16 + 1 + 9) (by omega) (by omega) (show pwn (z + dl) (i + 1) ≤ pwn z (i + 1) + (bqn dl i / 16 + 1 + 9) by omega)
    rw [srn_s, srn_s]
    generalize pwn z (i + 1) / ((2 * i + 3 : Nat) : Int) = t at *
    generalize pwn (z + dl) (i + 1) / ((2 * i + 3 : Nat) : Int) = t' at *
    split
    · omega
    · omega
/-- the sum lies between 0 and twice its first term -/
theorem srn_r {alt : Bool} {z : Int} (h : 0 ≤ z ∧ z ≤ 62500000000000000000000000000000000000000000000000000) : ∀ i : Nat, pwn z i ≤ srn alt z i ∧ srn alt z i + pwn z i ≤ 2 * z := by
  intro i
  induction i with
  | zero => exact ⟨Int.le_refl _, by show z + z ≤ 2 * z; omega⟩
  | succ i ih =>
    have g := pwn_256 h i
    have r := (pwn_r h (i + 1)).1
    have d0 : 0 ≤ pwn z (i + 1) / ((2 * i + 3 : Nat) : Int) := Int.ediv_nonneg r (by omega)
    have d1 : pwn z (i + 1) / ((2 * i + 3 : Nat) : Int) ≤ pwn z (i + 1) := Int.ediv_le_self _ r
    rw [srn_s]
    generalize pwn z (i + 1) / ((2 * i + 3 : Nat) : Int) = t at *
    split
    · omega
    · omega
theorem pwn_z {z : Int} {i : Nat} (h0 : pwn z (i + 1) = 0) : ∀ k : Nat, pwn z (i + 1 + k) = 0 := by
  intro k
  induction k with
  | zero => exact h0
  | succ k ih =>
    rw [show i + 1 + (k + 1) = (i + 1 + k) + 1 from rfl, pwn_s, ih]
    have g : ∀ I : Nat, drI 0 (tpv z z) I = 0 := by
      intro I
      induction I with
      | zero => rfl
      | succ I ih2 =>
        show drI 0 (tpv z z) I + lb 0 I * _ * _ = 0
        have l0 : lb 0 I = 0 := by unfold lb; rw [Int.zero_ediv]; rfl
        rw [ih2, l0, Int.zero_mul, Int.zero_mul]
        rfl
    unfold tpv at g ⊢
    rw [g, Int.zero_mul]
    rfl
theorem srn_z {alt : Bool} {z : Int} {i : Nat} (h0 : pwn z (i + 1) = 0) : ∀ k : Nat, srn alt z (i + k) = srn alt z i := by
  intro k
  induction k with
  | zero => rfl
  | succ k ih =>
    have e := pwn_z h0 k
    rw [show i + (k + 1) = (i + k) + 1 from rfl, srn_s, show i + k + 1 = i + 1 + k by omega, e, ih, Int.zero_ediv, Int.sub_zero, Int.add_zero]
    split <;> rfl
/-- the whole sum -/
noncomputable def csr (alt : Bool) (z : Int) : Int := Classical.choose (show ∃ N : Int, N = srn alt z 249 from ⟨_, rfl⟩)
theorem csr_def (alt : Bool) (z : Int) : csr alt z = srn alt z 249 := Classical.choose_spec (show ∃ N : Int, N = srn alt z 249 from ⟨_, rfl⟩)
theorem csr_r {alt : Bool} {z : Int} (h : 0 ≤ z ∧ z ≤ 62500000000000000000000000000000000000000000000000000) : 0 ≤ csr alt z ∧ csr alt z ≤ 2 * z := by
  have g := srn_r (alt := alt) h 249
  have r := pwn_r h 249
  rw [csr_def]
  generalize pwn z 249 = p at *
  omega
theorem csr_up {alt : Bool} {z dl : Int} (h : 0 ≤ z ∧ 0 ≤ dl ∧ z + dl ≤ 62500000000000000000000000000000000000000000000000000) : 4 * csr alt z + 3 * dl ≤ 4 * csr alt (z + dl) + 15000 := by
  rw [csr_def, csr_def]
  cases alt
  · have g := srn_pos h 249
    omega
  · have g := srn_alt h 249
    have b0 := bqn_0 h.2.1 249
    generalize bqn dl 249 = b at *
    omega
