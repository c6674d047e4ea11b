/-! THE CURVES' NUMBERS: e to the power. -/
theorem drI_le {N W : Int} (hN : 0 ≤ N) (hW : 0 ≤ W) : ∀ {I : Nat}, I ≤ 5 → drI N W I ≤ (N % 1000000000 ^ I) * W := by
  intro I
  induction I with
  | zero =>
    intro _
    show (0 : Int) ≤ N % 1 * W
    rw [Int.emod_one, Int.zero_mul]
    exact Int.le_refl _
  | succ I ih =>
    intro hI
    have g := ih (by omega)
    have p1 : (0 : Int) < 1000000000 ^ (5 - I) := Int.pow_pos (by decide)
    have p2 : (0 : Int) < 1000000000 ^ I := Int.pow_pos (by decide)
    have m0 := Int.emod_nonneg W (Int.ne_of_gt p1)
    have m1 : W % 1000000000 ^ (5 - I) ≤ W := emod_le_self hW p1
    have l1 : 0 ≤ lb N I := Int.emod_nonneg _ (by decide)
    have l2 : lb N I < 1000000000 := Int.emod_lt_of_pos _ (by decide)
    have n1 := Int.emod_nonneg N (Int.ne_of_gt p2)
    have n2 := Int.emod_lt_of_pos N p2
    have e0 := Int.emod_add_mul_ediv N (1000000000 ^ I)
    have e1 : N / 1000000000 ^ I = 1000000000 * (N / 1000000000 ^ I / 1000000000) + lb N I := by
      have := Int.emod_add_mul_ediv (N / 1000000000 ^ I) 1000000000
      unfold lb
      omega
    have hv : N = (N % 1000000000 ^ I + lb N I * 1000000000 ^ I) + (N / 1000000000 ^ I / 1000000000) * (1000000000 ^ I * 1000000000) := by
      have e2 : 1000000000 ^ I * (N / 1000000000 ^ I) = (N / 1000000000 ^ I / 1000000000) * (1000000000 ^ I * 1000000000) + lb N I * 1000000000 ^ I := by
        rw [e1, Int.mul_add, Int.mul_comm (1000000000 ^ I) (lb N I)]
        congr 1
        rw [Int.add_comm, Int.add_mul_ediv_left _ _ (by decide), Int.ediv_eq_zero_of_lt l1 l2, Int.zero_add, ← Int.mul_assoc, Int.mul_comm]
      omega
    have hr : 0 ≤ N % 1000000000 ^ I + lb N I * 1000000000 ^ I ∧ N % 1000000000 ^ I + lb N I * 1000000000 ^ I < 1000000000 ^ I * 1000000000 := by
      have z1 := Int.mul_nonneg l1 (Int.le_of_lt p2)
      have z2 : lb N I * 1000000000 ^ I ≤ 999999999 * 1000000000 ^ I := Int.mul_le_mul_of_nonneg_right (by omega) (Int.le_of_lt p2)
      generalize lb N I * 1000000000 ^ I = z at *
      generalize (1000000000 : Int) ^ I = P at *
      omega
    have hm := (dm_v hv hr).2
    show drI N W I + lb N I * (W % 1000000000 ^ (5 - I)) * 1000000000 ^ I ≤ N % (1000000000 ^ I * 1000000000) * W
    rw [hm, Int.add_mul]
    have z3 : lb N I * (W % 1000000000 ^ (5 - I)) * 1000000000 ^ I ≤ lb N I * 1000000000 ^ I * W := by
      rw [Int.mul_right_comm]
      exact Int.mul_le_mul_of_nonneg_left m1 (Int.mul_nonneg l1 (Int.le_of_lt p2))
    omega
theorem tpv_nn {N W : Int} (hN : 0 ≤ N) (hW : 0 ≤ W) : 0 ≤ tpv N W := by
  have g := drI_le hN hW (I := 5) (Nat.le_refl _)
  have m := Int.mul_le_mul_of_nonneg_right (emod_le_self hN (show (0 : Int) < 1000000000 ^ 5 by decide)) hW
  unfold tpv
  refine Int.ediv_nonneg ?_ (by decide)
  omega
theorem tpv_z (N : Int) : tpv N 0 = 0 := by
  have g : ∀ I : Nat, drI N 0 I = 0 := by
    intro I
    induction I with
    | zero => rfl
    | succ I ih =>
      show drI N 0 I + lb N I * (0 % 1000000000 ^ (5 - I)) * 1000000000 ^ I = 0
      rw [ih, Int.zero_emod, Int.mul_zero, Int.zero_mul]
      rfl
  unfold tpv
  rw [g, Int.mul_zero]
  rfl
/-- the terms, and their sum -/
def tmn (st : Int) : Nat → Int
  | 0 => 1000000000000000000000000000000000000000000000000000000
  | n + 1 => tpv st (tmn st n) / ((n + 1 : Nat) : Int)
def smn (neg : Bool) (st : Int) : Nat → Int
  | 0 => 1000000000000000000000000000000000000000000000000000000
  | n + 1 => if neg = true ∧ n % 2 = 0 then smn neg st n - tmn st (n + 1) else smn neg st n + tmn st (n + 1)
theorem tmn_s (st : Int) (n : Nat) : tmn st (n + 1) = tpv st (tmn st n) / ((n + 1 : Nat) : Int) := rfl
theorem smn_s (neg : Bool) (st : Int) (n : Nat) : smn neg st (n + 1) = if neg = true ∧ n % 2 = 0 then smn neg st n - tmn st (n + 1) else smn neg st n + tmn st (n + 1) := rfl
theorem dvk {q : Int} {k : Nat} (hk : 0 < k) (hq : 0 ≤ q) : 0 ≤ q / (k : Int) ∧ q / (k : Int) * (k : Int) ≤ q ∧ q < q / (k : Int) * (k : Int) + (k : Int) := by
  have hk' : (0 : Int) < (k : Int) := by omega
  have e := Int.emod_add_mul_ediv q (k : Int)
  have m1 := Int.emod_nonneg q (Int.ne_of_gt hk')
  have m2 := Int.emod_lt_of_pos q hk'
  rw [Int.mul_comm]
  exact ⟨Int.ediv_nonneg hq (by omega), by omega, by omega⟩
/-- a term is at most an eighth of the one ahead, and by its number less -/
theorem tmn_r {st : Int} (h : 0 ≤ st ∧ st ≤ 125000000000000000000000000000000000000000000000000000) : ∀ n : Nat, 0 ≤ tmn st n ∧ tmn st n ≤ 1000000000000000000000000000000000000000000000000000000 := by
  intro n
  induction n with
  | zero => exact ⟨by show (0 : Int) ≤ 1000000000000000000000000000000000000000000000000000000; decide, Int.le_refl _⟩
  | succ n ih =>
    have r := tpv_r h.1 ih.1
    have r0 := tpv_nn h.1 ih.1
    have p : st * tmn st n ≤ 125000000000000000000000000000000000000000000000000000 * tmn st n := Int.mul_le_mul_of_nonneg_right h.2 ih.1
    have d := dvk (k := n + 1) (by omega) r0
    have z : tpv st (tmn st n) / ((n + 1 : Nat) : Int) * 1 ≤ tpv st (tmn st n) / ((n + 1 : Nat) : Int) * ((n + 1 : Nat) : Int) := Int.mul_le_mul_of_nonneg_left (by omega) d.1
    rw [tmn_s]
    generalize st * tmn st n = P at *
    generalize tpv st (tmn st n) / ((n + 1 : Nat) : Int) * ((n + 1 : Nat) : Int) = W at *
    omega
theorem tmn_8 {st : Int} (h : 0 ≤ st ∧ st ≤ 125000000000000000000000000000000000000000000000000000) (n : Nat) : tmn st (n + 1) * (8 * ((n + 1 : Nat) : Int)) ≤ tmn st n := by
  have ih := tmn_r h n
  have r := tpv_r h.1 ih.1
  have r0 := tpv_nn h.1 ih.1
  have p : st * tmn st n ≤ 125000000000000000000000000000000000000000000000000000 * tmn st n := Int.mul_le_mul_of_nonneg_right h.2 ih.1
  have d := dvk (k := n + 1) (by omega) r0
  rw [tmn_s, ← Int.mul_assoc, Int.mul_right_comm]
  generalize st * tmn st n = P at *
  generalize tpv st (tmn st n) / ((n + 1 : Nat) : Int) * ((n + 1 : Nat) : Int) = W at *
  omega
theorem tmn_16 {st : Int} (h : 0 ≤ st ∧ st ≤ 125000000000000000000000000000000000000000000000000000) (n : Nat) : tmn st (n + 2) * 16 ≤ tmn st (n + 1) := by
  have g := tmn_8 h (n + 1)
  have r := (tmn_r h (n + 2)).1
  have p : tmn st (n + 2) * 16 ≤ tmn st (n + 2) * (8 * ((n + 1 + 1 : Nat) : Int)) := Int.mul_le_mul_of_nonneg_left (by omega) r
  exact Int.le_trans p g
theorem tmn_1 {st : Int} (h : 0 ≤ st ∧ st ≤ 125000000000000000000000000000000000000000000000000000) : tmn st 1 ≤ st ∧ st ≤ tmn st 1 + 5 := by
  have r := tpv_r h.1 (show (0 : Int) ≤ 1000000000000000000000000000000000000000000000000000000 by decide)
  have e : tmn st 1 = tpv st 1000000000000000000000000000000000000000000000000000000 / ((0 + 1 : Nat) : Int) := rfl
  rw [e, show ((0 + 1 : Nat) : Int) = 1 from rfl, Int.ediv_one]
  generalize tpv st 1000000000000000000000000000000000000000000000000000000 = q at *
  omega
/-- two rows of terms: the one of the greater step isn't below but for roundings -/
theorem tmn_lo {st st' : Int} (h : 0 ≤ st ∧ st ≤ st' ∧ st' ≤ 125000000000000000000000000000000000000000000000000000) : ∀ n : Nat, tmn st n ≤ tmn st' n + 6 := by
  intro n
  induction n with
  | zero => show (1000000000000000000000000000000000000000000000000000000 : Int) ≤ 1000000000000000000000000000000000000000000000000000000 + 6; decide
  | succ n ih =>
    have h1 := tmn_r (st := st) ⟨h.1, by omega⟩ n
    have h2 := tmn_r (st := st') ⟨by omega, h.2.2⟩ n
    have r1 := tpv_r h.1 h1.1
    have r2 := tpv_r (show 0 ≤ st' by omega) h2.1
    have n1 := tpv_nn h.1 h1.1
    have n2 := tpv_nn (show 0 ≤ st' by omega) h2.1
    have p1 : st * tmn st n ≤ st' * (tmn st' n + 6) := Int.mul_le_mul h.2.1 ih h1.1 (by omega)
    rw [Int.mul_add] at p1
    have d1 := dvk (k := n + 1) (by omega) n1
    have d2 := dvk (k := n + 1) (by omega) n2
    rw [tmn_s, tmn_s]
    generalize st * tmn st n = P at *
    generalize st' * tmn st' n = P' at *
    generalize tpv st (tmn st n) = q at *
    generalize tpv st' (tmn st' n) = q' at *
    have hq : q ≤ q' + 6 := by omega
    have hk : (1 : Int) ≤ ((n + 1 : Nat) : Int) := by omega
    generalize ((n + 1 : Nat) : Int) = k at *
    have c : q / k ≤ (q' + 6 * k) / k := Int.ediv_le_ediv (by omega) (by omega)
    rw [Int.add_mul_ediv_right _ _ (by omega)] at c
    exact c
def bsq (dl : Int) : Nat → Int
  | 0 => dl
  | n + 1 => bsq dl n / 8 + 1
theorem bsq_s (dl : Int) (n : Nat) : bsq dl (n + 1) = bsq dl n / 8 + 1 := rfl
theorem bsq_0 {dl : Int} (h : 0 ≤ dl) : ∀ n : Nat, 0 ≤ bsq dl n := by
  intro n
  induction n with
  | zero => exact h
  | succ n ih => rw [bsq_s]; omega
/-- nor is it much above -/
theorem tmn_hi {st dl : Int} (h : 0 ≤ st ∧ 0 ≤ dl ∧ st + dl ≤ 125000000000000000000000000000000000000000000000000000) : ∀ n : Nat, tmn (st + dl) (n + 1) ≤ tmn st (n + 1) + bsq dl n + 9 ∧ 8 * (dl * tmn st (n + 1)) ≤ 1000000000000000000000000000000000000000000000000000000 * bsq dl n := by
  intro n
  have hs : 0 ≤ st ∧ st ≤ 125000000000000000000000000000000000000000000000000000 := ⟨h.1, by omega⟩
  have hs' : 0 ≤ st + dl ∧ st + dl ≤ 125000000000000000000000000000000000000000000000000000 := ⟨by omega, h.2.2⟩
  induction n with
  | zero =>
    have a := tmn_1 hs
    have b := tmn_1 hs'
    refine ⟨by show tmn (st + dl) 1 ≤ tmn st 1 + dl + 9; omega, ?_⟩
    have p : dl * tmn st (0 + 1) ≤ dl * 125000000000000000000000000000000000000000000000000000 := Int.mul_le_mul_of_nonneg_left (by have : tmn st (0 + 1) = tmn st 1 := rfl; omega) h.2.1
    show 8 * (dl * tmn st (0 + 1)) ≤ 1000000000000000000000000000000000000000000000000000000 * dl
    omega
  | succ n ih =>
    obtain ⟨i1, i2⟩ := ih
    have b0 := bsq_0 h.2.1 n
    have h1 := tmn_r hs (n + 1)
    have h2 := tmn_r hs' (n + 1)
    have r1 := tpv_r h.1 h1.1
    have r2 := tpv_r hs'.1 h2.1
    have n1 := tpv_nn h.1 h1.1
    have n2 := tpv_nn hs'.1 h2.1
    have p1 : (st + dl) * tmn (st + dl) (n + 1) ≤ (st + dl) * (tmn st (n + 1) + (bsq dl n + 9)) := Int.mul_le_mul_of_nonneg_left (by omega) hs'.1
    rw [Int.mul_add, Int.add_mul st dl (tmn st (n + 1))] at p1
    have p2 : (st + dl) * (bsq dl n + 9) ≤ 125000000000000000000000000000000000000000000000000000 * (bsq dl n + 9) := Int.mul_le_mul_of_nonneg_right hs'.2 (by omega)
    have d1 := dvk (k := n + 2) (by omega) n1
    have d2 := dvk (k := n + 2) (by omega) n2
    have g16 := tmn_16 hs n
    have hb2 : 8 * (dl * tmn st (n + 2)) ≤ dl * tmn st (n + 1) := by
      have m : dl * (tmn st (n + 2) * 16) ≤ dl * tmn st (n + 1) := Int.mul_le_mul_of_nonneg_left g16 h.2.1
      have m0 := Int.mul_nonneg h.2.1 (tmn_r hs (n + 2)).1
      rw [← Int.mul_assoc] at m
      omega
    refine ⟨?_, by rw [bsq_s]; generalize dl * tmn st (n + 2) = Y at *; generalize dl * tmn st (n + 1) = X at *; generalize bsq dl n = b at *; show 8 * Y ≤ _; omega⟩
    have e1 : tmn (st + dl) (n + 1 + 1) = tpv (st + dl) (tmn (st + dl) (n + 1)) / ((n + 2 : Nat) : Int) := rfl
    have e2 : tmn st (n + 1 + 1) = tpv st (tmn st (n + 1)) / ((n + 2 : Nat) : Int) := rfl
    rw [bsq_s, e1, e2]
    generalize tpv (st + dl) (tmn (st + dl) (n + 1)) = q' at *
    generalize tpv st (tmn st (n + 1)) = q at *
    generalize (st + dl) * tmn (st + dl) (n + 1) = P' at *
    generalize (st + dl) * (bsq dl n + 9) = P2 at *
    generalize dl * tmn st (n + 1) = X at *
    generalize st * tmn st (n + 1) = P at *
    generalize bsq dl n = b at *
    have hq : 8 * q' ≤ 8 * q + 2 * b + 57 := by omega
    generalize q' / ((n + 2 : Nat) : Int) = x' at *
    generalize q / ((n + 2 : Nat) : Int) = x at *
    have hk : (2 : Int) ≤ ((n + 2 : Nat) : Int) := by omega
    generalize ((n + 2 : Nat) : Int) = k at *
    rcases Int.lt_or_le (x' - x) 1 with g | g
    · omega
    · have m : 2 * (8 * (x' - x) - 8) ≤ k * (8 * (x' - x) - 8) := Int.mul_le_mul_of_nonneg_right hk (by omega)
      have e3 : k * (8 * (x' - x) - 8) = 8 * (x' * k) - 8 * (x * k) - 8 * k := by
        rw [Int.mul_sub, Int.mul_comm k (8 * (x' - x)), Int.mul_assoc, Int.sub_mul, Int.mul_comm k 8]
        omega
      rw [e3] at m
      generalize x' * k = A' at *
      generalize x * k = A at *
      omega
theorem smn_pos {st dl : Int} (h : 0 ≤ st ∧ 0 ≤ dl ∧ st + dl ≤ 125000000000000000000000000000000000000000000000000000) : ∀ n : Nat, smn false st (n + 1) + dl ≤ smn false (st + dl) (n + 1) + 6 * ((n + 1 : Nat) : Int) := by
  intro n
  have hs : 0 ≤ st ∧ st ≤ 125000000000000000000000000000000000000000000000000000 := ⟨h.1, by omega⟩
  have hs' : 0 ≤ st + dl ∧ st + dl ≤ 125000000000000000000000000000000000000000000000000000 := ⟨by omega, h.2.2⟩
  induction n with
  | zero =>
    have a := tmn_1 hs
    have b := tmn_1 hs'
    show 1000000000000000000000000000000000000000000000000000000 + tmn st 1 + dl ≤ 1000000000000000000000000000000000000000000000000000000 + tmn (st + dl) 1 + 6 * 1
    omega
  | succ n ih =>
    have g := tmn_lo (st := st) (st' := st + dl) ⟨h.1, by omega, h.2.2⟩ (n + 2)
    have e1 : ∀ s : Int, smn false s (n + 1 + 1) = smn false s (n + 1) + tmn s (n + 2) := fun s => by rw [smn_s, if_neg (fun q => by cases q.1)]
    rw [e1, e1]
    omega
theorem smn_neg {st dl : Int} (h : 0 ≤ st ∧ 0 ≤ dl ∧ st + dl ≤ 125000000000000000000000000000000000000000000000000000) : ∀ n : Nat, 4 * smn true (st + dl) (n + 1) + 4 * dl ≤ 4 * smn true st (n + 1) + (dl - bsq dl n) + 45 * ((n + 1 : Nat) : Int) := by
  intro n
  have hs : 0 ≤ st ∧ st ≤ 125000000000000000000000000000000000000000000000000000 := ⟨h.1, by omega⟩
  have hs' : 0 ≤ st + dl ∧ st + dl ≤ 125000000000000000000000000000000000000000000000000000 := ⟨by omega, h.2.2⟩
  induction n with
  | zero =>
    have a := tmn_1 hs
    have b := tmn_1 hs'
    show 4 * (1000000000000000000000000000000000000000000000000000000 - tmn (st + dl) 1) + 4 * dl ≤ 4 * (1000000000000000000000000000000000000000000000000000000 - tmn st 1) + (dl - dl) + 45 * 1
    omega
  | succ n ih =>
    have g := tmn_lo (st := st) (st' := st + dl) ⟨h.1, by omega, h.2.2⟩ (n + 2)
    have g2 := (tmn_hi h (n + 1)).1
    have b0 := bsq_0 h.2.1 n
    rw [bsq_s] at g2 ⊢
    have g2 : tmn (st + dl) (n + 2) ≤ tmn st (n + 2) + (bsq dl n / 8 + 1) + 9 := g2
    rw [smn_s true (st + dl) (n + 1), smn_s true st (n + 1)]
    split
    · show 4 * (_ - tmn (st + dl) (n + 2)) + _ ≤ 4 * (_ - tmn st (n + 2)) + _ + _
      omega
    · show 4 * (_ + tmn (st + dl) (n + 2)) + _ ≤ 4 * (_ + tmn st (n + 2)) + _ + _
      omega
/-- where the sums lie -/
theorem smn_b {st : Int} (hs : 0 ≤ st ∧ st ≤ 125000000000000000000000000000000000000000000000000000) : ∀ n : Nat, (1000000000000000000000000000000000000000000000000000000 ≤ smn false st (n + 1) ∧ 15 * smn false st (n + 1) + tmn st (n + 1) ≤ 15 * 1000000000000000000000000000000000000000000000000000000 + 16 * tmn st 1) ∧ (15 * 1000000000000000000000000000000000000000000000000000000 - 16 * tmn st 1 ≤ 15 * smn true st (n + 1) - tmn st (n + 1) ∧ smn true st (n + 1) + tmn st (n + 1) ≤ 1000000000000000000000000000000000000000000000000000000) := by
  intro n
  induction n with
  | zero =>
    have r := (tmn_r hs 1).1
    have e1 : smn false st (0 + 1) = 1000000000000000000000000000000000000000000000000000000 + tmn st 1 := rfl
    have e2 : smn true st (0 + 1) = 1000000000000000000000000000000000000000000000000000000 - tmn st 1 := rfl
    rw [e1, e2]
    show (1000000000000000000000000000000000000000000000000000000 ≤ 1000000000000000000000000000000000000000000000000000000 + tmn st 1 ∧ 15 * (1000000000000000000000000000000000000000000000000000000 + tmn st 1) + tmn st 1 ≤ _) ∧ (_ ≤ 15 * (1000000000000000000000000000000000000000000000000000000 - tmn st 1) - tmn st 1 ∧ 1000000000000000000000000000000000000000000000000000000 - tmn st 1 + tmn st 1 ≤ _)
    omega
  | succ n ih =>
    have g := tmn_16 hs n
    have r := (tmn_r hs (n + 2)).1
    have e1 : smn false st (n + 1 + 1) = smn false st (n + 1) + tmn st (n + 2) := by rw [smn_s, if_neg (fun q => by cases q.1)]
    rw [e1, smn_s true st (n + 1), show tmn st (n + 1 + 1) = tmn st (n + 2) from rfl]
    obtain ⟨⟨a1, a2⟩, a3, a4⟩ := ih
    refine ⟨⟨by omega, by omega⟩, ?_⟩
    split
    · exact ⟨by omega, by omega⟩
    · exact ⟨by omega, by omega⟩
/-- a vanished term ends the sum -/
theorem tmn_z {st : Int} {n : Nat} (h0 : tmn st (n + 1) = 0) : ∀ k : Nat, tmn st (n + 1 + k) = 0 := by
  intro k
  induction k with
  | zero => exact h0
  | succ k ih =>
    rw [show n + 1 + (k + 1) = (n + 1 + k) + 1 from rfl, tmn_s, ih]
    rw [tpv_z, Int.zero_ediv]
theorem smn_z {neg : Bool} {st : Int} {n : Nat} (h0 : tmn st (n + 1) = 0) : ∀ k : Nat, smn neg st (n + k) = smn neg st n := by
  intro k
  induction k with
  | zero => rfl
  | succ k ih =>
    have e := tmn_z h0 k
    rw [show n + (k + 1) = (n + k) + 1 from rfl, smn_s, show n + k + 1 = n + 1 + k by omega, e, ih, Int.sub_zero, Int.add_zero]
    split <;> rfl
/-- squares, eight times -/
def sqn (N : Int) : Nat → Int
  | 0 => N
  | k + 1 => tpv (sqn N k) (sqn N k)
theorem sq_gap {N N' G c G' : Int} (hc : 0 ≤ c ∧ c ≤ N) (hG : 0 ≤ G ∧ N + G ≤ N') (h : (G' + 7) * 1000000000000000000000000000000000000000000000000000000 ≤ 2 * (c * G)) : tpv N N + G' ≤ tpv N' N' := by
  have r1 := tpv_r (show 0 ≤ N by omega) (show 0 ≤ N by omega)
  have r2 := tpv_r (show 0 ≤ N' by omega) (show 0 ≤ N' by omega)
  have p1 : (N + G) * (N + G) ≤ N' * N' := Int.mul_le_mul hG.2 hG.2 (by omega) (by omega)
  rw [Int.mul_add, Int.add_mul, Int.add_mul] at p1
  have p2 : c * G ≤ N * G := Int.mul_le_mul_of_nonneg_right hc.2 hG.1
  have p3 := Int.mul_nonneg hG.1 hG.1
  rw [Int.mul_comm G N] at p1
  generalize N' * N' = A' at *
  generalize N * N = A at *
  generalize N * G = B at *
  generalize G * G = Z at *
  generalize c * G = Y at *
  omega
theorem sq_lo {N c c' : Int} (hc : 0 ≤ c ∧ c ≤ N) (h : (c' + 6) * 1000000000000000000000000000000000000000000000000000000 ≤ c * c) : c' ≤ tpv N N := by
  have r1 := tpv_r (show 0 ≤ N by omega) (show 0 ≤ N by omega)
  have p1 : c * c ≤ N * N := Int.mul_le_mul hc.2 hc.2 hc.1 (by omega)
  generalize N * N = A at *
  generalize c * c = B at *
  omega
theorem sq_hi {N C C' : Int} (h0 : 0 ≤ N ∧ N ≤ C) (h : C * C ≤ C' * 1000000000000000000000000000000000000000000000000000000) : tpv N N ≤ C' := by
  have r1 := tpv_r h0.1 h0.1
  have p1 : N * N ≤ C * C := Int.mul_le_mul h0.2 h0.2 h0.1 (by omega)
  generalize N * N = A at *
  generalize C * C = B at *
  omega
theorem sqn_lt {N N' : Int} (h : 860000000000000000000000000000000000000000000000000000 ≤ N) (hg : N + 290000000000000000000000000000000000000000 ≤ N') : sqn N 8 + 1 ≤ sqn N' 8 := by
  have c0 : (860000000000000000000000000000000000000000000000000000 : Int) ≤ sqn N 0 := h
  have g0 : sqn N 0 + 290000000000000000000000000000000000000000 ≤ sqn N' 0 := hg
  have c1 : (739599999999999999999999999999999999999999999999999994 : Int) ≤ sqn N 1 := sq_lo (c := 860000000000000000000000000000000000000000000000000000) ⟨by decide, c0⟩ (by decide)
  have g1 : sqn N 1 + 498799999999999999999999999999999999999993 ≤ sqn N' 1 := sq_gap (c := 860000000000000000000000000000000000000000000000000000) (G := 290000000000000000000000000000000000000000) ⟨by decide, c0⟩ ⟨by decide, g0⟩ (by decide)
  have c2 : (547008159999999999999999999999999999999999999999999985 : Int) ≤ sqn N 2 := sq_lo (c := 739599999999999999999999999999999999999999999999999994) ⟨by decide, c1⟩ (by decide)
  have g2 : sqn N 2 + 737824959999999999999999999999999999999982 ≤ sqn N' 2 := sq_gap (c := 739599999999999999999999999999999999999999999999999994) (G := 498799999999999999999999999999999999999993) ⟨by decide, c1⟩ ⟨by decide, g1⟩ (by decide)
  have c3 : (299217927106585599999999999999999999999999999999999977 : Int) ≤ sqn N 3 := sq_lo (c := 547008159999999999999999999999999999999999999999999985) ⟨by decide, c2⟩ (by decide)
  have g3 : sqn N 3 + 807192547543347199999999999999999999999973 ≤ sqn N' 3 := sq_gap (c := 547008159999999999999999999999999999999999999999999985) (G := 737824959999999999999999999999999999999982) ⟨by decide, c2⟩ ⟨by decide, g2⟩ (by decide)
  have c4 : (89531367901961973571462890127359999999999999999999980 : Int) ≤ sqn N 4 := sq_lo (c := 299217927106585599999999999999999999999999999999999977) ⟨by decide, c3⟩ (by decide)
  have g4 : sqn N 4 + 483052961703608787641381174640639999999976 ≤ sqn N' 4 := sq_gap (c := 299217927106585599999999999999999999999999999999999977) (G := 807192547543347199999999999999999999999973) ⟨by decide, c3⟩ ⟨by decide, g3⟩ (by decide)
  have c5 : (8015865838396466765277291254675010879921528555275117 : Int) ≤ sqn N 5 := sq_lo (c := 89531367901961973571462890127359999999999999999999980) ⟨by decide, c4⟩ (by decide)
  have g5 : sqn N 5 + 86496784860836292536945654469051280192630 ≤ sqn N' 5 := sq_gap (c := 89531367901961973571462890127359999999999999999999980) (G := 483052961703608787641381174640639999999976) ⟨by decide, c4⟩ ⟨by decide, g4⟩ (by decide)
  have c6 : (64254105139171491043534393027020593767767077553660 : Int) ≤ sqn N 6 := sq_lo (c := 8015865838396466765277291254675010879921528555275117) ⟨by decide, c5⟩ (by decide)
  have g6 : sqn N 6 + 1386693245794212643916277133234304907352 ≤ sqn N' 6 := sq_gap (c := 8015865838396466765277291254675010879921528555275117) (G := 86496784860836292536945654469051280192630) ⟨by decide, c5⟩ ⟨by decide, g5⟩ (by decide)
  have c7 : (4128590027235704216404340840619471914829064848 : Int) ≤ sqn N 7 := sq_lo (c := 64254105139171491043534393027020593767767077553660) ⟨by decide, c6⟩ (by decide)
  have g7 : sqn N 7 + 178201467222080628503405967446273013 ≤ sqn N' 7 := sq_gap (c := 64254105139171491043534393027020593767767077553660) (G := 1386693245794212643916277133234304907352) ⟨by decide, c6⟩ ⟨by decide, g6⟩ (by decide)
  have g8 : sqn N 8 + 1471441600823704628445476305 ≤ sqn N' 8 := sq_gap (c := 4128590027235704216404340840619471914829064848) (G := 178201467222080628503405967446273013) ⟨by decide, c7⟩ ⟨by decide, g7⟩ (by decide)
  omega
theorem sqn_r {N : Int} (h : 0 ≤ N ∧ N ≤ 1116700000000000000000000000000000000000000000000000000) : ∀ k : Nat, k ≤ 7 → 0 ≤ sqn N k ∧ sqn N k < 1000000000000000000000000000000000000000000000000000000000000000 := by
  have n0 : ∀ k : Nat, 0 ≤ sqn N k := by
    intro k
    induction k with
    | zero => exact h.1
    | succ k ih => exact tpv_nn ih ih
  have c0 : sqn N 0 ≤ 1116700000000000000000000000000000000000000000000000000 := h.2
  have c1 : sqn N 1 ≤ 1247018890000000000000000000000000000000000000000000000 := sq_hi (C := 1116700000000000000000000000000000000000000000000000000) ⟨n0 0, c0⟩ (by decide)
  have c2 : sqn N 2 ≤ 1555056112016832100000000000000000000000000000000000000 := sq_hi (C := 1247018890000000000000000000000000000000000000000000000) ⟨n0 1, c1⟩ (by decide)
  have c3 : sqn N 3 ≤ 2418199511520906263965873719590410000000000000000000000 := sq_hi (C := 1555056112016832100000000000000000000000000000000000000) ⟨n0 2, c2⟩ (by decide)
  have c4 : sqn N 4 ≤ 5847688877519949666869568834641445674115432769671073967 := sq_hi (C := 2418199511520906263965873719590410000000000000000000000) ⟨n0 3, c3⟩ (by decide)
  have c5 : sqn N 5 ≤ 34195465208270528896376413824315043910476973816700294490 := sq_hi (C := 5847688877519949666869568834641445674115432769671073967) ⟨n0 4, c4⟩ (by decide)
  have c6 : sqn N 6 ≤ 1169329840810040206191669778286125257392219110605924973055 := sq_hi (C := 34195465208270528896376413824315043910476973816700294490) ⟨n0 5, c5⟩ (by decide)
  have c7 : sqn N 7 ≤ 1367332276608833970055509597999343532303276544487381899104523 := sq_hi (C := 1169329840810040206191669778286125257392219110605924973055) ⟨n0 6, c6⟩ (by decide)
  intro k hk
  refine ⟨n0 k, ?_⟩
  rcases (show k = 0 ∨ k = 1 ∨ k = 2 ∨ k = 3 ∨ k = 4 ∨ k = 5 ∨ k = 6 ∨ k = 7 by omega) with rfl | rfl | rfl | rfl | rfl | rfl | rfl | rfl <;> omega
theorem sqn_8 {N : Int} (h : 0 ≤ N ∧ N ≤ 1116700000000000000000000000000000000000000000000000000) : 0 ≤ sqn N 8 ∧ sqn N 8 < 10000000000000000000000000000000000000000000000000000000000000000000 := by
  have n0 : ∀ k : Nat, 0 ≤ sqn N k := by
    intro k
    induction k with
    | zero => exact h.1
    | succ k ih => exact tpv_nn ih ih
  have c0 : sqn N 0 ≤ 1116700000000000000000000000000000000000000000000000000 := h.2
  have c1 : sqn N 1 ≤ 1247018890000000000000000000000000000000000000000000000 := sq_hi (C := 1116700000000000000000000000000000000000000000000000000) ⟨n0 0, c0⟩ (by decide)
  have c2 : sqn N 2 ≤ 1555056112016832100000000000000000000000000000000000000 := sq_hi (C := 1247018890000000000000000000000000000000000000000000000) ⟨n0 1, c1⟩ (by decide)
  have c3 : sqn N 3 ≤ 2418199511520906263965873719590410000000000000000000000 := sq_hi (C := 1555056112016832100000000000000000000000000000000000000) ⟨n0 2, c2⟩ (by decide)
  have c4 : sqn N 4 ≤ 5847688877519949666869568834641445674115432769671073967 := sq_hi (C := 2418199511520906263965873719590410000000000000000000000) ⟨n0 3, c3⟩ (by decide)
  have c5 : sqn N 5 ≤ 34195465208270528896376413824315043910476973816700294490 := sq_hi (C := 5847688877519949666869568834641445674115432769671073967) ⟨n0 4, c4⟩ (by decide)
  have c6 : sqn N 6 ≤ 1169329840810040206191669778286125257392219110605924973055 := sq_hi (C := 34195465208270528896376413824315043910476973816700294490) ⟨n0 5, c5⟩ (by decide)
  have c7 : sqn N 7 ≤ 1367332276608833970055509597999343532303276544487381899104523 := sq_hi (C := 1169329840810040206191669778286125257392219110605924973055) ⟨n0 6, c6⟩ (by decide)
  have c8 : sqn N 8 ≤ 1869597554656296852334910373038128034909407355464797219427958485130 := sq_hi (C := 1367332276608833970055509597999343532303276544487381899104523) ⟨n0 7, c7⟩ (by decide)
  exact ⟨n0 8, by omega⟩
