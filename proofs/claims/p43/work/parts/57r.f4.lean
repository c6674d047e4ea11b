/-! THE CURVES' NUMBERS: the logarithm rises. -/
/-- quotients apart -/
theorem qz_gap {A B A' B' g : Int} (hB : 0 < B) (hB' : 0 < B') (h : A * B' * 1000000000000000000000000000000000000000000000000000000 + g * (B * B') ≤ A' * B * 1000000000000000000000000000000000000000000000000000000) : qz A B + g ≤ qz A' B' := by
  unfold qz
  refine Int.le_ediv_of_mul_le hB' ?_
  have q := Int.ediv_mul_le (A * 1000000000000000000000000000000000000000000000000000000) (Int.ne_of_gt hB)
  have m := Int.mul_le_mul_of_nonneg_right q (Int.le_of_lt hB')
  refine Int.le_of_mul_le_mul_right ?_ hB
  have e1 : (A * 1000000000000000000000000000000000000000000000000000000 / B + g) * B' * B = A * 1000000000000000000000000000000000000000000000000000000 / B * B * B' + g * (B * B') := by
    rw [Int.add_mul, Int.add_mul, Int.mul_right_comm, Int.mul_assoc g, Int.mul_comm B' B]
  have e2 : A * 1000000000000000000000000000000000000000000000000000000 * B' = A * B' * 1000000000000000000000000000000000000000000000000000000 := Int.mul_right_comm ..
  have e3 : A' * 1000000000000000000000000000000000000000000000000000000 * B = A' * B * 1000000000000000000000000000000000000000000000000000000 := Int.mul_right_comm ..
  rw [e1, e3]
  rw [e2] at m
  omega
theorem csr_0 {alt : Bool} {B : Int} : csr alt (qz 0 B) = 0 := by
  have e : qz 0 B = 0 := by unfold qz; rw [Int.zero_mul, Int.zero_ediv]
  rw [e]
  have := csr_r (alt := alt) (z := 0) (by decide)
  omega
theorem clF_lo {row : Nat} {o : Int} (h : o ≤ lgu row) : clF row o = tbN bLOGS row 6 - 2 * csr false (qz (lgu row - o) (o + lgu row)) := by
  unfold clF
  by_cases g : o < lgu row
  · rw [if_pos g]
    omega
  · have e : lgu row - o = 0 := by omega
    have e2 : o - lgu row = 0 := by omega
    rw [if_neg g, e, e2, csr_0]
    omega
theorem clF_hi {row : Nat} {o : Int} (h : lgu row ≤ o) : clF row o = tbN bLOGS row 6 + 2 * csr false (qz (o - lgu row) (o + lgu row)) := by
  unfold clF
  rw [if_neg (by omega)]
/-- apart on one side of the middle -/
theorem cl_qq {u o o' : Int} (hu : 11500000000000000000000 ≤ u ∧ u ≤ 2 * 10995116277760000000000) (ho : 0 ≤ o ∧ o < o' ∧ o' ≤ 2 * 10995116277760000000000) : (u - o') * (o + u) * 1000000000000000000000000000000000000000000000000000000 + 10000000000000000000000000000000 * ((o' + u) * (o + u)) ≤ (u - o) * (o' + u) * 1000000000000000000000000000000000000000000000000000000 ∧ (o - u) * (o' + u) * 1000000000000000000000000000000000000000000000000000000 + 10000000000000000000000000000000 * ((o + u) * (o' + u)) ≤ (o' - u) * (o + u) * 1000000000000000000000000000000000000000000000000000000 := by
  have p1 : (o' + u) * (o + u) ≤ 43980465111040000000000 * 43980465111040000000000 := Int.mul_le_mul (by omega) (by omega) (by omega) (by decide)
  have p2 : u * 1 ≤ u * (o' - o) := Int.mul_le_mul_of_nonneg_left (by omega) (by omega)
  have e1 : (u - o) * (o' + u) = (u - o') * (o + u) + 2 * (u * (o' - o)) := by
    rw [Int.sub_mul, Int.sub_mul, Int.mul_add, Int.mul_add, Int.mul_add, Int.mul_add, Int.mul_sub, Int.mul_comm o u, Int.mul_comm o' u, Int.mul_comm o' o]
    omega
  have e2 : (o' - u) * (o + u) = (o - u) * (o' + u) + 2 * (u * (o' - o)) := by
    rw [Int.sub_mul, Int.sub_mul, Int.mul_add, Int.mul_add, Int.mul_add, Int.mul_add, Int.mul_sub, Int.mul_comm o u, Int.mul_comm o' u, Int.mul_comm o' o]
    omega
  rw [e1, e2, Int.mul_comm (o + u) (o' + u)]
  generalize (u - o') * (o + u) = a
  generalize (o - u) * (o' + u) = c
  generalize (o' + u) * (o + u) = p at *
  generalize u * (o' - o) = w at *
  omega
theorem clu_r {row : Nat} (h : row ≤ 7) : lgu row = (2 * (row : Int) + 17) * 687194767360000000000 ∧ 11500000000000000000000 ≤ lgu row ∧ lgu row ≤ 2 * 10995116277760000000000 := by
  unfold lgu
  omega
theorem cl_lo {row : Nat} {o o' : Int} (hr : row ≤ 7) (h0 : (8 + (row : Int)) * 1374389534720000000000 ≤ o) (h : o < o') (h1 : o' ≤ lgu row) : clF row o + 1000000000000000000000000000000 ≤ clF row o' := by
  obtain ⟨eu, u1, u2⟩ := clu_r hr
  rw [clF_lo (show o ≤ lgu row by omega), clF_lo h1]
  generalize hU : lgu row = u at *
  have g := qz_gap (A := u - o') (B := o' + u) (A' := u - o) (B' := o + u) (g := 10000000000000000000000000000000) (by omega) (by omega) (cl_qq ⟨u1, u2⟩ ⟨by omega, h, by omega⟩).1
  have r1 := qz_r (A := u - o') (B := o' + u) (by omega) (by omega)
  have r2 := qz_r (A := u - o) (B := o + u) (by omega) (by omega)
  have c := csr_up (alt := false) (z := qz (u - o') (o' + u)) (dl := qz (u - o) (o + u) - qz (u - o') (o' + u)) (by omega)
  rw [show qz (u - o') (o' + u) + (qz (u - o) (o + u) - qz (u - o') (o' + u)) = qz (u - o) (o + u) by omega] at c
  omega
theorem cl_hi {row : Nat} {o o' : Int} (hr : row ≤ 7) (h0 : lgu row ≤ o) (h : o < o') (h1 : o' ≤ (9 + (row : Int)) * 1374389534720000000000) : clF row o + 1000000000000000000000000000000 ≤ clF row o' := by
  obtain ⟨eu, u1, u2⟩ := clu_r hr
  rw [clF_hi h0, clF_hi (show lgu row ≤ o' by omega)]
  generalize hU : lgu row = u at *
  have g := qz_gap (A := o - u) (B := o + u) (A' := o' - u) (B' := o' + u) (g := 10000000000000000000000000000000) (by omega) (by omega) (cl_qq ⟨u1, u2⟩ ⟨by omega, h, by omega⟩).2
  have r1 := qz_r (A := o - u) (B := o + u) (by omega) (by omega)
  have r2 := qz_r (A := o' - u) (B := o' + u) (by omega) (by omega)
  have c := csr_up (alt := false) (z := qz (o - u) (o + u)) (dl := qz (o' - u) (o' + u) - qz (o - u) (o + u)) (by omega)
  rw [show qz (o - u) (o + u) + (qz (o' - u) (o' + u) - qz (o - u) (o + u)) = qz (o' - u) (o' + u) by omega] at c
  omega
/-- within a row it rises -/
theorem cl_w {row : Nat} {o o' : Int} (hr : row ≤ 7) (h0 : (8 + (row : Int)) * 1374389534720000000000 ≤ o) (h : o < o') (h1 : o' ≤ (9 + (row : Int)) * 1374389534720000000000) : clF row o + 1000000000000000000000000000000 ≤ clF row o' := by
  obtain ⟨eu, u1, u2⟩ := clu_r hr
  rcases Int.lt_or_le o (lgu row) with g | g
  · rcases Int.lt_or_le (lgu row) o' with g2 | g2
    · have a := cl_lo hr h0 g (Int.le_refl _)
      have b := cl_hi hr (Int.le_refl _) g2 h1
      omega
    · exact cl_lo hr h0 h g2
  · exact cl_hi hr g h h1
/-- the rows' ends, for the kernel -/
def clE (row : Nat) : Int × Int := (tbN bLOGS row 6 - 2 * srn false (qz (lgu row - (8 + (row : Int)) * 1374389534720000000000) ((8 + (row : Int)) * 1374389534720000000000 + lgu row)) 249, tbN bLOGS row 6 + 2 * srn false (qz ((9 + (row : Int)) * 1374389534720000000000 - lgu row) ((9 + (row : Int)) * 1374389534720000000000 + lgu row)) 249)
theorem clE_all : ((List.range 7).all (fun row => decide ((clE row).2 ≤ (clE (row + 1)).1 + 100000))) = true ∧ (clE 7).2 ≤ (clE 0).1 + tbN bLOGS 8 6 + 100000 ∧ -100000 ≤ (clE 0).1 ∧ (clE 0).1 ≤ 100000 := by decide +kernel
theorem clE_1 {row : Nat} (h : row ≤ 7) : clF row ((8 + (row : Int)) * 1374389534720000000000) = (clE row).1 := by
  obtain ⟨eu, u1, u2⟩ := clu_r h
  rw [clF_lo (by omega), csr_def]
  rfl
theorem clE_2 {row : Nat} (h : row ≤ 7) : clF row ((9 + (row : Int)) * 1374389534720000000000) = (clE row).2 := by
  obtain ⟨eu, u1, u2⟩ := clu_r h
  rw [clF_hi (by omega), csr_def]
  rfl
theorem clE_n {row : Nat} (h : row < 7) : clF row ((9 + (row : Int)) * 1374389534720000000000) ≤ clF (row + 1) ((8 + ((row + 1 : Nat) : Int)) * 1374389534720000000000) + 100000 := by
  rw [clE_2 (by omega), clE_1 (by omega)]
  have g := List.all_eq_true.mp clE_all.1 row (List.mem_range.mpr h)
  exact of_decide_eq_true g
theorem cl_ends {row : Nat} (h : row ≤ 7) : clF row ((8 + (row : Int)) * 1374389534720000000000) + 1000000000000000000000000000000 ≤ clF row ((9 + (row : Int)) * 1374389534720000000000) := cl_w h (Int.le_refl _) (by omega) (Int.le_refl _)
theorem cl_row_ {row : Nat} : ∀ j : Nat, row + j ≤ 7 → clF row ((8 + (row : Int)) * 1374389534720000000000) ≤ clF (row + j) ((8 + ((row + j : Nat) : Int)) * 1374389534720000000000) := by
  intro j
  induction j with
  | zero => intro _; exact Int.le_refl _
  | succ j ih =>
    intro h
    have a := ih (by omega)
    have b := cl_ends (row := row + j) (by omega)
    have c := clE_n (row := row + j) (by omega)
    rw [show row + (j + 1) = row + j + 1 from rfl]
    omega
theorem cl_rows_ {r r' : Nat} (h : r < r' ∧ r' ≤ 7) : clF r ((9 + (r : Int)) * 1374389534720000000000) ≤ clF r' ((8 + (r' : Int)) * 1374389534720000000000) + 100000 := by
  have a := clE_n (row := r) (by omega)
  have b := cl_row_ (row := r + 1) (r' - (r + 1)) (by omega)
  rw [show r + 1 + (r' - (r + 1)) = r' by omega] at b
  omega
theorem cl_t8 : 0 ≤ tbN bLOGS 8 6 := (tbN_r (j := 2) (row := 8) (by decide) (i := 6) (Nat.le_refl _)).1
theorem dbl_le {v : Int} (hv : 0 < v) {k k' : Nat} (g : k < k') : 2 * (v * 2 ^ k) ≤ v * 2 ^ k' := by
  have e : (2 : Int) ^ k' = 2 ^ k * (2 * 2 ^ (k' - (k + 1))) := by
    rw [← Int.mul_assoc, ← Int.pow_succ, ← Int.pow_add]
    congr 1
    omega
  have p0 : (0 : Int) < 2 ^ k := Int.pow_pos (by decide)
  have p1 : (0 : Int) < 2 ^ (k' - (k + 1)) := Int.pow_pos (by decide)
  have p3 := Int.mul_pos hv p0
  have p2 : v * 2 ^ k * 2 ≤ v * 2 ^ k * (2 * 2 ^ (k' - (k + 1))) := Int.mul_le_mul_of_nonneg_left (by omega) (by omega)
  have e3 : v * (2 ^ k * (2 * 2 ^ (k' - (k + 1)))) = v * 2 ^ k * (2 * 2 ^ (k' - (k + 1))) := (Int.mul_assoc ..).symm
  rw [e, e3]
  omega
/-- it rises -/
theorem LG_lt {v w X Y : Int} (hv : 0 < v) (h : v < w) (hX : LGX v X) (hY : LGX w Y) : X + 100000000000000000000 ≤ Y := by
  obtain ⟨k, r, ⟨hk, hr⟩, ⟨a1, a2⟩, rfl⟩ := hX
  obtain ⟨k', r', ⟨hk', hr'⟩, ⟨b1, b2⟩, rfl⟩ := hY
  have t8 := cl_t8
  have pk : (0 : Int) < 2 ^ k := Int.pow_pos (by decide)
  have pk' : (0 : Int) < 2 ^ k' := Int.pow_pos (by decide)
  have lt' : v * 2 ^ k' < w * 2 ^ k' := Int.mul_lt_mul_of_pos_right h pk'
  have hkk : k' ≤ k := by
    rcases Nat.lt_or_ge k k' with g | g
    · have := dbl_le hv g
      omega
    · exact g
  have hb : clF r' ((8 + (r' : Int)) * 1374389534720000000000) ≤ clF r' (w * 2 ^ k') := by
    rcases Int.lt_or_eq_of_le b1 with g | g
    · have := cl_w hr' (Int.le_refl _) g (Int.le_of_lt b2)
      omega
    · rw [← g]
      exact Int.le_refl _
  have ha := cl_w hr a1 a2 (Int.le_refl _)
  rcases Nat.lt_or_ge k' k with g | g
  · -- another power of two
    have z1 : clF r ((9 + (r : Int)) * 1374389534720000000000) ≤ clF 7 ((9 + ((7 : Nat) : Int)) * 1374389534720000000000) + 100000 := by
      rcases Nat.lt_or_ge r 7 with g2 | g2
      · have a := cl_rows_ (r := r) (r' := 7) ⟨g2, Nat.le_refl _⟩
        have b := cl_ends (row := 7) (Nat.le_refl _)
        omega
      · have : r = 7 := by omega
        rw [this]
        omega
    have z2 := clE_all.2.1
    rw [← clE_2 (Nat.le_refl _), ← clE_1 (by decide)] at z2
    have z3 := cl_row_ (row := 0) r' (by omega)
    rw [Nat.zero_add] at z3
    have z4 : (40 - (k : Int) + 1) * tbN bLOGS 8 6 ≤ (40 - (k' : Int)) * tbN bLOGS 8 6 := Int.mul_le_mul_of_nonneg_right (by omega) t8
    rw [Int.add_mul, Int.one_mul] at z4
    generalize (40 - (k : Int)) * tbN bLOGS 8 6 = A at *
    generalize (40 - (k' : Int)) * tbN bLOGS 8 6 = B at *
    omega
  · have e : k = k' := by omega
    subst e
    rcases Nat.lt_or_ge r r' with g2 | g2
    · have z := cl_rows_ ⟨g2, hr'⟩
      omega
    · have : r = r' := by omega
      subst this
      have z := cl_w hr a1 lt' (Int.le_of_lt b2)
      omega
theorem LG_eq {v X Y : Int} (hv : 0 < v) (hX : LGX v X) (hY : LGX v Y) : X = Y := by
  obtain ⟨k, r, ⟨hk, hr⟩, ⟨a1, a2⟩, rfl⟩ := hX
  obtain ⟨k', r', ⟨hk', hr'⟩, ⟨b1, b2⟩, rfl⟩ := hY
  have hkk : k = k' := by
    rcases Nat.lt_trichotomy k k' with g | g | g
    · have := dbl_le hv g
      omega
    · exact g
    · have := dbl_le hv g
      omega
  subst hkk
  have : r = r' := by omega
  rw [this]
/-- signed codes -/
def scd (X h : Int) : Int := if X < 0 then -(2 * (-X / 100000000000000000000000000000000000000000000) + h) else 2 * (X / 100000000000000000000000000000000000000000000) + h
theorem scd_le {X Y : Int} (h : X ≤ Y) : scd X 1 ≤ scd Y 1 := by
  unfold scd
  split <;> split <;> omega
def LGC (v t : Int) : Prop := ∃ X : Int, LGY v X ∧ t = scd X (if v = 10000000000 then 0 else 1)
theorem LG_one : LGX 10000000000 (clF 0 ((8 + ((0 : Nat) : Int)) * 1374389534720000000000)) := by
  refine ⟨40, 0, by decide, by decide, ?_⟩
  rw [show (10000000000 : Int) * 2 ^ 40 = (8 + ((0 : Nat) : Int)) * 1374389534720000000000 by decide, show (40 - ((40 : Nat) : Int)) = 0 by decide, Int.zero_mul, Int.add_zero]
theorem LGC_le {v w t s : Int} (hv : 0 < v) (h : v ≤ w) (ht : LGC v t) (hs : LGC w s) : t ≤ s := by
  obtain ⟨X, hX, rfl⟩ := ht
  obtain ⟨Y, hY, rfl⟩ := hs
  have z := clE_all.2.2
  rw [← clE_1 (by decide)] at z
  rcases hX with ⟨rfl, rfl⟩ | ⟨n1, hX⟩
  · rcases hY with ⟨rfl, rfl⟩ | ⟨n2, hY⟩
    · exact Int.le_refl _
    · have g := LG_lt (by decide) (show (10000000000 : Int) < w by omega) LG_one hY
      rw [if_pos rfl, if_neg n2]
      show 0 ≤ scd Y 1
      unfold scd
      rw [if_neg (by omega)]
      omega
  · rcases hY with ⟨rfl, rfl⟩ | ⟨n2, hY⟩
    · have g := LG_lt hv (show v < 10000000000 by omega) hX LG_one
      rw [if_pos rfl, if_neg n1]
      show scd X 1 ≤ 0
      unfold scd
      rw [if_pos (by omega)]
      omega
    · rw [if_neg n1, if_neg n2]
      refine scd_le ?_
      rcases Int.lt_or_eq_of_le h with g | rfl
      · have := LG_lt hv g hX hY
        omega
      · exact Int.le_of_eq (LG_eq hv hX hY)
