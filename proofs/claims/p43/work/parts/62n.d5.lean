/-! DOUBLES by their values: ten steps, a bound's size, where the steps begin. -/
section DBLS
/-- how near a guess is -/
def NI (R N X : Nat) : Prop := X * 9007199254740992 ≤ R * N ∧ 9007199254740992 * R ≤ (9007199254740992 + 15) * X
def nck (m : Nat) : Nat → List Nat → Bool
  | _, [] => true
  | N, N' :: L => decide (0 < N) && decide (N' ≤ 2 * 9007199254740992) && decide ((9007199254740992 + 14) * (m * N ^ (m + 1) + 9007199254740992 ^ (m + 1)) ≤ 9007199254740992 * (m + 1) * N ^ m * N') && decide ((9007199254740992 + 14) * (m * 9007199254740992 ^ (m + 1) + (9007199254740992 + 15) ^ (m + 1)) * 9007199254740992 ≤ 9007199254740992 * (m + 1) * 9007199254740992 ^ (m + 1) * N') && nck m N' L
def nlast : Nat → List Nat → Nat
  | N, [] => N
  | _, N' :: L => nlast N' L
def NL (m : Nat) : List Nat := if m = 1 then [11258999068426258, 9232379236109535, 9009945352074769, 9007199673225818, 9007199254741022, 9007199254741022, 9007199254741022, 9007199254741022, 9007199254741022, 9007199254741022] else if m = 2 then [12760198944216426, 10002804708696432, 9103006747187383, 9008204073606000, 9007199366819219, 9007199254741022, 9007199254741022, 9007199254741022, 9007199254741022, 9007199254741022] else [13792273858822166, 10971384344170088, 9474528960137644, 9040652740064290, 9007384480987101, 9007199260454367, 9007199254741022, 9007199254741022, 9007199254741022, 9007199254741022]
theorem NL_ok : ∀ m : Fin 4, 1 ≤ m.val → nck m.val (2 * 9007199254740992) (NL m.val) = true ∧ nlast (2 * 9007199254740992) (NL m.val) = 9007199254740992 + 30 ∧ (NL m.val).length = 10 := by decide +kernel
theorem nwsV {m : Nat} {z : UInt64} {Z R : Nat} (hk : 1 ≤ m ∧ m ≤ 3) (hz : NV z Z) (z1 : 2 ^ 365 ≤ Z) (z2 : Z < 2 ^ 441) (hR : Z * TW ^ m ≤ R ^ (m + 1)) (hR2 : (R - 1) ^ (m + 1) ≤ Z * TW ^ m) (r1 : 2 ^ 383 ≤ R) (r2 : R ≤ 2 ^ 420) : ∀ (L : List Nat) (N : Nat) (g : UInt64) (X : Nat), nck m N L = true → NV g X → NI R N X → N ≤ 2 * 9007199254740992 → ∃ Y : Nat, NV (nws (FP.i2d (Int32.ofNat m)) (FP.i2d (Int32.ofNat (m + 1))) z (m - 1) L.length g) Y ∧ NI R (nlast N L) Y := by
  intro L
  induction L with
  | nil =>
    intro N g X _ hx hi _
    exact ⟨X, hx, hi⟩
  | cons N' L ih =>
    intro N g X hc hx hi hN
    have hc' := hc
    unfold nck at hc'
    simp only [Bool.and_eq_true, decide_eq_true_eq] at hc'
    obtain ⟨⟨⟨⟨c1, c2⟩, c3⟩, c4⟩, c5⟩ := hc'
    obtain ⟨i1, i2⟩ := hi
    have x1 : 2 ^ 382 ≤ X := by
      have w : 9007199254740992 * R ≤ 2 * 9007199254740992 * X := Nat.le_trans i2 (Nat.mul_le_mul_right _ (by omega))
      have w2 : 2 ^ 382 * 2 ≤ R := by
        rw [← Nat.pow_succ]
        exact r1
      generalize 2 ^ 382 = t at *
      omega
    have x2 : X < 2 ^ 422 := by
      have w : X * 9007199254740992 ≤ R * (2 * 9007199254740992) := Nat.le_trans i1 (Nat.mul_le_mul_left _ hN)
      have w2 : 0 < 2 ^ 420 := two_pos 420
      have w3 : 2 ^ 422 = 2 ^ 420 * 4 := by rw [show 422 = 420 + 2 by rfl, Nat.pow_add]
      rw [w3]
      generalize 2 ^ 420 = t at *
      omega
    have X0 : 0 < X := Nat.lt_of_lt_of_le (two_pos _) x1
    obtain ⟨Y, y1, y2⟩ := newtV (k := m + 1) (by omega) hz z1 z2 hx x1 x2
    rw [Nat.add_sub_cancel] at y1 y2
    obtain ⟨y2, y3⟩ := y2
    generalize Z * TW ^ m = V at *
    have R0 : 0 < R := Nat.lt_of_lt_of_le (two_pos _) r1
    have hU : Y * 9007199254740992 ≤ R * N' := by
      rcases Nat.lt_or_ge (X ^ (m + 1)) V with g | g
      · have XR : X ≤ R := by
          rcases Nat.le_total X R with g2 | g2
          · exact g2
          · have := Nat.pow_le_pow_left g2 (m + 1)
            omega
        exact st_B X0 y2 hR i2 XR c4
      · exact st_U X0 c1 y2 g hR i1 c3 R0 (by decide)
    have hB : 9007199254740992 * R ≤ (9007199254740992 + 15) * Y := st_L X0 y3 hR2 (by
      have w : 2 ^ 60 ≤ 2 ^ 383 := pw_le2.mpr (by decide)
      have w2 : (2 : Nat) ^ 60 = 1152921504606846976 := by decide +kernel
      generalize 2 ^ 383 = t at *
      omega)
    rw [show m + 1 - 2 = m - 1 by omega] at y1
    exact ih N' _ Y c5 y1 ⟨hU, hB⟩ c2
/-- ten whole units as a double -/
theorem tenV : NV (FP.l2d 10000000000) (10000000000 * TW) := ⟨5242880000000000, -19, ten_fin, by decide, by decide, by rw [TW_def]; decide +kernel⟩
theorem div0 {x : UInt64} (h : dat x = .fin false 0 (-1074)) : dat (FP.ddiv x (FP.l2d 10000000000)) = .fin false 0 (-1074) := by
  rw [dat_div, h, ten_fin]
  decide +kernel
theorem TWb : 2 ^ 400 ≤ TW ∧ TW < 2 ^ 401 := by
  rw [TW_def]
  exact ⟨Nat.le_refl _, pw_lt2.mpr (by decide)⟩
theorem szV {w p : Int64} {a b : Nat} (hw : w.toInt = (a : Int)) (hp : p.toInt = (b : Int)) (ha : a < 1000000000000) (hb : b < 10000000000) (h0 : 0 < a * 10000000000 + b) : ∃ Z : Nat, NV (szd w p) Z ∧ nr 8 (Z * 10000000000) ((a * 10000000000 + b) * TW) := by
  obtain ⟨t1, t2⟩ := TWb
  obtain ⟨A, a1, a2, a3⟩ := l2dV hw
  obtain ⟨B, b1, b2, b3⟩ := l2dV hp
  have hT : (2 : Nat) ^ 33 ≤ 10000000000 ∧ 10000000000 < 2 ^ 34 := by decide
  have hq : ∃ Q : Nat, NZ (FP.ddiv (FP.l2d p) (FP.l2d 10000000000)) Q ∧ nr 5 (Q * 10000000000) (b * TW) := by
    by_cases g : b = 0
    · subst g
      have hB := b3 rfl
      subst hB
      obtain ⟨c, q, d1, d2⟩ := b1
      rcases d2 with ⟨e1, e2, e3⟩ | ⟨rfl, rfl, _⟩
      · have := Nat.mul_pos (show 0 < c by omega) (two_pos (q + 400).toNat)
        omega
      · refine ⟨0, ⟨0, -1074, div0 d1, Or.inr ⟨rfl, rfl, rfl⟩⟩, ?_⟩
        rw [Nat.zero_mul, Nat.zero_mul]
        exact nr_0
    · have u1 : 2 ^ 400 ≤ b * TW := Nat.le_trans t1 (Nat.le_mul_of_pos_left _ (by omega))
      have u2 : b * TW < 2 ^ 435 := pm_lt (Nat.lt_trans hb hT.2) t2 (by decide)
      have B1 : 2 ^ 399 ≤ B := nr_ge b2 (by decide) u1
      have B2 : B < 2 ^ 436 := nr_lt b2 (by decide) u2
      have v1 : 2 ^ 433 ≤ 10000000000 * TW := pm_ge hT.1 t1 (by decide)
      have v2 : 10000000000 * TW < 2 ^ 435 := pm_lt hT.2 t2 (by decide)
      obtain ⟨Q, q1, q2⟩ := divV (NV_Z b1 (Nat.ne_of_gt (Nat.lt_of_lt_of_le (two_pos _) B1))) tenV (Nat.le_trans (Nat.le_of_lt v2) (pm_ge B1 (Nat.le_refl (2 ^ 150)) (by decide))) (Nat.le_trans (Nat.le_of_lt B2) (pm_ge v1 (Nat.le_refl (2 ^ 100)) (by decide)))
      refine ⟨Q, NZ_V q1, nr_tr (by decide) (nr_can TW_pos (nr_comm q2 (Nat.mul_assoc ..).symm rfl)) b2⟩
  obtain ⟨Q, q1, q2⟩ := hq
  have sm : nr 5 ((A + Q) * 10000000000) ((a * 10000000000 + b) * TW) := by
    rw [Nat.add_mul, Nat.add_mul]
    refine nr_add (nr_w (j := 2) (by decide) (nr_comm (nr_mul 10000000000 a2) rfl ?_)) q2
    rw [Nat.mul_right_comm]
  have u1 : 2 ^ 400 ≤ (a * 10000000000 + b) * TW := Nat.le_trans t1 (Nat.le_mul_of_pos_left _ h0)
  have u2 : (a * 10000000000 + b) * TW < 2 ^ 475 := by
    have w : (2 : Nat) ^ 74 = 18889465931478580854784 := by decide +kernel
    exact pm_lt (show a * 10000000000 + b < 2 ^ 74 by rw [w]; omega) t2 (by decide)
  have s1 : 2 ^ 399 ≤ (A + Q) * 10000000000 := nr_ge sm (by decide) u1
  have s2 : (A + Q) * 10000000000 < 2 ^ 476 := nr_lt sm (by decide) u2
  have s3 : 2 ^ 365 ≤ A + Q := by
    rcases Nat.lt_or_ge (A + Q) (2 ^ 365) with g | g
    · have := pm_lt (c := 399) g hT.2 (by decide)
      omega
    · exact g
  have s4 : A + Q < 2 ^ 476 := Nat.lt_of_le_of_lt (Nat.le_mul_of_pos_right _ (by decide)) s2
  obtain ⟨Z, z1, z2⟩ := addV a1 q1 (Nat.le_trans (pw_le2.mpr (by decide)) s3) (Nat.lt_trans s4 (pw_lt2.mpr (by decide)))
  exact ⟨Z, z1, nr_tr (by decide) (nr_mul 10000000000 z2) sm⟩
theorem szR {Z v : Nat} (h : nr 8 (Z * 10000000000) (v * TW)) (h0 : 0 < v) (h1 : v < 10000000000000000000000) : 2 ^ 366 ≤ Z ∧ Z < 2 ^ 440 := by
  obtain ⟨h2, h3⟩ := h
  have e1 : TW = 2 ^ 366 * 17179869184 := by rw [TW_def, show 400 = 366 + 34 by rfl, Nat.pow_add]
  have e2 : (2 : Nat) ^ 440 = TW * 1099511627776 := by rw [TW_def, show 440 = 400 + 40 by rfl, Nat.pow_add]
  have w1 : TW ≤ v * TW := Nat.le_mul_of_pos_left _ h0
  have w2 : v * TW ≤ 10000000000000000000000 * TW := Nat.mul_le_mul_right _ (Nat.le_of_lt h1)
  have w3 := TW_pos
  rw [e2]
  generalize v * TW = y at *
  constructor
  · generalize 2 ^ 366 = t at *
    omega
  · generalize TW = t at *
    omega
/-- a power of two -/
def P2 (i : Nat) : UInt64 := UInt64.ofNat ((959 + i) * 4503599627370496)
theorem p2_a : ∀ i : Fin 128, 20 ≤ i.val → dat (P2 i.val) = .fin false 4503599627370496 ((i.val : Int) - 116) := by decide +kernel
theorem p2_d : ∀ i : Fin 127, FP.dmul (P2 i.val) 4611686018427387904 = P2 (i.val + 1) := by decide +kernel
theorem p2_h : ∀ i : Fin 127, FP.ddiv (P2 (i.val + 1)) 4611686018427387904 = P2 i.val := by decide +kernel
theorem p2_p : ∀ k : Fin 5, 2 ≤ k.val → ∀ i : Fin 128, 40 ≤ i.val → i.val ≤ 90 → dat (pwN (P2 i.val) (k.val - 1) (P2 i.val)) = .fin false 4503599627370496 ((k.val : Int) * ((i.val : Int) - 64) - 52) := by decide +kernel
theorem p2_v {i : Nat} (h : 40 ≤ i ∧ i ≤ 90) : NV (P2 i) (2 ^ (i + 336)) := by
  refine ⟨4503599627370496, (i : Int) - 116, p2_a ⟨i, by omega⟩ (by show 20 ≤ i; omega), by decide, by omega, ?_⟩
  rw [show 4503599627370496 = 2 ^ 52 by decide, ← Nat.pow_add]
  congr 1
  omega
theorem p2_w {k i : Nat} (hk : 2 ≤ k ∧ k ≤ 4) (h : 40 ≤ i ∧ i ≤ 90) : NV (pwN (P2 i) (k - 1) (P2 i)) (2 ^ (k * i + 400 - 64 * k)) := by
  refine ⟨4503599627370496, (k : Int) * ((i : Int) - 64) - 52, p2_p ⟨k, by omega⟩ (by show 2 ≤ k; omega) ⟨i, by omega⟩ (by show 40 ≤ i; omega) (by show i ≤ 90; omega), by decide, ?_, ?_⟩
  · rcases (show k = 2 ∨ k = 3 ∨ k = 4 by omega) with rfl | rfl | rfl <;> omega
  · rw [show 4503599627370496 = 2 ^ 52 by decide, ← Nat.pow_add]
    congr 1
    rcases (show k = 2 ∨ k = 3 ∨ k = 4 by omega) with rfl | rfl | rfl <;> omega
theorem gdoV {k : Nat} {z : UInt64} {Z : Nat} (hk : 2 ≤ k ∧ k ≤ 4) (hz : NV z Z) (z2 : Z < 2 ^ 441) : ∀ n i : Nat, 64 ≤ i → i ≤ 90 → i + n = 128 → ∃ j : Nat, i ≤ j ∧ j ≤ 90 ∧ gdo z (k - 1) n (P2 i) = P2 j ∧ Z ≤ 2 ^ (k * j + 400 - 64 * k) := by
  intro n
  induction n with
  | zero =>
    intro i h1 h2 h3
    omega
  | succ n ih =>
    intro i h1 h2 h3
    have eD : gdo z (k - 1) (n + 1) (P2 i) = if FP.dcmp (pwN (P2 i) (k - 1) (P2 i)) z = some .lt then gdo z (k - 1) n (FP.dmul (P2 i) 4611686018427387904) else P2 i := rfl
    rw [eD]
    have cv := cmpV (p2_w hk (i := i) (by omega)) hz
    by_cases g : FP.dcmp (pwN (P2 i) (k - 1) (P2 i)) z = some .lt
    · rw [if_pos g, p2_d ⟨i, by omega⟩]
      have c := Nat.lt_trans (cv.1.mp g) z2
      rw [pw_lt2] at c
      have i84 : i ≤ 84 := by rcases (show k = 2 ∨ k = 3 ∨ k = 4 by omega) with rfl | rfl | rfl <;> omega
      obtain ⟨j, j1, j2, j3, j4⟩ := ih (i + 1) (by omega) (by omega) (by omega)
      exact ⟨j, by omega, j2, j3, j4⟩
    · rw [if_neg g]
      exact ⟨i, Nat.le_refl _, h2, rfl, Nat.le_of_not_lt (fun h => g (cv.1.mpr h))⟩
theorem ghaV {k : Nat} {z : UInt64} {Z : Nat} (hk : 2 ≤ k ∧ k ≤ 4) (hz : NV z Z) (z1 : 2 ^ 365 ≤ Z) : ∀ n i : Nat, 47 ≤ i → i ≤ 90 → i ≤ 26 + n → Z ≤ 2 ^ (k * i + 400 - 64 * k) → ∃ j : Nat, 47 ≤ j ∧ j ≤ 90 ∧ gha z (k - 1) n (P2 i) = P2 j ∧ Z ≤ 2 ^ (k * j + 400 - 64 * k) ∧ 2 ^ (k * (j - 1) + 400 - 64 * k) ≤ Z := by
  intro n
  induction n with
  | zero =>
    intro i h1 h2 h3
    omega
  | succ n ih =>
    intro i h1 h2 h3 h4
    have eD : gha z (k - 1) (n + 1) (P2 i) = if FP.dcmp (pwN (FP.ddiv (P2 i) 4611686018427387904) (k - 1) (FP.ddiv (P2 i) 4611686018427387904)) z = some .gt then gha z (k - 1) n (FP.ddiv (P2 i) 4611686018427387904) else P2 i := rfl
    have eH : FP.ddiv (P2 i) 4611686018427387904 = P2 (i - 1) := by
      have := p2_h ⟨i - 1, by omega⟩
      rw [show i - 1 + 1 = i by omega] at this
      exact this
    rw [eD, eH]
    have cv := cmpV (p2_w hk (i := i - 1) (by omega)) hz
    by_cases g : FP.dcmp (pwN (P2 (i - 1)) (k - 1) (P2 (i - 1))) z = some .gt
    · rw [if_pos g]
      have c1 := cv.2.mp g
      have c := Nat.lt_of_le_of_lt z1 c1
      rw [pw_lt2] at c
      have i48 : 48 ≤ i := by rcases (show k = 2 ∨ k = 3 ∨ k = 4 by omega) with rfl | rfl | rfl <;> omega
      exact ih (i - 1) (by omega) (by omega) (by omega) (Nat.le_of_lt c1)
    · rw [if_neg g]
      exact ⟨i, h1, h2, rfl, h4, Nat.le_of_not_lt (fun h => g (cv.2.mpr h))⟩
theorem one_p2 : (4607182418800017408 : UInt64) = P2 64 := by decide +kernel
/-- where the steps begin -/
theorem gs0V {k : Nat} {z : UInt64} {Z : Nat} (hk : 2 ≤ k ∧ k ≤ 4) (hz : NV z Z) (z1 : 2 ^ 365 ≤ Z) (z2 : Z < 2 ^ 441) : ∃ j : Nat, (47 ≤ j ∧ j ≤ 90) ∧ NV (gs0 k z) (2 ^ (j + 336)) ∧ Z * TW ^ (k - 1) ≤ (2 ^ (j + 336)) ^ k ∧ (2 ^ (j + 335)) ^ k ≤ Z * TW ^ (k - 1) := by
  obtain ⟨i, i1, i2, i3, i4⟩ := gdoV hk hz z2 64 64 (by decide) (by decide) rfl
  obtain ⟨j, j1, j2, j3, j4, j5⟩ := ghaV hk hz z1 64 i (by omega) i2 (by omega) i4
  have e : gs0 k z = P2 j := by
    unfold gs0
    rw [one_p2, i3, j3]
  rw [e]
  have eT : TW ^ (k - 1) = 2 ^ (400 * (k - 1)) := by rw [TW_def, ← Nat.pow_mul]
  refine ⟨j, ⟨j1, j2⟩, p2_v (by omega), ?_, ?_⟩
  · have w := Nat.mul_le_mul_right (2 ^ (400 * (k - 1))) j4
    rw [← Nat.pow_add] at w
    rw [eT, ← Nat.pow_mul]
    refine Nat.le_trans w (pw_le2.mpr ?_)
    rcases (show k = 2 ∨ k = 3 ∨ k = 4 by omega) with rfl | rfl | rfl <;> omega
  · have w := Nat.mul_le_mul_right (2 ^ (400 * (k - 1))) j5
    rw [← Nat.pow_add] at w
    rw [eT, ← Nat.pow_mul]
    refine Nat.le_trans (pw_le2.mpr ?_) w
    rcases (show k = 2 ∨ k = 3 ∨ k = 4 by omega) with rfl | rfl | rfl <;> omega
end DBLS
