/-! DOUBLES by their values: the operations. -/
section DBLW
theorem tw_ex : ∃ T : Nat, T = 2 ^ 400 := ⟨_, rfl⟩
/-- the unit of values -/
noncomputable def TW : Nat := Classical.choose tw_ex
theorem TW_def : TW = 2 ^ 400 := Classical.choose_spec tw_ex
theorem TW_pos : 0 < TW := by rw [TW_def]; exact two_pos 400
/-- a double's value -/
def NV (x : UInt64) (X : Nat) : Prop := ∃ (c : Nat) (q : Int), dat x = .fin false c q ∧ (4503599627370496 ≤ c ∧ c < 9007199254740992) ∧ (-300 ≤ q ∧ q ≤ 200) ∧ X = c * 2 ^ (q + 400).toNat
/-- near, by so many parts of 2^53 -/
def nr (k A B : Nat) : Prop := 9007199254740992 * A ≤ (9007199254740992 + k) * B ∧ 9007199254740992 * B ≤ (9007199254740992 + k) * A
theorem nr_rr {A B : Nat} (h1 : 9007199254740992 * A ≤ 9007199254740993 * B) (h2 : 9007199254740991 * B ≤ 9007199254740992 * A) : nr 2 A B := by
  unfold nr
  omega
theorem nr_tr {j k A B C : Nat} (hj : j ≤ 1000000 ∧ k ≤ 1000000) (h1 : nr j A B) (h2 : nr k B C) : nr (j + k + 1) A C := by
  obtain ⟨a1, a2⟩ := h1
  obtain ⟨b1, b2⟩ := h2
  have jk : j * k ≤ 1000000 * 1000000 := Nat.mul_le_mul hj.1 hj.2
  constructor
  · have m1 := Nat.mul_le_mul_left 9007199254740992 a1
    have m2 := Nat.mul_le_mul_left (9007199254740992 + j) b1
    have e1 : 9007199254740992 * ((9007199254740992 + j) * B) = (9007199254740992 + j) * (9007199254740992 * B) := Nat.mul_left_comm ..
    have e2 : (9007199254740992 + j) * ((9007199254740992 + k) * C) = (9007199254740992 * 9007199254740992 + 9007199254740992 * j + 9007199254740992 * k + j * k) * C := by
      rw [← Nat.mul_assoc]
      congr 1
      rw [Nat.add_mul, Nat.mul_add, Nat.mul_add, Nat.mul_comm j 9007199254740992]
      omega
    have e3 : (9007199254740992 * 9007199254740992 + 9007199254740992 * j + 9007199254740992 * k + j * k) * C ≤ (9007199254740992 * (9007199254740992 + (j + k + 1))) * C := Nat.mul_le_mul_right _ (by omega)
    have e4 : 9007199254740992 * (9007199254740992 * A) ≤ 9007199254740992 * ((9007199254740992 + (j + k + 1)) * C) := by
      rw [← Nat.mul_assoc 9007199254740992 (9007199254740992 + (j + k + 1)) C]
      omega
    exact Nat.le_of_mul_le_mul_left e4 (by decide)
  · have m1 := Nat.mul_le_mul_left 9007199254740992 b2
    have m2 := Nat.mul_le_mul_left (9007199254740992 + k) a2
    have e1 : 9007199254740992 * ((9007199254740992 + k) * B) = (9007199254740992 + k) * (9007199254740992 * B) := Nat.mul_left_comm ..
    have e2 : (9007199254740992 + k) * ((9007199254740992 + j) * A) = (9007199254740992 * 9007199254740992 + 9007199254740992 * j + 9007199254740992 * k + j * k) * A := by
      rw [← Nat.mul_assoc]
      congr 1
      rw [Nat.add_mul, Nat.mul_add, Nat.mul_add, Nat.mul_comm k j, Nat.mul_comm k 9007199254740992]
      omega
    have e3 : (9007199254740992 * 9007199254740992 + 9007199254740992 * j + 9007199254740992 * k + j * k) * A ≤ (9007199254740992 * (9007199254740992 + (j + k + 1))) * A := Nat.mul_le_mul_right _ (by omega)
    have e4 : 9007199254740992 * (9007199254740992 * C) ≤ 9007199254740992 * ((9007199254740992 + (j + k + 1)) * A) := by
      rw [← Nat.mul_assoc 9007199254740992 (9007199254740992 + (j + k + 1)) A]
      omega
    exact Nat.le_of_mul_le_mul_left e4 (by decide)
theorem nr_w {j k A B : Nat} (h : j ≤ k) (g : nr j A B) : nr k A B := by
  have m1 : (9007199254740992 + j) * B ≤ (9007199254740992 + k) * B := Nat.mul_le_mul_right _ (by omega)
  have m2 : (9007199254740992 + j) * A ≤ (9007199254740992 + k) * A := Nat.mul_le_mul_right _ (by omega)
  unfold nr at g ⊢
  omega
theorem nr_mul {k A B : Nat} (C : Nat) (h : nr k A B) : nr k (A * C) (B * C) := by
  obtain ⟨h1, h2⟩ := h
  constructor
  · rw [← Nat.mul_assoc, ← Nat.mul_assoc]
    exact Nat.mul_le_mul_right _ h1
  · rw [← Nat.mul_assoc, ← Nat.mul_assoc]
    exact Nat.mul_le_mul_right _ h2
theorem nr_can {k A B C : Nat} (hC : 0 < C) (h : nr k (A * C) (B * C)) : nr k A B := by
  obtain ⟨h1, h2⟩ := h
  rw [← Nat.mul_assoc, ← Nat.mul_assoc] at h1 h2
  exact ⟨Nat.le_of_mul_le_mul_right h1 hC, Nat.le_of_mul_le_mul_right h2 hC⟩
theorem nr_sym {k A B : Nat} (h : nr k A B) : nr k B A := ⟨h.2, h.1⟩
theorem lg52 {c : Nat} (h : 4503599627370496 ≤ c ∧ c < 9007199254740992) : c.log2 = 52 := by
  have h0 : c ≠ 0 := by omega
  have a : 52 ≤ c.log2 := (Nat.le_log2 h0).mpr h.1
  have b : c.log2 < 53 := (Nat.log2_lt h0).mpr h.2
  omega
theorem pw_le2 {a b : Nat} : 2 ^ a ≤ 2 ^ b ↔ a ≤ b := Nat.pow_le_pow_iff_right (by decide)
theorem pw_lt2 {a b : Nat} : 2 ^ a < 2 ^ b ↔ a < b := Nat.pow_lt_pow_iff_right (by decide)
/-- a product -/
theorem mulV {x y : UInt64} {X Y : Nat} (hx : NV x X) (hy : NV y Y) (h1 : 2 ^ 600 ≤ X * Y) (h2 : X * Y < 2 ^ 1000) : ∃ R : Nat, NV (FP.dmul x y) R ∧ nr 2 (R * TW) (X * Y) := by
  obtain ⟨c, q, d1, hc, hq, rfl⟩ := hx
  obtain ⟨d, r, d2, hd, hr, rfl⟩ := hy
  have cd0 : c * d ≠ 0 := Nat.mul_ne_zero (by omega) (by omega)
  have lg := lg_mul (a := c) (b := d) (by omega) (by omega)
  rw [lg52 hc, lg52 hd] at lg
  have hl : Jvm.FP.Core.leading (c * d) 1 = ((c * d).log2 : Int) := lead_1 cd0
  have eN : c * 2 ^ (q + 400).toNat * (d * 2 ^ (r + 400).toNat) = c * d * 2 ^ (q + r + ((800 : Nat) : Int)).toNat := by
    rw [Nat.mul_assoc, Nat.mul_left_comm (2 ^ _) d, ← Nat.pow_add, ← Nat.mul_assoc]
    congr 2
    omega
  have a1 := Nat.log2_self_le cd0
  have a2 : c * d < 2 ^ ((c * d).log2 + 1) := Nat.lt_log2_self
  generalize hg : (c * d).log2 = g at *
  rw [eN] at h1 h2
  have b1 : q + r + 800 + (g : Int) + 1 > 600 := by
    have m : 2 ^ 600 < 2 ^ (g + 1) * 2 ^ (q + r + ((800 : Nat) : Int)).toNat := Nat.lt_of_le_of_lt h1 (Nat.mul_lt_mul_of_pos_right a2 (two_pos _))
    rw [← Nat.pow_add, pw_lt2] at m
    omega
  have b2 : q + r + 800 + (g : Int) < 1000 := by
    have m : 2 ^ g * 2 ^ (q + r + ((800 : Nat) : Int)).toNat < 2 ^ 1000 := Nat.lt_of_le_of_lt (Nat.mul_le_mul_right _ a1) h2
    rw [← Nat.pow_add, pw_lt2] at m
    omega
  obtain ⟨c', q', e1, e2, e3, e4, e5⟩ := rr_v (num := c * d) (den := 1) (W := 800) (e := q + r) cd0 (by decide) (by omega) (by rw [hl]; omega) (by rw [hl]; omega)
  rw [hl] at e3
  rw [Nat.mul_one] at e4 e5
  have eR : c' * 2 ^ (q' + ((800 : Nat) : Int)).toNat = c' * 2 ^ (q' + 400).toNat * TW := by
    rw [TW_def, Nat.mul_assoc, ← Nat.pow_add]
    congr 2
    omega
  rw [eR] at e4 e5
  refine ⟨c' * 2 ^ (q' + 400).toNat, ⟨c', q', ?_, e2, by omega, rfl⟩, ?_⟩
  · rw [dat_mul, d1, d2]
    exact e1
  · rw [eN]
    exact nr_rr e4 e5
/-- a quotient -/
theorem divV {x y : UInt64} {X Y : Nat} (hx : NV x X) (hy : NV y Y) (h1 : Y ≤ X * 2 ^ 150) (h2 : X ≤ Y * 2 ^ 100) : ∃ R : Nat, NV (FP.ddiv x y) R ∧ nr 2 (R * Y) (X * TW) := by
  obtain ⟨c, q, d1, hc, hq, rfl⟩ := hx
  obtain ⟨d, r, d2, hd, hr, rfl⟩ := hy
  have c0 : c ≠ 0 := by omega
  have d0 : d ≠ 0 := by omega
  obtain ⟨l1, l2⟩ := lead_v c0 d0
  have hl : Jvm.FP.Core.leading c d = 0 ∨ Jvm.FP.Core.leading c d = -1 := by
    unfold Jvm.FP.Core.leading
    simp only []
    rw [lg52 hc, lg52 hd]
    split
    · exact Or.inl (by omega)
    · exact Or.inr (by omega)
  have b1 : r ≤ q + 152 := by
    have m : 2 ^ 52 * 2 ^ (r + 400).toNat < 2 ^ 53 * 2 ^ (q + 400).toNat * 2 ^ 150 := by
      refine Nat.lt_of_le_of_lt (Nat.le_trans (Nat.mul_le_mul_right _ hd.1) h1) ?_
      exact Nat.mul_lt_mul_of_pos_right (Nat.mul_lt_mul_of_pos_right hc.2 (two_pos _)) (two_pos _)
    rw [← Nat.pow_add, ← Nat.pow_add, ← Nat.pow_add, pw_lt2] at m
    omega
  have b2 : q ≤ r + 102 := by
    have m : 2 ^ 52 * 2 ^ (q + 400).toNat < 2 ^ 53 * 2 ^ (r + 400).toNat * 2 ^ 100 := by
      refine Nat.lt_of_le_of_lt (Nat.le_trans (Nat.mul_le_mul_right _ hc.1) h2) ?_
      exact Nat.mul_lt_mul_of_pos_right (Nat.mul_lt_mul_of_pos_right hd.2 (two_pos _)) (two_pos _)
    rw [← Nat.pow_add, ← Nat.pow_add, ← Nat.pow_add, pw_lt2] at m
    omega
  obtain ⟨c', q', e1, e2, e3, e4, e5⟩ := rr_v (num := c) (den := d) (W := 800) (e := q - r) c0 d0 (by omega) (by rcases hl with h | h <;> rw [h] <;> omega) (by rcases hl with h | h <;> rw [h] <;> omega)
  have hq' : -300 ≤ q' ∧ q' ≤ 200 := by rcases hl with h | h <;> rw [h] at e3 <;> omega
  have eR : c' * 2 ^ (q' + ((800 : Nat) : Int)).toNat = c' * 2 ^ (q' + 400).toNat * TW := by
    rw [TW_def, Nat.mul_assoc, ← Nat.pow_add]
    congr 2
    omega
  have eN : c * 2 ^ (q - r + ((800 : Nat) : Int)).toNat * 2 ^ (r + 400).toNat = c * 2 ^ (q + 400).toNat * TW * TW := by
    rw [TW_def, Nat.mul_assoc, ← Nat.pow_add, Nat.mul_assoc, Nat.mul_assoc, ← Nat.pow_add, ← Nat.pow_add]
    congr 2
    omega
  rw [eR] at e4 e5
  have n0 := nr_mul (2 ^ (r + 400).toNat) (nr_rr e4 e5)
  rw [eN] at n0
  refine ⟨c' * 2 ^ (q' + 400).toNat, ⟨c', q', ?_, e2, hq', rfl⟩, ?_⟩
  · rw [dat_div, d1, d2]
    show fnm (if d = 0 then (if c = 0 then .nan else .inf (false != false)) else Jvm.FP.Core.roundRatio Jvm.FP.Core.b64 (false != false) c d (q - r)) = _
    rw [if_neg d0]
    exact e1
  · refine nr_can (C := TW) TW_pos ?_
    have e6 : c' * 2 ^ (q' + 400).toNat * (d * 2 ^ (r + 400).toNat) * TW = c' * 2 ^ (q' + 400).toNat * TW * d * 2 ^ (r + 400).toNat := by
      rw [Nat.mul_right_comm, ← Nat.mul_assoc]
    rw [e6]
    exact n0
/-- a value, or zero -/
def NZ (x : UInt64) (X : Nat) : Prop := ∃ (c : Nat) (q : Int), dat x = .fin false c q ∧ (((4503599627370496 ≤ c ∧ c < 9007199254740992) ∧ (-300 ≤ q ∧ q ≤ 200) ∧ X = c * 2 ^ (q + 400).toNat) ∨ (c = 0 ∧ q = -1074 ∧ X = 0))
theorem NZ_V {x : UInt64} {X : Nat} (h : NV x X) : NZ x X := by
  obtain ⟨c, q, h1, h2⟩ := h
  exact ⟨c, q, h1, Or.inl h2⟩
theorem NZ_u {c X : Nat} {q m : Int} (hm : m ≤ q ∧ -1074 ≤ m) (h : (((4503599627370496 ≤ c ∧ c < 9007199254740992) ∧ (-300 ≤ q ∧ q ≤ 200) ∧ X = c * 2 ^ (q + 400).toNat) ∨ (c = 0 ∧ q = -1074 ∧ X = 0))) : Jvm.FP.Core.inUnits c q m * 2 ^ (m + ((1100 : Nat) : Int)).toNat = X * 2 ^ 700 := by
  unfold Jvm.FP.Core.inUnits
  rcases h with ⟨h1, h2, rfl⟩ | ⟨rfl, h2, rfl⟩
  · rw [Nat.mul_assoc, ← Nat.pow_add, Nat.mul_assoc, ← Nat.pow_add]
    congr 2
    omega
  · rw [Nat.zero_mul, Nat.zero_mul, Nat.zero_mul]
/-- a sum -/
theorem addV {x y : UInt64} {X Y : Nat} (hx : NZ x X) (hy : NZ y Y) (h1 : 2 ^ 250 ≤ X + Y) (h2 : X + Y < 2 ^ 500) : ∃ R : Nat, NV (FP.dadd x y) R ∧ nr 2 R (X + Y) := by
  obtain ⟨c, q, d1, hc⟩ := hx
  obtain ⟨d, r, d2, hd⟩ := hy
  have hqr : -1074 ≤ q ∧ -1074 ≤ r := by omega
  have u1 := NZ_u (m := min q r) (by omega) hc
  have u2 := NZ_u (m := min q r) (by omega) hd
  generalize ha : Jvm.FP.Core.inUnits c q (min q r) = a at *
  generalize hb : Jvm.FP.Core.inUnits d r (min q r) = b at *
  have hm : -1074 ≤ min q r := by omega
  generalize hmm : min q r = m at *
  have uN : (a + b) * 2 ^ (m + ((1100 : Nat) : Int)).toNat = (X + Y) * 2 ^ 700 := by rw [Nat.add_mul, u1, u2, Nat.add_mul]
  have ab0 : a + b ≠ 0 := by
    intro h
    rw [h, Nat.zero_mul] at uN
    have p1 : 0 < X + Y := Nat.lt_of_lt_of_le (two_pos 250) h1
    have p2 := Nat.mul_pos p1 (two_pos 700)
    omega
  have hl : Jvm.FP.Core.leading (a + b) 1 = ((a + b).log2 : Int) := lead_1 ab0
  have a1 := Nat.log2_self_le ab0
  have a2 : a + b < 2 ^ ((a + b).log2 + 1) := Nat.lt_log2_self
  generalize hg : (a + b).log2 = g at *
  have b1 : m + 1100 + (g : Int) + 1 > 950 := by
    have w : 2 ^ 250 * 2 ^ 700 < 2 ^ (g + 1) * 2 ^ (m + ((1100 : Nat) : Int)).toNat := by
      refine Nat.lt_of_le_of_lt (Nat.mul_le_mul_right _ h1) ?_
      rw [← uN]
      exact Nat.mul_lt_mul_of_pos_right a2 (two_pos _)
    rw [← Nat.pow_add, ← Nat.pow_add, pw_lt2] at w
    omega
  have b2 : m + 1100 + (g : Int) < 1200 := by
    have w : 2 ^ g * 2 ^ (m + ((1100 : Nat) : Int)).toNat < 2 ^ 500 * 2 ^ 700 := by
      refine Nat.lt_of_le_of_lt (Nat.mul_le_mul_right _ a1) ?_
      rw [uN]
      exact Nat.mul_lt_mul_of_pos_right h2 (two_pos _)
    rw [← Nat.pow_add, ← Nat.pow_add, pw_lt2] at w
    omega
  obtain ⟨c', q', e1, e2, e3, e4, e5⟩ := rr_v (num := a + b) (den := 1) (W := 1100) (e := m) ab0 (by decide) (by omega) (by rw [hl]; omega) (by rw [hl]; omega)
  rw [hl] at e3
  rw [Nat.mul_one] at e4 e5
  have eR : c' * 2 ^ (q' + ((1100 : Nat) : Int)).toNat = c' * 2 ^ (q' + 400).toNat * 2 ^ 700 := by
    rw [Nat.mul_assoc, ← Nat.pow_add]
    congr 2
    omega
  rw [eR, uN] at e4 e5
  refine ⟨c' * 2 ^ (q' + 400).toNat, ⟨c', q', ?_, e2, by omega, rfl⟩, nr_can (two_pos 700) (nr_rr e4 e5)⟩
  rw [dat_add, d1, d2]
  show fnm (Jvm.FP.Core.roundRatio Jvm.FP.Core.b64 (Jvm.FP.Core.sumSign false false (Jvm.FP.Core.sumUnits false c q false d r (min q r))) (Jvm.FP.Core.sumUnits false c q false d r (min q r)).natAbs 1 (min q r)) = _
  have es : Jvm.FP.Core.sumUnits false c q false d r m = ((a + b : Nat) : Int) := by
    show ((Jvm.FP.Core.inUnits c q m : Nat) : Int) + ((Jvm.FP.Core.inUnits d r m : Nat) : Int) = _
    rw [ha, hb]
    omega
  rw [hmm, es, Int.natAbs_natCast]
  have eg : Jvm.FP.Core.sumSign false false ((a + b : Nat) : Int) = false := by
    unfold Jvm.FP.Core.sumSign
    rw [if_neg (by omega)]
    exact decide_eq_false (by omega)
  rw [eg]
  exact e1
/-- a long as a double -/
theorem l2dV {x : Int64} {w : Nat} (hw : x.toInt = (w : Int)) : ∃ R : Nat, NZ (FP.l2d x) R ∧ nr 2 R (w * TW) ∧ (w = 0 → R = 0) := by
  have hlt : w < 9223372036854775808 := by have := Int64.toInt_lt x; omega
  by_cases h0 : w = 0
  · subst h0
    refine ⟨0, ⟨0, -1074, ?_, Or.inr ⟨rfl, rfl, rfl⟩⟩, ?_, fun _ => rfl⟩
    · rw [dat_l2d, hw]
      rfl
    · rw [Nat.zero_mul]
      exact ⟨Nat.le_refl _, Nat.le_refl _⟩
  · have hl : Jvm.FP.Core.leading w 1 = (w.log2 : Int) := lead_1 h0
    have lgw : w.log2 < 63 := (Nat.log2_lt h0).mpr hlt
    obtain ⟨c', q', e1, e2, e3, e4, e5⟩ := rr_v (num := w) (den := 1) (W := 400) (e := 0) h0 (by decide) (by omega) (by rw [hl]; omega) (by rw [hl]; omega)
    rw [hl] at e3
    rw [Nat.mul_one] at e4 e5
    have eT : 2 ^ ((0 : Int) + ((400 : Nat) : Int)).toNat = TW := by rw [TW_def]; rfl
    rw [eT] at e4 e5
    refine ⟨c' * 2 ^ (q' + 400).toNat, ⟨c', q', ?_, Or.inl ⟨e2, by omega, rfl⟩⟩, nr_rr e4 e5, fun h => absurd h h0⟩
    rw [dat_l2d, hw]
    show fnm (Jvm.FP.Core.roundRatio Jvm.FP.Core.b64 (decide ((w : Int) < 0)) ((w : Int)).natAbs 1 0) = _
    rw [Int.natAbs_natCast, decide_eq_false (show ¬ (w : Int) < 0 by omega)]
    exact e1
theorem NV_Z {x : UInt64} {X : Nat} (h : NZ x X) (h0 : X ≠ 0) : NV x X := by
  obtain ⟨c, q, h1, h2⟩ := h
  rcases h2 with h2 | ⟨_, _, h3⟩
  · exact ⟨c, q, h1, h2⟩
  · exact absurd h3 h0
/-- the order of values -/
theorem cmpV {x y : UInt64} {X Y : Nat} (hx : NV x X) (hy : NV y Y) : (FP.dcmp x y = some .lt ↔ X < Y) ∧ (FP.dcmp x y = some .gt ↔ Y < X) := by
  obtain ⟨c, q, d1, hc, hq, rfl⟩ := hx
  obtain ⟨d, r, d2, hd, hr, rfl⟩ := hy
  have e0 : FP.dcmp x y = Jvm.FP.Core.order (dat x) (dat y) := rfl
  rw [e0, d1, d2]
  have u1 : Jvm.FP.Core.inUnits c q (min q r) * 2 ^ (min q r + 400).toNat = c * 2 ^ (q + 400).toNat := by
    unfold Jvm.FP.Core.inUnits
    rw [Nat.mul_assoc, ← Nat.pow_add]
    congr 2
    omega
  have u2 : Jvm.FP.Core.inUnits d r (min q r) * 2 ^ (min q r + 400).toNat = d * 2 ^ (r + 400).toNat := by
    unfold Jvm.FP.Core.inUnits
    rw [Nat.mul_assoc, ← Nat.pow_add]
    congr 2
    omega
  show (some (compareOfLessAndEq ((Jvm.FP.Core.inUnits c q (min q r) : Nat) : Int) ((Jvm.FP.Core.inUnits d r (min q r) : Nat) : Int)) = some Ordering.lt ↔ _) ∧ (some (compareOfLessAndEq ((Jvm.FP.Core.inUnits c q (min q r) : Nat) : Int) ((Jvm.FP.Core.inUnits d r (min q r) : Nat) : Int)) = some Ordering.gt ↔ _)
  rw [← u1, ← u2, Nat.mul_lt_mul_right (two_pos _), Nat.mul_lt_mul_right (two_pos _)]
  generalize Jvm.FP.Core.inUnits c q (min q r) = a
  generalize Jvm.FP.Core.inUnits d r (min q r) = b
  unfold compareOfLessAndEq
  by_cases g : (a : Int) < (b : Int)
  · rw [if_pos g]
    exact ⟨⟨fun _ => by omega, fun _ => rfl⟩, ⟨fun h => (by cases h), fun h => by omega⟩⟩
  · rw [if_neg g]
    by_cases g2 : (a : Int) = (b : Int)
    · rw [if_pos g2]
      exact ⟨⟨fun h => (by cases h), fun h => by omega⟩, ⟨fun h => (by cases h), fun h => by omega⟩⟩
    · rw [if_neg g2]
      exact ⟨⟨fun h => (by cases h), fun h => by omega⟩, ⟨fun _ => by omega, fun _ => rfl⟩⟩
/-- a value cut to a whole one -/
theorem d2lV {x : UInt64} {X : Nat} (hx : NV x X) (h : X / TW < 9223372036854775808) : (FP.d2l x).toInt = ((X / TW : Nat) : Int) := by
  obtain ⟨c, q, d1, hc, hq, rfl⟩ := hx
  have e0 : FP.d2l x = Jvm.FP.Core.toL (dat x) := rfl
  rw [e0, d1]
  have et : c * 2 ^ q.toNat / 2 ^ (-q).toNat = c * 2 ^ (q + 400).toNat / TW := by
    rw [TW_def]
    rcases Int.lt_or_le q 0 with g | g
    · rw [show q.toNat = 0 by omega, Nat.pow_zero, Nat.mul_one]
      have e1 : (2 : Nat) ^ 400 = 2 ^ (-q).toNat * 2 ^ (q + 400).toNat := by
        rw [← Nat.pow_add]
        congr 1
        omega
      rw [e1, Nat.mul_div_mul_right _ _ (two_pos _)]
    · rw [show (-q).toNat = 0 by omega, Nat.pow_zero, Nat.div_one, show (q + 400).toNat = q.toNat + 400 by omega, Nat.pow_add, ← Nat.mul_assoc, Nat.mul_div_cancel _ (two_pos _)]
  show (Int64.ofInt (max (-2 ^ 63) (min (2 ^ 63 - 1) (((c * 2 ^ q.toNat / 2 ^ (-q).toNat : Nat)) : Int)))).toInt = _
  rw [et]
  generalize c * 2 ^ (q + 400).toNat / TW = g at *
  have e2 : max (-2 ^ 63) (min (2 ^ 63 - 1) ((g : Nat) : Int)) = (g : Int) := by omega
  rw [e2]
  exact Int64.toInt_ofInt_of_le (by omega) (by omega)
end DBLW
