/-! DOUBLES by their values: one rounding. -/
section DBLV
theorem two_pos (k : Nat) : 0 < 2 ^ k := Nat.pow_pos (by decide)
/-- the leading digit -/
theorem lead_v {num den : Nat} (hn : num ≠ 0) (hd : den ≠ 0) : den * 2 ^ (Jvm.FP.Core.leading num den).toNat ≤ num * 2 ^ (-(Jvm.FP.Core.leading num den)).toNat ∧ num * 2 ^ (-(Jvm.FP.Core.leading num den + 1)).toNat < den * 2 ^ (Jvm.FP.Core.leading num den + 1).toNat := by
  have a1 := Nat.log2_self_le hn
  have a2 : num < 2 ^ (num.log2 + 1) := Nat.lt_log2_self
  have b1 := Nat.log2_self_le hd
  have b2 : den < 2 ^ (den.log2 + 1) := Nat.lt_log2_self
  unfold Jvm.FP.Core.leading
  simp only []
  generalize num.log2 = p at *
  generalize den.log2 = r at *
  have key : ∀ (x y z w : Nat), x ≤ y → z ≤ w → x * z ≤ y * w := fun x y z w h1 h2 => Nat.mul_le_mul h1 h2
  split
  · rename_i h
    refine ⟨h, ?_⟩
    rcases Nat.lt_or_ge p r with g | g
    · rw [show (-((p : Int) - (r : Int) + 1)).toNat = r - p - 1 by omega, show ((p : Int) - (r : Int) + 1).toNat = 0 by omega, Nat.pow_zero, Nat.mul_one]
      have h1 : num * 2 ^ (r - p - 1) < 2 ^ (p + 1) * 2 ^ (r - p - 1) := Nat.mul_lt_mul_of_pos_right a2 (two_pos _)
      rw [← Nat.pow_add, show p + 1 + (r - p - 1) = r by omega] at h1
      omega
    · rw [show (-((p : Int) - (r : Int) + 1)).toNat = 0 by omega, show ((p : Int) - (r : Int) + 1).toNat = p - r + 1 by omega, Nat.pow_zero, Nat.mul_one]
      have h1 : 2 ^ r * 2 ^ (p - r + 1) ≤ den * 2 ^ (p - r + 1) := Nat.mul_le_mul_right _ b1
      rw [← Nat.pow_add, show r + (p - r + 1) = p + 1 by omega] at h1
      omega
  · rename_i h
    rw [show (p : Int) - (r : Int) - 1 + 1 = (p : Int) - (r : Int) by omega]
    refine ⟨?_, by omega⟩
    rcases Nat.lt_or_ge r p with g | g
    · rw [show (-((p : Int) - (r : Int) - 1)).toNat = 0 by omega, show ((p : Int) - (r : Int) - 1).toNat = p - r - 1 by omega, Nat.pow_zero, Nat.mul_one]
      have h1 : den * 2 ^ (p - r - 1) ≤ 2 ^ (r + 1) * 2 ^ (p - r - 1) := Nat.mul_le_mul_right _ (Nat.le_of_lt b2)
      rw [← Nat.pow_add, show r + 1 + (p - r - 1) = p by omega] at h1
      omega
    · rw [show (-((p : Int) - (r : Int) - 1)).toNat = r - p + 1 by omega, show ((p : Int) - (r : Int) - 1).toNat = 0 by omega, Nat.pow_zero, Nat.mul_one]
      have h1 : 2 ^ p * 2 ^ (r - p + 1) ≤ num * 2 ^ (r - p + 1) := Nat.mul_le_mul_right _ a1
      rw [← Nat.pow_add, show p + (r - p + 1) = r + 1 by omega] at h1
      omega
theorem near_v {a b : Nat} (hb : 0 < b) : 2 * (Jvm.FP.Core.nearest a b * b) ≤ 2 * a + b ∧ 2 * a ≤ 2 * (Jvm.FP.Core.nearest a b * b) + b := by
  have e := Nat.div_add_mod a b
  have m := Nat.mod_lt a hb
  rw [Nat.mul_comm] at e
  unfold Jvm.FP.Core.nearest
  generalize a / b * b = w at *
  split
  · have : a / b * b = a - a % b := by have := Nat.div_add_mod a b; rw [Nat.mul_comm] at this; omega
    omega
  · split
    · have : a / b * b = a - a % b := by have := Nat.div_add_mod a b; rw [Nat.mul_comm] at this; omega
      rw [Nat.add_mul, Nat.one_mul]
      omega
    · have : a / b * b = a - a % b := by have := Nat.div_add_mod a b; rw [Nat.mul_comm] at this; omega
      have h2 : a / b % 2 = 0 ∨ a / b % 2 = 1 := by omega
      rw [Nat.add_mul]
      rcases h2 with h2 | h2
      · rw [h2, Nat.zero_mul]
        omega
      · rw [h2, Nat.one_mul]
        omega
/-- a number rounded: its digits, and how near it is -/
theorem rr_v {num den W : Nat} {e : Int} (hn : num ≠ 0) (hd : den ≠ 0) (he : 0 ≤ e + (W : Int)) (hl : -1074 ≤ Jvm.FP.Core.leading num den + e - 52 ∧ Jvm.FP.Core.leading num den + e - 52 ≤ 970) (hW : 0 ≤ Jvm.FP.Core.leading num den + e - 52 + (W : Int)) : ∃ (c : Nat) (q : Int), fnm (Jvm.FP.Core.roundRatio Jvm.FP.Core.b64 false num den e) = .fin false c q ∧ (4503599627370496 ≤ c ∧ c < 9007199254740992) ∧ (q = Jvm.FP.Core.leading num den + e - 52 ∨ q = Jvm.FP.Core.leading num den + e - 51) ∧ 9007199254740992 * (c * 2 ^ (q + (W : Int)).toNat * den) ≤ 9007199254740993 * (num * 2 ^ (e + (W : Int)).toNat) ∧ 9007199254740991 * (num * 2 ^ (e + (W : Int)).toNat) ≤ 9007199254740992 * (c * 2 ^ (q + (W : Int)).toNat * den) := by
  obtain ⟨l1, l2⟩ := lead_v hn hd
  generalize hL : Jvm.FP.Core.leading num den = l at *
  have hQ : Jvm.FP.Core.quantum Jvm.FP.Core.b64 num den e = l + e - 52 := by
    unfold Jvm.FP.Core.quantum
    rw [fb_qmin, hL]
    have e1 : ((Jvm.FP.Core.b64.p : Int) - 1) = 52 := rfl
    rw [e1]
    omega
  have den0 : 0 < den := Nat.pos_of_ne_zero hd
  -- in units
  obtain ⟨a, b, ha, hb, hb0, h3, h52, h53⟩ : ∃ a b : Nat, Jvm.FP.Core.unitsNum num e (l + e - 52) = a ∧ Jvm.FP.Core.unitsDen den e (l + e - 52) = b ∧ 0 < b ∧ num * 2 ^ (e + (W : Int)).toNat * b = a * (den * 2 ^ (l + e - 52 + (W : Int)).toNat) ∧ 4503599627370496 * b ≤ a ∧ a < 9007199254740992 * b := by
    refine ⟨_, _, rfl, rfl, ?_⟩
    unfold Jvm.FP.Core.unitsNum Jvm.FP.Core.unitsDen
    rcases Int.lt_or_le 52 l with g | g
    · obtain ⟨t, ht⟩ : ∃ t : Nat, l = 52 + (t : Int) := ⟨(l - 52).toNat, by omega⟩
      have z1 : (e - (l + e - 52)).toNat = 0 := by omega
      have z2 : (l + e - 52 - e).toNat = t := by omega
      have z3 : (l + e - 52 + (W : Int)).toNat = (e + (W : Int)).toNat + t := by omega
      rw [z1, z2, z3, Nat.pow_zero, Nat.mul_one]
      rw [show l.toNat = 52 + t by omega, show (-l).toNat = 0 by omega, Nat.pow_zero, Nat.mul_one, Nat.pow_add] at l1
      rw [show (l + 1).toNat = 53 + t by omega, show (-(l + 1)).toNat = 0 by omega, Nat.pow_zero, Nat.mul_one, Nat.pow_add] at l2
      refine ⟨Nat.mul_pos den0 (two_pos _), ?_, ?_, ?_⟩
      · rw [Nat.pow_add, Nat.mul_assoc, Nat.mul_left_comm _ den]
      · rw [show (2 : Nat) ^ 52 = 4503599627370496 by decide, Nat.mul_left_comm] at l1
        exact l1
      · rw [show (2 : Nat) ^ 53 = 9007199254740992 by decide, Nat.mul_left_comm] at l2
        exact l2
    · obtain ⟨t, ht⟩ : ∃ t : Nat, l = 52 - (t : Int) := ⟨(52 - l).toNat, by omega⟩
      have z1 : (e - (l + e - 52)).toNat = t := by omega
      have z2 : (l + e - 52 - e).toNat = 0 := by omega
      have z3 : (e + (W : Int)).toNat = (l + e - 52 + (W : Int)).toNat + t := by omega
      rw [z1, z2, z3, Nat.pow_zero, Nat.mul_one]
      refine ⟨den0, ?_, ?_, ?_⟩
      · rw [Nat.pow_add, Nat.mul_assoc, Nat.mul_assoc, Nat.mul_assoc]
        congr 1
        rw [Nat.mul_comm, Nat.mul_assoc]
      · rcases Nat.lt_or_ge 52 t with g2 | g2
        · rw [show l.toNat = 0 by omega, show (-l).toNat = t - 52 by omega, Nat.pow_zero, Nat.mul_one] at l1
          have m := Nat.mul_le_mul_right 4503599627370496 l1
          rw [Nat.mul_assoc, show (4503599627370496 : Nat) = 2 ^ 52 by decide, ← Nat.pow_add, show t - 52 + 52 = t by omega] at m
          rw [Nat.mul_comm]
          exact m
        · rw [show l.toNat = 52 - t by omega, show (-l).toNat = 0 by omega, Nat.pow_zero, Nat.mul_one] at l1
          have m := Nat.mul_le_mul_right (2 ^ t) l1
          rw [Nat.mul_assoc, ← Nat.pow_add, show 52 - t + t = 52 by omega] at m
          rw [show (4503599627370496 : Nat) = 2 ^ 52 by decide, Nat.mul_comm]
          exact m
      · rcases Nat.lt_or_ge 53 t with g2 | g2
        · rw [show (l + 1).toNat = 0 by omega, show (-(l + 1)).toNat = t - 53 by omega, Nat.pow_zero, Nat.mul_one] at l2
          have m := Nat.mul_lt_mul_of_pos_right l2 (show 0 < 2 ^ 53 by decide)
          rw [Nat.mul_assoc, ← Nat.pow_add, show t - 53 + 53 = t by omega] at m
          rw [show (9007199254740992 : Nat) = 2 ^ 53 by decide, Nat.mul_comm (2 ^ 53)]
          exact m
        · rw [show (l + 1).toNat = 53 - t by omega, show (-(l + 1)).toNat = 0 by omega, Nat.pow_zero, Nat.mul_one] at l2
          have m := Nat.mul_lt_mul_of_pos_right l2 (two_pos t)
          rw [Nat.mul_assoc, ← Nat.pow_add, show 53 - t + t = 53 by omega] at m
          rw [show (9007199254740992 : Nat) = 2 ^ 53 by decide, Nat.mul_comm (2 ^ 53)]
          exact m
  have nv := near_v (a := a) hb0
  have hge : 4503599627370496 ≤ Jvm.FP.Core.nearest a b := by
    have h1 : 4503599627370496 ≤ a / b := (Nat.le_div_iff_mul_le hb0).mpr h52
    exact Nat.le_trans h1 (near_ge a b)
  have hle : Jvm.FP.Core.nearest a b ≤ 9007199254740992 := by
    refine Nat.le_of_not_lt (fun g => ?_)
    have h1 : 9007199254740993 * b ≤ Jvm.FP.Core.nearest a b * b := Nat.mul_le_mul_right b g
    omega
  -- the value
  have fin : ∀ X : Nat, X = Jvm.FP.Core.nearest a b * 2 ^ (l + e - 52 + (W : Int)).toNat → 9007199254740992 * (X * den) ≤ 9007199254740993 * (num * 2 ^ (e + (W : Int)).toNat) ∧ 9007199254740991 * (num * 2 ^ (e + (W : Int)).toNat) ≤ 9007199254740992 * (X * den) := by
    intro X hX
    have hXb : X * den * b = Jvm.FP.Core.nearest a b * b * (den * 2 ^ (l + e - 52 + (W : Int)).toNat) := by
      rw [hX, Nat.mul_assoc, Nat.mul_assoc, Nat.mul_assoc]
      congr 1
      rw [Nat.mul_left_comm, ← Nat.mul_assoc]
      exact Nat.mul_comm _ _
    generalize num * 2 ^ (e + (W : Int)).toNat = N at *
    generalize den * 2 ^ (l + e - 52 + (W : Int)).toNat = U at *
    generalize Jvm.FP.Core.nearest a b = c at *
    have m1 := Nat.mul_le_mul_right U nv.1
    have m2 := Nat.mul_le_mul_right U nv.2
    have m3 := Nat.mul_le_mul_right U h52
    rw [Nat.mul_assoc 2 (c * b) U, ← hXb, Nat.add_mul, Nat.mul_assoc 2 a U, ← h3] at m1
    rw [Nat.mul_assoc 2 a U, ← h3, Nat.add_mul, Nat.mul_assoc 2 (c * b) U, ← hXb] at m2
    rw [Nat.mul_assoc, ← h3] at m3
    constructor
    · refine Nat.le_of_mul_le_mul_right (c := b) ?_ hb0
      rw [Nat.mul_assoc, Nat.mul_assoc 9007199254740993]
      generalize X * den * b = A at *
      generalize N * b = B at *
      generalize b * U = C at *
      omega
    · refine Nat.le_of_mul_le_mul_right (c := b) ?_ hb0
      rw [Nat.mul_assoc 9007199254740991, Nat.mul_assoc 9007199254740992]
      generalize X * den * b = A at *
      generalize N * b = B at *
      generalize b * U = C at *
      omega
  unfold Jvm.FP.Core.roundRatio
  rw [if_neg hn]
  unfold Jvm.FP.Core.roundAt
  rw [hQ, ha, hb]
  unfold Jvm.FP.Core.settle Jvm.FP.Core.bound
  rw [fb_pow, fb_tails, fb_qmax]
  by_cases hc : Jvm.FP.Core.nearest a b < 9007199254740992
  · rw [if_pos hc, if_pos (by omega)]
    refine ⟨_, _, ?_, ⟨hge, hc⟩, Or.inl rfl, fin _ rfl⟩
    show (if Jvm.FP.Core.nearest a b < 4503599627370496 then Jvm.FP.Core.Datum.fin false (Jvm.FP.Core.nearest a b) (-1074) else .fin false (Jvm.FP.Core.nearest a b) (l + e - 52)) = _
    rw [if_neg (by omega)]
  · rw [if_neg hc, if_pos (by omega)]
    refine ⟨4503599627370496, l + e - 52 + 1, ?_, by decide, Or.inr (by omega), fin _ ?_⟩
    · show (if (4503599627370496 : Nat) < 4503599627370496 then Jvm.FP.Core.Datum.fin false 4503599627370496 (-1074) else .fin false 4503599627370496 (l + e - 52 + 1)) = _
      rw [if_neg (by decide)]
    · have hc2 : Jvm.FP.Core.nearest a b = 9007199254740992 := by omega
      rw [hc2, show (l + e - 52 + 1 + (W : Int)).toNat = (l + e - 52 + (W : Int)).toNat + 1 by omega, Nat.pow_succ]
      omega
end DBLV
