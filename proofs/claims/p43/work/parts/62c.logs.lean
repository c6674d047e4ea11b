/-! DOUBLES as data: magnitudes by binary logarithms. -/
section DBL3
theorem lead_le (num den : Nat) : Jvm.FP.Core.leading num den ≤ (num.log2 : Int) - (den.log2 : Int) := by
  unfold Jvm.FP.Core.leading
  simp only []
  split <;> omega
theorem rr_fin (s : Bool) {num den : Nat} {e K : Int} (hK : -1074 ≤ K ∧ K ≤ 970) (h : (num.log2 : Int) - (den.log2 : Int) + e - 52 ≤ K) : ∃ c' q', Jvm.FP.Core.roundRatio Jvm.FP.Core.b64 s num den e = .fin s c' q' ∧ (c' < 9007199254740992 ∧ -1074 ≤ q' ∧ q' ≤ K + 1) := by
  unfold Jvm.FP.Core.roundRatio
  by_cases h0 : num = 0
  · rw [if_pos h0, fb_qmin]
    exact ⟨0, -1074, rfl, by decide, by decide, by omega⟩
  · rw [if_neg h0]
    unfold Jvm.FP.Core.roundAt
    have hl := lead_le num den
    have hQ : -1074 ≤ Jvm.FP.Core.quantum Jvm.FP.Core.b64 num den e ∧ Jvm.FP.Core.quantum Jvm.FP.Core.b64 num den e ≤ K := by
      unfold Jvm.FP.Core.quantum
      rw [fb_qmin]
      have e1 : ((Jvm.FP.Core.b64.p : Int) - 1) = 52 := rfl
      rw [e1]
      omega
    generalize Jvm.FP.Core.quantum Jvm.FP.Core.b64 num den e = Q at hQ
    generalize Jvm.FP.Core.nearest _ _ = c
    unfold Jvm.FP.Core.settle Jvm.FP.Core.bound
    rw [fb_pow, fb_tails, fb_qmax]
    by_cases hc : c < 9007199254740992
    · rw [if_pos hc, if_pos (by omega)]
      exact ⟨c, Q, rfl, hc, hQ.1, by omega⟩
    · rw [if_neg hc, if_pos (by omega)]
      exact ⟨_, Q + 1, rfl, by decide, by omega, by omega⟩
theorem rr_inf {s t : Bool} {num den : Nat} {e : Int} (h : Jvm.FP.Core.roundRatio Jvm.FP.Core.b64 s num den e = .inf t) : 971 ≤ (num.log2 : Int) - (den.log2 : Int) + e - 52 := by
  refine Int.not_lt.mp (fun g => ?_)
  obtain ⟨c, q, h1, -⟩ := rr_fin s (num := num) (den := den) (e := e) (K := 970) (by decide) (by omega)
  rw [h1] at h
  cases h
theorem lg_mul {a b : Nat} (ha : a ≠ 0) (hb : b ≠ 0) : a.log2 + b.log2 ≤ (a * b).log2 ∧ (a * b).log2 ≤ a.log2 + b.log2 + 1 := by
  have h0 : a * b ≠ 0 := Nat.mul_ne_zero ha hb
  constructor
  · rw [Nat.le_log2 h0, Nat.pow_add]
    exact Nat.mul_le_mul (Nat.log2_self_le ha) (Nat.log2_self_le hb)
  · refine Nat.le_of_lt_succ ((Nat.log2_lt h0).mpr ?_)
    have h1 : a < 2 ^ (a.log2 + 1) := Nat.lt_log2_self
    have h2 : b < 2 ^ (b.log2 + 1) := Nat.lt_log2_self
    have h3 : a * b < 2 ^ (a.log2 + 1) * 2 ^ (b.log2 + 1) := Nat.mul_lt_mul_of_le_of_lt (Nat.le_of_lt h1) h2 (Nat.pow_pos (by decide))
    rw [← Nat.pow_add] at h3
    exact Nat.lt_of_lt_of_le h3 (Nat.pow_le_pow_right (by decide) (by omega))
theorem lead_1 {num : Nat} (h : num ≠ 0) : Jvm.FP.Core.leading num 1 = (num.log2 : Int) := by
  unfold Jvm.FP.Core.leading
  simp only []
  have e1 : ((num.log2 : Int) - ((1 : Nat).log2 : Int)) = (num.log2 : Int) := by
    have : (1 : Nat).log2 = 0 := by decide
    omega
  rw [e1, if_pos]
  have e2 : ((num.log2 : Nat) : Int).toNat = num.log2 := rfl
  have e3 : (-((num.log2 : Nat) : Int)).toNat = 0 := by omega
  rw [e2, e3, Nat.one_mul, Nat.pow_zero, Nat.mul_one]
  exact Nat.log2_self_le h
/-- at least one -/
def Big (d : Jvm.FP.Core.Datum) : Prop := match d with
  | .nan => False
  | .inf _ => True
  | .fin _ c q => c ≠ 0 ∧ 0 ≤ (c.log2 : Int) + q
theorem near_ge (a b : Nat) : a / b ≤ Jvm.FP.Core.nearest a b := by
  unfold Jvm.FP.Core.nearest
  split
  · exact Nat.le_refl _
  · split
    · exact Nat.le_succ _
    · exact Nat.le_add_right _ _
/-- what is at least one stays so when rounded -/
theorem rr_big {s : Bool} {num : Nat} {e : Int} (h0 : num ≠ 0) (h : 0 ≤ (num.log2 : Int) + e) : Big (fnm (Jvm.FP.Core.roundRatio Jvm.FP.Core.b64 s num 1 e)) := by
  unfold Jvm.FP.Core.roundRatio
  rw [if_neg h0]
  unfold Jvm.FP.Core.roundAt
  have hQ : Jvm.FP.Core.quantum Jvm.FP.Core.b64 num 1 e = (num.log2 : Int) + e - 52 := by
    unfold Jvm.FP.Core.quantum
    rw [fb_qmin, lead_1 h0]
    have e1 : ((Jvm.FP.Core.b64.p : Int) - 1) = 52 := rfl
    rw [e1]
    omega
  rw [hQ]
  have hc : 4503599627370496 ≤ Jvm.FP.Core.nearest (Jvm.FP.Core.unitsNum num e ((num.log2 : Int) + e - 52)) (Jvm.FP.Core.unitsDen 1 e ((num.log2 : Int) + e - 52)) := by
    refine Nat.le_trans ?_ (near_ge _ _)
    unfold Jvm.FP.Core.unitsNum Jvm.FP.Core.unitsDen
    rw [Nat.one_mul]
    refine (Nat.le_div_iff_mul_le (Nat.pow_pos (by decide))).mpr ?_
    have e2 : (4503599627370496 : Nat) = 2 ^ 52 := by decide
    rw [e2, ← Nat.pow_add]
    refine Nat.le_trans ?_ (Nat.mul_le_mul_right _ (Nat.log2_self_le h0))
    rw [← Nat.pow_add]
    exact Nat.pow_le_pow_right (by decide) (by omega)
  generalize Jvm.FP.Core.nearest _ _ = c at hc
  unfold Jvm.FP.Core.settle Jvm.FP.Core.bound
  rw [fb_pow, fb_tails, fb_qmax]
  have l1 : ∀ c : Nat, 4503599627370496 ≤ c → 52 ≤ c.log2 := fun c h => (Nat.le_log2 (by omega)).mpr h
  have k1 : ∀ (c : Nat) (q : Int), 4503599627370496 ≤ c → -52 ≤ q → Big (fnm (if q ≤ 971 then Jvm.FP.Core.Datum.fin s c q else .inf s)) := by
    intro c q h1 h2
    by_cases h3 : q ≤ 971
    · rw [if_pos h3]
      show Big (if c < 4503599627370496 then Jvm.FP.Core.Datum.fin s c (-1074) else .fin s c q)
      rw [if_neg (by omega)]
      have := l1 c h1
      exact ⟨by omega, by omega⟩
    · rw [if_neg h3]
      trivial
  by_cases h9 : c < 9007199254740992
  · rw [if_pos h9]
    exact k1 _ _ hc (by omega)
  · rw [if_neg h9]
    exact k1 _ _ (by decide) (by omega)
end DBL3
