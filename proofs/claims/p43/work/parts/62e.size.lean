/-! DOUBLES as data: powers, one step, the size. -/
section DBL5
theorem pw_ok {b : UInt64} : ∀ (n : Nat) (r : UInt64), PJd (dat b) (dat r) → PJd (dat b) (dat (pwN b n r)) := by
  intro n
  induction n with
  | zero => intro r h; exact h
  | succ n ih => intro r h; exact ih _ (PJd_s h)
theorem pw_big {b : UInt64} (hb : Big (dat b)) : ∀ (n : Nat) (r : UInt64), Big (dat r) → Big (dat (pwN b n r)) := by
  intro n
  induction n with
  | zero => intro r h; exact h
  | succ n ih => intro r h; exact ih _ (mul_Big h hb)
/-- one step towards the root -/
theorem nw_N {m k z g : UInt64} {j : Nat} {s s2 s3 : Bool} {c c2 c3 : Nat} {q q2 q3 : Int} (hm : dat m = .fin s c q) (hc : c ≠ 0) (hl : (c.log2 : Int) + q ≤ 900) (hk : dat k = .fin s2 c2 q2) (hc2 : c2 ≠ 0) (hz : dat z = .fin s3 c3 q3) (hc3 : c3 ≠ 0) (hc4 : c3 < 9007199254740992) (hq : q3 ≤ 64) (hg : dat g ≠ .nan) :
    dat (FP.dmul m g) ≠ .nan ∧ dat (FP.ddiv z (pwN g j g)) ≠ .nan ∧ dat (FP.dadd (FP.dmul m g) (FP.ddiv z (pwN g j g))) ≠ .nan ∧ dat (FP.ddiv (FP.dadd (FP.dmul m g) (FP.ddiv z (pwN g j g))) k) ≠ .nan := by
  obtain ⟨a1, a2⟩ := step_A hm hc hl hg
  have hp := (pw_ok j g (PJd_0 hg)).2.1
  obtain ⟨b1, b2⟩ := step_B hz hc3 hc4 hq hp
  have h3 := add_N a1 b1 (fun t u e => b2 (pw_big (a2 t e) j g (a2 t e)) u)
  exact ⟨a1, b1, h3, div_N h3 hk hc2⟩
theorem int_fin {s : Bool} {n : Nat} (hn : n.log2 ≤ 63) : ∃ c q, fnm (Jvm.FP.Core.roundRatio Jvm.FP.Core.b64 s n 1 0) = .fin s c q ∧ c < 9007199254740992 ∧ q ≤ 12 ∧ (n ≠ 0 → c ≠ 0) := by
  have h4 : (1 : Nat).log2 = 0 := by decide
  obtain ⟨c, q, e, h1, h2, h3⟩ := rr_fin s (num := n) (den := 1) (e := 0) (K := 11) (by decide) (by omega)
  have hb : n ≠ 0 → Big (fnm (Jvm.FP.Core.roundRatio Jvm.FP.Core.b64 s n 1 0)) := fun h => rr_big h (by omega)
  rw [e] at hb
  rw [e]
  have e2 : fnm (.fin s c q) = (if c < 4503599627370496 then Jvm.FP.Core.Datum.fin s c (-1074) else .fin s c q) := rfl
  rw [e2] at hb
  rw [e2]
  by_cases hc : c < 4503599627370496
  · rw [if_pos hc] at hb
    rw [if_pos hc]
    exact ⟨c, -1074, rfl, h1, by decide, fun h => (hb h).1⟩
  · rw [if_neg hc] at hb
    rw [if_neg hc]
    exact ⟨c, q, rfl, h1, by omega, fun h => (hb h).1⟩
theorem lg_lt {n k : Nat} (h : n < 2 ^ (k + 1)) : n.log2 ≤ k := by
  by_cases h0 : n = 0
  · subst h0
    have : (0 : Nat).log2 = 0 := by decide
    omega
  · exact Nat.le_of_lt_succ ((Nat.log2_lt h0).mpr h)
theorem i2d_fin (x : Int32) : ∃ s c q, dat (FP.i2d x) = .fin s c q ∧ c < 9007199254740992 ∧ q ≤ 12 ∧ (x.toInt ≠ 0 → c ≠ 0) := by
  have h1 := Int32.le_toInt x
  have h2 := Int32.toInt_lt x
  obtain ⟨c, q, e, e1, e2, e3⟩ := int_fin (s := decide (x.toInt < 0)) (n := x.toInt.natAbs) (lg_lt (k := 63) (Nat.lt_of_le_of_lt (m := 2147483648) (by omega) (by decide)))
  exact ⟨_, c, q, (dat_i2d x).trans e, e1, e2, fun h => e3 (by omega)⟩
theorem l2d_fin (x : Int64) : ∃ s c q, dat (FP.l2d x) = .fin s c q ∧ c < 9007199254740992 ∧ q ≤ 12 := by
  have h1 := Int64.le_toInt x
  have h2 := Int64.toInt_lt x
  obtain ⟨c, q, e, e1, e2, e3⟩ := int_fin (s := decide (x.toInt < 0)) (n := x.toInt.natAbs) (lg_lt (k := 63) (Nat.lt_of_le_of_lt (m := 9223372036854775808) (by omega) (by decide)))
  exact ⟨_, c, q, (dat_l2d x).trans e, e1, e2⟩
theorem i2d_lg {x : Int32} {s : Bool} {c : Nat} {q : Int} (h1 : c < 9007199254740992) (h2 : q ≤ 12) : (c.log2 : Int) + q ≤ 900 := by
  have := lg_lt (n := c) (k := 52) h1
  omega
theorem fnm_fin {s : Bool} {c : Nat} {q K : Int} (hK : -1074 ≤ K) (hc : c < 9007199254740992) (hq : q ≤ K) : ∃ q', fnm (.fin s c q) = .fin s c q' ∧ c < 9007199254740992 ∧ q' ≤ K := by
  have e2 : fnm (.fin s c q) = (if c < 4503599627370496 then Jvm.FP.Core.Datum.fin s c (-1074) else .fin s c q) := rfl
  rw [e2]
  by_cases h : c < 4503599627370496
  · rw [if_pos h]
    exact ⟨-1074, rfl, hc, hK⟩
  · rw [if_neg h]
    exact ⟨q, rfl, hc, hq⟩
theorem div_fin {x y : UInt64} {s t : Bool} {c d : Nat} {q r : Int} (hx : dat x = .fin s c q) (hc : c < 9007199254740992) (hq : q ≤ 12) (hy : dat y = .fin t d r) (hd : d ≠ 0) (hr : 0 ≤ (d.log2 : Int) + r) : ∃ u c' q', dat (FP.ddiv x y) = .fin u c' q' ∧ c' < 9007199254740992 ∧ q' ≤ 13 := by
  have hl := lg_lt (n := c) (k := 52) hc
  obtain ⟨c', q', e, h1, h2, h3⟩ := rr_fin (s != t) (num := c) (den := d) (e := q - r) (K := 12) (by decide) (by omega)
  obtain ⟨q2, g1, g2, g3⟩ := fnm_fin (s := (s != t)) (K := 13) (by decide) h1 h3
  refine ⟨(s != t), c', q2, ?_, g2, g3⟩
  rw [dat_div, hx, hy]
  have e1 : Jvm.FP.Core.quotient Jvm.FP.Core.b64 (.fin s c q) (.fin t d r) = Jvm.FP.Core.roundRatio Jvm.FP.Core.b64 (s != t) c d (q - r) := by
    show (if d = 0 then (if c = 0 then Jvm.FP.Core.Datum.nan else .inf (s != t)) else Jvm.FP.Core.roundRatio Jvm.FP.Core.b64 (s != t) c d (q - r)) = _
    rw [if_neg hd]
  rw [e1, e]
  exact g1
theorem units_lt {c : Nat} {q e : Int} (hc : c < 9007199254740992) (hq : q ≤ 13) (he : e ≤ q) : Jvm.FP.Core.inUnits c q e < 2 ^ (66 - e).toNat := by
  unfold Jvm.FP.Core.inUnits
  have h1 : c * 2 ^ (q - e).toNat < 2 ^ 53 * 2 ^ (q - e).toNat := Nat.mul_lt_mul_of_pos_right (Nat.lt_of_lt_of_le hc (by decide)) (Nat.pow_pos (by decide))
  rw [← Nat.pow_add] at h1
  exact Nat.lt_of_lt_of_le h1 (Nat.pow_le_pow_right (by decide) (by omega))
theorem add_fin {x y : UInt64} {s t : Bool} {c d : Nat} {q r : Int} (hx : dat x = .fin s c q) (hc : c < 9007199254740992) (hq : q ≤ 13) (hy : dat y = .fin t d r) (hd : d < 9007199254740992) (hr : r ≤ 13) : ∃ u c' q', dat (FP.dadd x y) = .fin u c' q' ∧ c' < 9007199254740992 ∧ q' ≤ 64 := by
  have hm : min q r ≤ q ∧ min q r ≤ r ∧ min q r ≤ 13 := by omega
  have h1 := units_lt hc hq hm.1
  have h2 := units_lt hd hr hm.2.1
  have h3 : (Jvm.FP.Core.sumUnits s c q t d r (min q r)).natAbs < 2 ^ ((66 - min q r).toNat + 1) := by
    unfold Jvm.FP.Core.sumUnits Jvm.FP.Core.signed
    rw [Nat.pow_succ]
    generalize 2 ^ (66 - min q r).toNat = P at h1 h2
    split <;> split <;> omega
  have h4 := lg_lt h3
  have h5 : (1 : Nat).log2 = 0 := by decide
  obtain ⟨c', q', e, g1, g2, g3⟩ := rr_fin (Jvm.FP.Core.sumSign s t (Jvm.FP.Core.sumUnits s c q t d r (min q r))) (num := (Jvm.FP.Core.sumUnits s c q t d r (min q r)).natAbs) (den := 1) (e := min q r) (K := 63) (by decide) (by omega)
  obtain ⟨q2, k1, k2, k3⟩ := fnm_fin (s := Jvm.FP.Core.sumSign s t (Jvm.FP.Core.sumUnits s c q t d r (min q r))) (K := 64) (by decide) g1 g3
  refine ⟨Jvm.FP.Core.sumSign s t (Jvm.FP.Core.sumUnits s c q t d r (min q r)), c', q2, ?_, k2, k3⟩
  rw [dat_add, hx, hy]
  show fnm (Jvm.FP.Core.roundRatio Jvm.FP.Core.b64 _ (Jvm.FP.Core.sumUnits s c q t d r (min q r)).natAbs 1 (min q r)) = _
  rw [e]
  exact k1
end DBL5
