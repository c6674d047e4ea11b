/-! A number told by so many digits, as the class does and as the model does. -/
/-- a power of 10, as a whole number -/
noncomputable def TT (k : Nat) : Int := ((tn k : Nat) : Int)
theorem TT_pos (k : Nat) : 0 < TT k := Int.ofNat_lt.mpr (tn_pos k)
theorem TT_add (a b : Nat) : TT (a + b) = TT a * TT b := by
  unfold TT
  rw [tn_add]
  exact Int.natCast_mul _ _
theorem TT_10 : TT 10 = 10000000000 := by
  unfold TT
  rw [tn_10]
  rfl
theorem TT_le10 {k : Nat} (h : k ≤ 10) : TT k ≤ 10000000000 := by
  have h1 := tn_mono h
  rw [tn_10] at h1
  unfold TT
  omega
/-- the low bound, and the high one, of X / 10^s told by D digits, in parts of 10^10 -/
noncomputable def nlo (D s : Nat) (X : Int) : Int := if s ≤ D then X * TT (10 - s) else X / TT (s - D) * TT (10 - D)
noncomputable def nhi (D s : Nat) (X : Int) : Int := if s ≤ D then X * TT (10 - s) else X / TT (s - D) * TT (10 - D) + (if X % TT (s - D) = 0 then 0 else TT (10 - D))
/-- the part that the class takes, and whether there is more -/
noncomputable def tkp (s : Nat) (X : Int) : Int := if s ≤ 10 then X % TT s * TT (10 - s) else X % TT s / TT (s - 10)
noncomputable def tkr (s : Nat) (X : Int) : Int := if s ≤ 10 then 0 else if X % TT s % TT (s - 10) = 0 then 0 else 1
theorem tkr_r (s : Nat) (X : Int) : 0 ≤ tkr s X ∧ tkr s X ≤ 1 := by
  unfold tkr
  split
  · omega
  · split <;> omega
theorem tkp_r {s : Nat} {X : Int} : 0 ≤ tkp s X ∧ tkp s X < 10000000000 := by
  have h1 := Int.emod_nonneg X (Int.ne_of_gt (TT_pos s))
  have h2 := Int.emod_lt_of_pos X (TT_pos s)
  unfold tkp
  split
  · rename_i h
    have e : TT s * TT (10 - s) = 10000000000 := by rw [← TT_add, show s + (10 - s) = 10 by omega, TT_10]
    have h3 := Int.mul_lt_mul_of_pos_right h2 (TT_pos (10 - s))
    have h4 := Int.mul_nonneg h1 (Int.le_of_lt (TT_pos (10 - s)))
    rw [e] at h3
    exact ⟨h4, h3⟩
  · rename_i h
    have e : 10000000000 * TT (s - 10) = TT s := by rw [← TT_10, ← TT_add, show 10 + (s - 10) = s by omega]
    refine ⟨Int.ediv_nonneg h1 (Int.le_of_lt (TT_pos _)), Int.ediv_lt_of_lt_mul (TT_pos _) ?_⟩
    rw [e]
    exact h2
theorem vmul3 (q a v r : Int) : q * (a * v) + r * v = (r + a * q) * v := by
  rw [Int.add_mul, Int.add_comm, Int.mul_comm a q, Int.mul_assoc]
/-- the class's floor of ten digits -/
theorem tk_V {s : Nat} {X : Int} : (s ≤ 10 → X / TT s * 10000000000 + tkp s X = X * TT (10 - s)) ∧ (¬ s ≤ 10 → X / TT s * 10000000000 + tkp s X = X / TT (s - 10)) := by
  have hx := Int.emod_add_mul_ediv X (TT s)
  refine ⟨fun h => ?_, fun h => ?_⟩
  · have e : TT s * TT (10 - s) = 10000000000 := by rw [← TT_add, show s + (10 - s) = 10 by omega, TT_10]
    unfold tkp
    rw [if_pos h, ← e, vmul3, hx]
  · have e : TT (s - 10) * 10000000000 = TT s := by rw [← TT_10, ← TT_add, show s - 10 + 10 = s by omega]
    unfold tkp
    rw [if_neg h]
    have h2 : X / TT (s - 10) = (X % TT s + TT (s - 10) * (10000000000 * (X / TT s))) / TT (s - 10) := by
      rw [← Int.mul_assoc, e, hx]
    rw [h2, Int.add_mul_ediv_left _ _ (Int.ne_of_gt (TT_pos _)), Int.mul_comm, Int.add_comm]
/-- rounded down and up by a unit -/
theorem rd_eq {V p q u : Int} (hu : 0 < u) (hV : V = q * 10000000000 + p) (hd : u ∣ 10000000000) : V - p % u = V / u * u ∧ p % u = V % u := by
  obtain ⟨k, hk⟩ := hd
  have h1 : V % u = p % u := by
    rw [hV, hk, show q * (u * k) + p = p + u * (q * k) by rw [Int.add_comm, Int.mul_left_comm]]
    exact Int.add_mul_emod_self_left _ _ _
  have h2 := Int.emod_add_mul_ediv V u
  rw [Int.mul_comm] at h2
  exact ⟨by omega, h1.symm⟩
theorem TT_dvd {D : Nat} (h : D ≤ 10) : TT (10 - D) ∣ 10000000000 := ⟨TT D, by rw [← TT_add, show 10 - D + D = 10 by omega, TT_10]⟩
theorem emod_mul_z {X g u : Int} (hg : 0 < g) (hu : 0 < u) : X % (g * u) = X % g + g * (X / g % u) := by
  have h1 := Int.emod_add_mul_ediv X g
  have h2 := Int.emod_add_mul_ediv (X / g) u
  have a1 := Int.emod_nonneg X (Int.ne_of_gt hg)
  have a2 := Int.emod_lt_of_pos X hg
  have b1 := Int.emod_nonneg (X / g) (Int.ne_of_gt hu)
  have b2 := Int.emod_lt_of_pos (X / g) hu
  refine ((Int.ediv_emod_unique (q := X / g / u) (Int.mul_pos hg hu)).mpr ⟨?_, ?_, ?_⟩).2
  · have e : g * (X / g % u) + g * u * (X / g / u) = g * (X / g) := by rw [Int.mul_assoc, ← Int.mul_add, h2]
    omega
  · have := Int.mul_nonneg (Int.le_of_lt hg) b1
    omega
  · have h3 : g * (X / g % u + 1) ≤ g * u := Int.mul_le_mul_of_nonneg_left (by omega) (Int.le_of_lt hg)
    rw [Int.mul_add, Int.mul_one] at h3
    omega
/-- what the class tells -/
theorem tk_lo {D s : Nat} {X : Int} (hD : D ≤ 10) : X / TT s * 10000000000 + tkp s X - tkp s X % TT (10 - D) = nlo D s X := by
  obtain ⟨v1, v2⟩ := tk_V (s := s) (X := X)
  have hu := TT_pos (10 - D)
  have hr := (rd_eq (V := X / TT s * 10000000000 + tkp s X) hu rfl (TT_dvd hD)).1
  rw [hr]
  unfold nlo
  by_cases h1 : s ≤ D
  · rw [if_pos h1, v1 (by omega), show 10 - s = (D - s) + (10 - D) by omega, TT_add, ← Int.mul_assoc, Int.mul_ediv_cancel _ (Int.ne_of_gt hu)]
  · rw [if_neg h1]
    congr 1
    by_cases h2 : s ≤ 10
    · rw [v1 h2, show 10 - D = (10 - s) + (s - D) by omega, TT_add, Int.mul_comm X]
      exact Int.mul_ediv_mul_of_pos _ _ (TT_pos _)
    · rw [v2 h2, Int.ediv_ediv_of_nonneg (Int.le_of_lt (TT_pos _)), ← TT_add, show s - 10 + (10 - D) = s - D by omega]
theorem tk_z {D s : Nat} {X : Int} (hD : D ≤ 10) : (tkp s X % TT (10 - D) = 0 ∧ tkr s X = 0) ↔ (s ≤ D ∨ X % TT (s - D) = 0) := by
  obtain ⟨v1, v2⟩ := tk_V (s := s) (X := X)
  have hu := TT_pos (10 - D)
  have hr := (rd_eq (V := X / TT s * 10000000000 + tkp s X) hu rfl (TT_dvd hD)).2
  rw [hr]
  by_cases h1 : s ≤ D
  · refine ⟨fun _ => Or.inl h1, fun _ => ⟨?_, ?_⟩⟩
    · rw [v1 (by omega), show 10 - s = (D - s) + (10 - D) by omega, TT_add, ← Int.mul_assoc, Int.mul_emod_left]
    · unfold tkr
      rw [if_pos (by omega)]
  · by_cases h2 : s ≤ 10
    · have e : X * TT (10 - s) % TT (10 - D) = TT (10 - s) * (X % TT (s - D)) := by
        rw [show 10 - D = (10 - s) + (s - D) by omega, TT_add, Int.mul_comm X]
        exact Int.mul_emod_mul_of_pos _ _ (TT_pos _)
      have hr0 : tkr s X = 0 := by
        unfold tkr
        rw [if_pos h2]
      rw [v1 h2, e, hr0]
      refine ⟨fun q => Or.inr ?_, fun q => ⟨?_, rfl⟩⟩
      · rcases Int.mul_eq_zero.mp q.1 with g | g
        · exact absurd g (Int.ne_of_gt (TT_pos _))
        · exact g
      · rcases q with q | q
        · exact absurd q h1
        · rw [q, Int.mul_zero]
    · have hg := TT_pos (s - 10)
      have e := emod_mul_z (X := X) hg hu
      rw [← TT_add, show s - 10 + (10 - D) = s - D by omega] at e
      have a1 := Int.emod_nonneg X (Int.ne_of_gt hg)
      have b1 := Int.emod_nonneg (X / TT (s - 10)) (Int.ne_of_gt hu)
      have hm : X % TT s % TT (s - 10) = X % TT (s - 10) := Int.emod_emod_of_dvd _ ⟨TT 10, by rw [← TT_add, show s - 10 + 10 = s by omega]⟩
      have hr0 : tkr s X = 0 ↔ X % TT (s - 10) = 0 := by
        unfold tkr
        rw [if_neg h2, hm]
        split
        · rename_i g
          exact ⟨fun _ => g, fun _ => rfl⟩
        · rename_i g
          exact ⟨fun q => absurd q (by decide), fun q => absurd q g⟩
      rw [v2 h2, hr0]
      refine ⟨fun q => Or.inr ?_, fun q => ?_⟩
      · rw [e, q.1, q.2, Int.mul_zero]
        rfl
      · rcases q with q | q
        · exact absurd q h1
        · have m := Int.mul_nonneg (Int.le_of_lt hg) b1
          have m0 : TT (s - 10) * (X / TT (s - 10) % TT (10 - D)) = 0 := by omega
          refine ⟨?_, by omega⟩
          rcases Int.mul_eq_zero.mp m0 with g | g
          · exact absurd g (Int.ne_of_gt hg)
          · exact g
theorem tk_hi {D s : Nat} {X : Int} (hD : D ≤ 10) : X / TT s * 10000000000 + tkp s X + gup (TT (10 - D)) (tkp s X) (tkr s X) = nhi D s X := by
  have hl := tk_lo (s := s) (X := X) hD
  have hz := tk_z (s := s) (X := X) hD
  unfold gup
  unfold nlo at hl
  unfold nhi
  by_cases h : tkp s X % TT (10 - D) = 0 ∧ tkr s X = 0
  · rw [if_pos h]
    rw [h.1] at hl
    rcases hz.mp h with q | q
    · rw [if_pos q] at hl ⊢
      omega
    · by_cases g : s ≤ D
      · rw [if_pos g] at hl ⊢
        omega
      · rw [if_neg g] at hl ⊢
        rw [if_pos q]
        omega
  · rw [if_neg h]
    have g1 : ¬ s ≤ D := fun q => h (hz.mpr (Or.inl q))
    have g2 : ¬ X % TT (s - D) = 0 := fun q => h (hz.mpr (Or.inr q))
    rw [if_neg g1] at hl ⊢
    rw [if_neg g2]
    omega
/-- what the model tells -/
theorem neg_div {x c : Int} (hc : 0 < c) : (x % c = 0 → -x / c = -(x / c) ∧ -x % c = 0) ∧ (x % c ≠ 0 → -x / c = -(x / c) - 1 ∧ -x % c ≠ 0) := by
  have h := Int.emod_add_mul_ediv x c
  have a1 := Int.emod_nonneg x (Int.ne_of_gt hc)
  have a2 := Int.emod_lt_of_pos x hc
  refine ⟨fun q => ?_, fun q => ?_⟩
  · refine (Int.ediv_emod_unique hc).mpr ⟨?_, Int.le_refl _, hc⟩
    rw [Int.mul_neg]
    omega
  · have g := (Int.ediv_emod_unique (a := -x) (r := c - x % c) (q := -(x / c) - 1) hc).mpr ⟨by rw [Int.mul_sub, Int.mul_neg, Int.mul_one]; omega, by omega, by omega⟩
    exact ⟨g.1, by omega⟩
theorem nb_lo {D s x : Nat} {ib X : Int} (hD : D ≤ 10) (h : (ib = 0 ∧ X = (x : Int)) ∨ (ib = 1 ∧ X = -(x : Int))) : nbv 0 D s x ib = nlo D s X ∧ nbv 1 D s x ib = nhi D s X := by
  have hc := TT_pos (s - D)
  have hdv : ((x / tn (s - D) : Nat) : Int) = (x : Int) / TT (s - D) := rfl
  have hmv : ((x % tn (s - D) : Nat) : Int) = (x : Int) % TT (s - D) := rfl
  have hn := neg_div (x := (x : Int)) hc
  unfold nbv nlo nhi nbt nbf tlu
  by_cases h1 : s ≤ D
  · have e : ((x * tn (D - s) * tn (10 - D) : Nat) : Int) = (x : Int) * TT (10 - s) := by
      rw [Int.natCast_mul, Int.natCast_mul, Int.mul_assoc]
      congr 1
      show TT (D - s) * TT (10 - D) = TT (10 - s)
      rw [← TT_add, show D - s + (10 - D) = 10 - s by omega]
    simp only [if_pos h1]
    rcases h with ⟨rfl, rfl⟩ | ⟨rfl, rfl⟩
    · rw [if_neg (show ¬ (0 : Int) = 1 by decide), if_neg (show ¬ (0 : Int) = 1 by decide), if_neg (show ¬ ((0 : Int) = 1 ∧ (0 : Int) ≠ 0) by decide), if_neg (show ¬ ((0 : Int) = 1 ∧ (1 : Int) ≠ 0) by decide), Nat.add_zero, e]
      exact ⟨rfl, rfl⟩
    · rw [if_pos (show (1 : Int) = 1 from rfl), if_pos (show (1 : Int) = 1 from rfl), if_neg (show ¬ ((0 : Int) = 1 ∧ (0 : Int) ≠ 1) by decide), if_neg (show ¬ ((0 : Int) = 1 ∧ (1 : Int) ≠ 1) by decide), Nat.add_zero, e, Int.neg_mul]
      exact ⟨rfl, rfl⟩
  · simp only [if_neg h1]
    have em : ∀ t : Nat, ((t * tn (10 - D) : Nat) : Int) = (t : Int) * TT (10 - D) := fun t => Int.natCast_mul _ _
    have em1 : ∀ t : Nat, (((t + 1) * tn (10 - D) : Nat) : Int) = (t : Int) * TT (10 - D) + TT (10 - D) := fun t => by
      rw [em, Int.natCast_add, Int.add_mul]
      congr 1
      exact Int.one_mul _
    by_cases h2 : x % tn (s - D) = 0
    · have h3 : (x : Int) % TT (s - D) = 0 := by rw [← hmv, h2]; rfl
      simp only [if_pos h2]
      rcases h with ⟨rfl, rfl⟩ | ⟨rfl, rfl⟩
      · rw [if_neg (show ¬ (0 : Int) = 1 by decide), if_neg (show ¬ (0 : Int) = 1 by decide), if_neg (show ¬ ((0 : Int) = 1 ∧ (0 : Int) ≠ 0) by decide), if_neg (show ¬ ((0 : Int) = 1 ∧ (1 : Int) ≠ 0) by decide), Nat.add_zero (x / tn (s - D)), em (x / tn (s - D)), hdv, if_pos h3, Int.add_zero]
        exact ⟨rfl, rfl⟩
      · rw [if_pos (show (1 : Int) = 1 from rfl), if_pos (show (1 : Int) = 1 from rfl), if_neg (show ¬ ((0 : Int) = 1 ∧ (0 : Int) ≠ 1) by decide), if_neg (show ¬ ((0 : Int) = 1 ∧ (1 : Int) ≠ 1) by decide), Nat.add_zero (x / tn (s - D)), em (x / tn (s - D)), hdv, (hn.1 h3).1, if_pos (hn.1 h3).2, Int.add_zero, Int.neg_mul]
        exact ⟨rfl, rfl⟩
    · have h3 : ¬ (x : Int) % TT (s - D) = 0 := by
        rw [← hmv]
        intro q
        exact h2 (by omega)
      simp only [if_neg h2]
      rcases h with ⟨rfl, rfl⟩ | ⟨rfl, rfl⟩
      · rw [if_neg (show ¬ (0 : Int) = 1 by decide), if_neg (show ¬ (0 : Int) = 1 by decide), if_neg (show ¬ (True ∧ (0 : Int) ≠ 0) by decide), if_pos (show True ∧ (1 : Int) ≠ 0 by decide), Nat.add_zero (x / tn (s - D)), em (x / tn (s - D)), em1 (x / tn (s - D)), hdv, if_neg h3]
        exact ⟨rfl, rfl⟩
      · rw [if_pos (show (1 : Int) = 1 from rfl), if_pos (show (1 : Int) = 1 from rfl), if_pos (show True ∧ (0 : Int) ≠ 1 by decide), if_neg (show ¬ (True ∧ (1 : Int) ≠ 1) by decide), Nat.add_zero (x / tn (s - D)), em (x / tn (s - D)), em1 (x / tn (s - D)), hdv, (hn.2 h3).1, if_neg (hn.2 h3).2, Int.sub_mul, Int.one_mul, Int.neg_mul]
        exact ⟨by omega, by omega⟩
/-- too great -/
def FZ (z : Int) : Prop := 10000000000000000000000 ≤ z ∨ z ≤ -10000000000000000000000
theorem nb_far {up : Int} {D s x : Nat} {ib : Int} : 10000000000000000000000 ≤ tlu (nbt D s x) (nbf D s x) ib up * tn (10 - D) ↔ FZ (nbv up D s x ib) := by
  unfold FZ nbv
  generalize tlu (nbt D s x) (nbf D s x) ib up * tn (10 - D) = N
  by_cases h : ib = 1
  · simp only [if_pos h]
    omega
  · simp only [if_neg h]
    omega
