/-! DOUBLES as data: the guessed root, no NaN on its way. -/
section DBL6
def nwOK (m k z : UInt64) (j : Nat) : Nat → UInt64 → Prop
  | 0, _ => True
  | n + 1, g => (dat g ≠ .nan ∧ dat (FP.dmul m g) ≠ .nan ∧ dat (FP.ddiv z (pwN g j g)) ≠ .nan ∧ dat (FP.dadd (FP.dmul m g) (FP.ddiv z (pwN g j g))) ≠ .nan ∧ dat (nw m k z j g) ≠ .nan) ∧ nwOK m k z j n (nw m k z j g)
def nwB (m k z : UInt64) (j : Nat) : Nat → UInt64 → Bool
  | 0, _ => true
  | n + 1, g => (decide (dat g ≠ .nan) && (decide (dat (FP.dmul m g) ≠ .nan) && (decide (dat (FP.ddiv z (pwN g j g)) ≠ .nan) && (decide (dat (FP.dadd (FP.dmul m g) (FP.ddiv z (pwN g j g))) ≠ .nan) && decide (dat (nw m k z j g) ≠ .nan))))) && nwB m k z j n (nw m k z j g)
theorem nwB_ok {m k z : UInt64} {j : Nat} : ∀ (n : Nat) (g : UInt64), nwB m k z j n g = true → nwOK m k z j n g := by
  intro n
  induction n with
  | zero => intro g _; trivial
  | succ n ih =>
    intro g h
    unfold nwB at h
    simp only [Bool.and_eq_true, decide_eq_true_eq] at h
    exact ⟨h.1, ih _ h.2⟩
theorem two_fin : dat 4611686018427387904 = .fin false 4503599627370496 (-51) := by decide +kernel
theorem one_fin : dat 4607182418800017408 ≠ .nan := by decide +kernel
theorem gdo_N {z : UInt64} {j : Nat} : ∀ (n : Nat) (g : UInt64), dat g ≠ .nan → dat (gdo z j n g) ≠ .nan := by
  intro n
  induction n with
  | zero => intro g h; exact h
  | succ n ih =>
    intro g h
    unfold gdo
    split
    · exact ih _ (mulR_N two_fin (by decide) h)
    · exact h
theorem gha_N {z : UInt64} {j : Nat} : ∀ (n : Nat) (g : UInt64), dat g ≠ .nan → dat (gha z j n g) ≠ .nan := by
  intro n
  induction n with
  | zero => intro g h; exact h
  | succ n ih =>
    intro g h
    unfold gha
    split
    · exact ih _ (div_N h two_fin (by decide))
    · exact h
theorem nw_all {m k z : UInt64} {j : Nat} {s s2 s3 : Bool} {c c2 c3 : Nat} {q q2 q3 : Int} (hm : dat m = .fin s c q) (hc : c ≠ 0) (hl : (c.log2 : Int) + q ≤ 900) (hk : dat k = .fin s2 c2 q2) (hc2 : c2 ≠ 0) (hz : dat z = .fin s3 c3 q3) (hc3 : c3 ≠ 0) (hc4 : c3 < 9007199254740992) (hq : q3 ≤ 64) : ∀ (n : Nat) (g : UInt64), dat g ≠ .nan → nwOK m k z j n g := by
  intro n
  induction n with
  | zero => intro g _; trivial
  | succ n ih =>
    intro g h
    obtain ⟨h1, h2, h3, h4⟩ := nw_N (j := j) hm hc hl hk hc2 hz hc3 hc4 hq h
    exact ⟨⟨h, h1, h2, h3, h4⟩, ih _ h4⟩
theorem zero_bits {z : UInt64} {s : Bool} {q : Int} (h : dat z = .fin s 0 q) : z = 0 ∨ z = 9223372036854775808 := by
  unfold dat Jvm.FP.Core.decode at h
  rw [fb_exps, fb_qmin, fb_tails] at h
  have hn : z.toNat < 18446744073709551616 := z.toNat_lt
  split at h
  · split at h <;> cases h
  · split at h
    · rename_i e1 e2
      injection h with _ h3 _
      unfold Jvm.FP.Core.fieldE at e2
      unfold Jvm.FP.Core.fieldT at h3
      rw [fb_tails, fb_exps] at e2
      rw [fb_tails] at h3
      have e3 : z.toNat = 0 ∨ z.toNat = 9223372036854775808 := by omega
      rcases e3 with e3 | e3
      · exact Or.inl (UInt64.toNat_inj.mp e3)
      · exact Or.inr (UInt64.toNat_inj.mp e3)
    · injection h with _ h3 _
      omega
theorem nw_zero : ∀ k : Fin 10, 2 ≤ k.val → ∀ b : Bool, nwB (FP.i2d (Int32.ofNat (k.val - 1))) (FP.i2d (Int32.ofNat k.val)) (cond b 9223372036854775808 0) (k.val - 2) 10 (gs0 k.val (cond b 9223372036854775808 0)) = true := by decide +kernel
theorem ten_fin : dat (FP.l2d 10000000000) = .fin false 5242880000000000 (-19) := by decide +kernel
/-- no NaN on the way to the guessed root -/
theorem guess_N {w p : Int64} {k : Nat} (hk : 2 ≤ k ∧ k ≤ 9) : nwOK (FP.i2d (Int32.ofNat (k - 1))) (FP.i2d (Int32.ofNat k)) (szd w p) (k - 2) 10 (gs0 k (szd w p)) := by
  obtain ⟨s1, c1, q1, e1, e2, e3⟩ := l2d_fin w
  obtain ⟨s2, c2, q2, f1, f2, f3⟩ := l2d_fin p
  obtain ⟨s3, c3, q3, g1, g2, g3⟩ := div_fin f1 f2 f3 ten_fin (by decide) (by decide +kernel)
  obtain ⟨s4, c4, q4, h1, h2, h3⟩ := add_fin e1 e2 (by omega) g1 g2 g3
  have h1 : dat (szd w p) = .fin s4 c4 q4 := h1
  generalize szd w p = z at h1
  by_cases hc : c4 = 0
  · subst hc
    rcases zero_bits h1 with e | e
    · subst e
      exact nwB_ok _ _ (nw_zero ⟨k, by omega⟩ hk.1 false)
    · subst e
      exact nwB_ok _ _ (nw_zero ⟨k, by omega⟩ hk.1 true)
  · obtain ⟨s5, c5, q5, i1, i2, i3, i4⟩ := i2d_fin (Int32.ofNat (k - 1))
    obtain ⟨s6, c6, q6, j1, j2, j3, j4⟩ := i2d_fin (Int32.ofNat k)
    have t1 : (Int32.ofNat (k - 1)).toInt = ((k - 1 : Nat) : Int) := Int32.toInt_ofNat_of_lt (by omega)
    have t2 : (Int32.ofNat k).toInt = (k : Int) := Int32.toInt_ofNat_of_lt (by omega)
    refine nw_all i1 (i4 (by omega)) (i2d_lg (x := 0) (s := false) i2 i3) j1 (j4 (by omega)) h1 hc h2 h3 10 _ (gha_N _ _ (gdo_N _ _ one_fin))
end DBL6
