/-! DOUBLES as data: the operations. -/
section DBL2
/-- the datum of a double -/
def dat (x : UInt64) : Jvm.FP.Core.Datum := Jvm.FP.Core.decode Jvm.FP.Core.b64 x.toNat
theorem fb_bound (s : Bool) {c : Nat} {q : Int} (hc : c < 9007199254740992) (hq : -1074 ≤ q) : Jvm.FP.Core.bound Jvm.FP.Core.b64 s c q = .inf s ∨ ∃ c' q', Jvm.FP.Core.bound Jvm.FP.Core.b64 s c q = .fin s c' q' ∧ (c' < 9007199254740992 ∧ -1074 ≤ q' ∧ q' ≤ 971) := by
  unfold Jvm.FP.Core.bound
  rw [fb_qmax]
  by_cases h : q ≤ 971
  · rw [if_pos h]
    exact Or.inr ⟨c, q, rfl, hc, hq, h⟩
  · rw [if_neg h]
    exact Or.inl rfl
theorem fb_settle (s : Bool) {c : Nat} {q : Int} (hq : -1074 ≤ q) : Jvm.FP.Core.settle Jvm.FP.Core.b64 s c q = .inf s ∨ ∃ c' q', Jvm.FP.Core.settle Jvm.FP.Core.b64 s c q = .fin s c' q' ∧ (c' < 9007199254740992 ∧ -1074 ≤ q' ∧ q' ≤ 971) := by
  unfold Jvm.FP.Core.settle
  rw [fb_pow, fb_tails]
  by_cases h : c < 9007199254740992
  · rw [if_pos h]
    exact fb_bound s h hq
  · rw [if_neg h]
    exact fb_bound s (by decide) (by omega)
theorem fb_rr (s : Bool) (num den : Nat) (e : Int) : Jvm.FP.Core.roundRatio Jvm.FP.Core.b64 s num den e = .inf s ∨ ∃ c' q', Jvm.FP.Core.roundRatio Jvm.FP.Core.b64 s num den e = .fin s c' q' ∧ (c' < 9007199254740992 ∧ -1074 ≤ q' ∧ q' ≤ 971) := by
  unfold Jvm.FP.Core.roundRatio
  by_cases h : num = 0
  · rw [if_pos h, fb_qmin]
    exact Or.inr ⟨0, -1074, rfl, by decide⟩
  · rw [if_neg h]
    unfold Jvm.FP.Core.roundAt
    refine fb_settle s ?_
    unfold Jvm.FP.Core.quantum
    rw [fb_qmin]
    exact Int.le_max_left _ _
theorem fok_rr (s : Bool) (num den : Nat) (e : Int) : fok (Jvm.FP.Core.roundRatio Jvm.FP.Core.b64 s num den e) ∧ Jvm.FP.Core.roundRatio Jvm.FP.Core.b64 s num den e ≠ .nan := by
  rcases fb_rr s num den e with h | ⟨c, q, h, h1⟩
  · rw [h]
    exact ⟨trivial, fun q => by cases q⟩
  · rw [h]
    exact ⟨h1, fun q => by cases q⟩
theorem fok_round (d : Jvm.FP.Core.Datum) : fok (Jvm.FP.Core.round Jvm.FP.Core.b64 d) ∧ (d ≠ .nan → Jvm.FP.Core.round Jvm.FP.Core.b64 d ≠ .nan) := by
  cases d with
  | nan => exact ⟨trivial, fun h => absurd rfl h⟩
  | inf s => exact ⟨trivial, fun h => fun q => by cases q⟩
  | fin s c q => exact ⟨(fok_rr s c 1 q).1, fun _ => (fok_rr s c 1 q).2⟩
theorem fok_quot (d e : Jvm.FP.Core.Datum) : fok (Jvm.FP.Core.quotient Jvm.FP.Core.b64 d e) := by
  cases d with
  | nan => trivial
  | inf s => cases e <;> trivial
  | fin s c q =>
    cases e with
    | nan => trivial
    | inf t =>
      show 0 < 9007199254740992 ∧ -1074 ≤ Jvm.FP.Core.b64.qmin ∧ Jvm.FP.Core.b64.qmin ≤ 971
      rw [fb_qmin]
      decide
    | fin t d r =>
      show fok (if d = 0 then (if c = 0 then .nan else .inf (s != t)) else Jvm.FP.Core.roundRatio Jvm.FP.Core.b64 (s != t) c d (q - r))
      split
      · split <;> trivial
      · exact (fok_rr _ _ _ _).1
theorem dat_of {d : Jvm.FP.Core.Datum} (h : fok d) : dat (UInt64.ofNat (Jvm.FP.Core.encode Jvm.FP.Core.b64 d)) = fnm d := by
  obtain ⟨h1, h2⟩ := fb_enc h
  unfold dat
  rw [UInt64.toNat_ofNat_of_lt' h2]
  exact h1
theorem dat_mul (x y : UInt64) : dat (FP.dmul x y) = fnm (Jvm.FP.Core.round Jvm.FP.Core.b64 (Jvm.FP.Core.exactProduct (dat x) (dat y))) := dat_of (fok_round _).1
theorem dat_add (x y : UInt64) : dat (FP.dadd x y) = fnm (Jvm.FP.Core.round Jvm.FP.Core.b64 (Jvm.FP.Core.exactSum (dat x) (dat y))) := dat_of (fok_round _).1
theorem dat_div (x y : UInt64) : dat (FP.ddiv x y) = fnm (Jvm.FP.Core.quotient Jvm.FP.Core.b64 (dat x) (dat y)) := dat_of (fok_quot _ _)
theorem dat_i2d (x : Int32) : dat (FP.i2d x) = fnm (Jvm.FP.Core.round Jvm.FP.Core.b64 (Jvm.FP.Core.ofInt x.toInt)) := dat_of (fok_round _).1
theorem dat_l2d (x : Int64) : dat (FP.l2d x) = fnm (Jvm.FP.Core.round Jvm.FP.Core.b64 (Jvm.FP.Core.ofInt x.toInt)) := dat_of (fok_round _).1
theorem fnm_nan {d : Jvm.FP.Core.Datum} (h : d ≠ .nan) : fnm d ≠ .nan := by
  cases d with
  | nan => exact absurd rfl h
  | inf s => exact h
  | fin s c q =>
    show (if c < 4503599627370496 then Jvm.FP.Core.Datum.fin s c (-1074) else .fin s c q) ≠ .nan
    split <;> exact fun q => by cases q
theorem dat_vf {r : UInt64} (h : dat r ≠ .nan) : vf_n64 r := by
  unfold vf_n64
  rw [UInt64.le_iff_toNat_le, UInt64.toNat_and]
  show r.toNat &&& 9223372036854775807 ≤ 9218868437227405312
  rw [show r.toNat &&& 9223372036854775807 = r.toNat % 9223372036854775808 from Nat.and_two_pow_sub_one_eq_mod r.toNat 63]
  refine Nat.le_of_not_lt (fun g => h ?_)
  have hn : r.toNat < 18446744073709551616 := r.toNat_lt
  unfold dat
  generalize r.toNat = n at g hn
  have e1 : n / 4503599627370496 % 2048 = 2047 := by omega
  have e2 : ¬ n % 4503599627370496 = 0 := by omega
  unfold Jvm.FP.Core.decode Jvm.FP.Core.fieldE Jvm.FP.Core.fieldT
  rw [fb_tails, fb_exps, if_pos e1, if_neg e2]
end DBL2
