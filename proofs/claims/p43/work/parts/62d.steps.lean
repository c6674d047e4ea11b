/-! DOUBLES as data: where no NaN comes out. -/
section DBL4
theorem mulL_N {x y : UInt64} {s : Bool} {c : Nat} {q : Int} (hx : dat x = .fin s c q) (hc : c ≠ 0) (hy : dat y ≠ .nan) : dat (FP.dmul x y) ≠ .nan := by
  rw [dat_mul, hx]
  refine fnm_nan ((fok_round _).2 ?_)
  cases h : dat y with
  | nan => exact absurd h hy
  | inf t =>
    show (if c = 0 then Jvm.FP.Core.Datum.nan else .inf (s != t)) ≠ .nan
    rw [if_neg hc]
    exact fun q => by cases q
  | fin t d r => exact fun q => by cases q
theorem mulR_N {x y : UInt64} {s : Bool} {c : Nat} {q : Int} (hy : dat y = .fin s c q) (hc : c ≠ 0) (hx : dat x ≠ .nan) : dat (FP.dmul x y) ≠ .nan := by
  rw [dat_mul, hy]
  refine fnm_nan ((fok_round _).2 ?_)
  cases h : dat x with
  | nan => exact absurd h hx
  | inf t =>
    show (if c = 0 then Jvm.FP.Core.Datum.nan else .inf (t != s)) ≠ .nan
    rw [if_neg hc]
    exact fun q => by cases q
  | fin t d r => exact fun q => by cases q
/-- a power's parts: the base and what is made so far -/
def PJd (b r : Jvm.FP.Core.Datum) : Prop := b ≠ .nan ∧ r ≠ .nan ∧ (∀ s, b = .inf s → ∃ t, r = .inf t) ∧ (∀ s q, b = .fin s 0 q → ∃ t q', r = .fin t 0 q')
theorem PJd_0 {b : UInt64} (h : dat b ≠ .nan) : PJd (dat b) (dat b) := ⟨h, h, fun s e => ⟨s, e⟩, fun s q e => ⟨s, q, e⟩⟩
theorem PJd_s {b r : UInt64} (h : PJd (dat b) (dat r)) : PJd (dat b) (dat (FP.dmul r b)) := by
  obtain ⟨h1, h2, h3, h4⟩ := h
  cases hb : dat b with
  | nan => exact absurd hb h1
  | inf s =>
    obtain ⟨t, ht⟩ := h3 s hb
    rw [dat_mul, ht, hb]
    exact ⟨fun q => (by cases q), fun q => (by cases q), fun _ _ => ⟨t != s, rfl⟩, fun _ _ q => (by cases q)⟩
  | fin s c q =>
    by_cases hc : c = 0
    · subst hc
      obtain ⟨t, q', ht⟩ := h4 s q hb
      have e1 : dat (FP.dmul r b) = .fin (t != s) 0 (-1074) := by
        rw [dat_mul, ht, hb]
        rfl
      rw [e1]
      exact ⟨fun q => (by cases q), fun q => (by cases q), fun _ q => (by cases q), fun _ _ _ => ⟨_, _, rfl⟩⟩
    · refine ⟨fun q => (by cases q), mulR_N hb hc h2, fun _ q => (by cases q), fun s' q' e => ?_⟩
      cases e
      exact absurd rfl hc
theorem mul_Big {x y : UInt64} (hx : Big (dat x)) (hy : Big (dat y)) : Big (dat (FP.dmul x y)) := by
  rw [dat_mul]
  cases h1 : dat x with
  | nan => rw [h1] at hx; exact hx.elim
  | inf s =>
    cases h2 : dat y with
    | nan => rw [h2] at hy; exact hy.elim
    | inf t => trivial
    | fin t d r =>
      rw [h2] at hy
      have e1 : Jvm.FP.Core.exactProduct (.inf s) (.fin t d r) = .inf (s != t) := if_neg hy.1
      rw [e1]
      trivial
  | fin s c q =>
    rw [h1] at hx
    cases h2 : dat y with
    | nan => rw [h2] at hy; exact hy.elim
    | inf t =>
      have e1 : Jvm.FP.Core.exactProduct (.fin s c q) (.inf t) = .inf (s != t) := if_neg hx.1
      rw [e1]
      trivial
    | fin t d r =>
      rw [h2] at hy
      have h5 := (lg_mul hx.1 hy.1).1
      have h6 := hx.2
      have h7 := hy.2
      exact rr_big (Nat.mul_ne_zero hx.1 hy.1) (by omega)
/-- the first summand of a step -/
theorem step_A {m g : UInt64} {s : Bool} {c : Nat} {q : Int} (hm : dat m = .fin s c q) (hc : c ≠ 0) (hl : (c.log2 : Int) + q ≤ 900) (hg : dat g ≠ .nan) : dat (FP.dmul m g) ≠ .nan ∧ (∀ t, dat (FP.dmul m g) = .inf t → Big (dat g)) := by
  refine ⟨mulL_N hm hc hg, fun t h => ?_⟩
  rw [dat_mul, hm] at h
  cases h1 : dat g with
  | nan => exact absurd h1 hg
  | inf t => trivial
  | fin u d r =>
    rw [h1] at h
    have h : fnm (Jvm.FP.Core.roundRatio Jvm.FP.Core.b64 (s != u) (c * d) 1 (q + r)) = .inf t := h
    rcases fb_rr (s != u) (c * d) 1 (q + r) with e | ⟨c', q', e, -⟩
    · have h2 := rr_inf e
      have hd : d ≠ 0 := by
        intro hd
        subst hd
        have e0 : Jvm.FP.Core.roundRatio Jvm.FP.Core.b64 (s != u) (c * 0) 1 (q + r) = .fin (s != u) 0 (-1074) := rfl
        rw [e0] at e
        cases e
      have h3 := (lg_mul hc hd).2
      have h4 : (1 : Nat).log2 = 0 := by decide
      exact ⟨hd, by omega⟩
    · rw [e] at h
      have h : (if c' < 4503599627370496 then Jvm.FP.Core.Datum.fin (s != u) c' (-1074) else .fin (s != u) c' q') = .inf t := h
      split at h <;> cases h
/-- the second summand of a step -/
theorem step_B {z p : UInt64} {s : Bool} {c : Nat} {q : Int} (hz : dat z = .fin s c q) (hc : c ≠ 0) (hc2 : c < 9007199254740992) (hq : q ≤ 64) (hp : dat p ≠ .nan) : dat (FP.ddiv z p) ≠ .nan ∧ (Big (dat p) → ∀ t, dat (FP.ddiv z p) ≠ .inf t) := by
  rw [dat_div, hz]
  have hcl : c.log2 ≤ 52 := Nat.le_of_lt_succ ((Nat.log2_lt hc).mpr (Nat.lt_of_lt_of_le hc2 (by decide)))
  cases h1 : dat p with
  | nan => exact absurd h1 hp
  | inf t =>
    refine ⟨fnm_nan (fun q => by cases q), fun _ t' h => ?_⟩
    have h : fnm (.fin (s != t) 0 Jvm.FP.Core.b64.qmin) = .inf t' := h
    cases h
  | fin t d r =>
    by_cases hd : d = 0
    · subst hd
      have e1 : Jvm.FP.Core.quotient Jvm.FP.Core.b64 (.fin s c q) (.fin t 0 r) = .inf (s != t) := by
        show (if (0 : Nat) = 0 then (if c = 0 then Jvm.FP.Core.Datum.nan else .inf (s != t)) else Jvm.FP.Core.roundRatio Jvm.FP.Core.b64 (s != t) c 0 (q - r)) = _
        rw [if_pos rfl, if_neg hc]
      rw [e1]
      exact ⟨fun q => (by cases q), fun hb => absurd rfl hb.1⟩
    · have e1 : Jvm.FP.Core.quotient Jvm.FP.Core.b64 (.fin s c q) (.fin t d r) = Jvm.FP.Core.roundRatio Jvm.FP.Core.b64 (s != t) c d (q - r) := by
        show (if d = 0 then (if c = 0 then Jvm.FP.Core.Datum.nan else .inf (s != t)) else _) = _
        rw [if_neg hd]
      rw [e1]
      refine ⟨fnm_nan (fok_rr _ _ _ _).2, fun hb t' h => ?_⟩
      have h7 := hb.2
      obtain ⟨c', q', e, -⟩ := rr_fin (s != t) (num := c) (den := d) (e := q - r) (K := 64) (by decide) (by omega)
      rw [e] at h
      have h : (if c' < 4503599627370496 then Jvm.FP.Core.Datum.fin (s != t) c' (-1074) else .fin (s != t) c' q') = .inf t' := h
      split at h <;> cases h
theorem add_N {a b : UInt64} (ha : dat a ≠ .nan) (hb : dat b ≠ .nan) (h : ∀ t u, dat a = .inf t → dat b ≠ .inf u) : dat (FP.dadd a b) ≠ .nan := by
  rw [dat_add]
  refine fnm_nan ((fok_round _).2 ?_)
  cases h1 : dat a with
  | nan => exact absurd h1 ha
  | inf t =>
    cases h2 : dat b with
    | nan => exact absurd h2 hb
    | inf u => exact absurd h2 (h t u h1)
    | fin u d r => exact fun q => by cases q
  | fin t c q =>
    cases h2 : dat b with
    | nan => exact absurd h2 hb
    | inf u => exact fun q => by cases q
    | fin u d r => exact fun q => by cases q
theorem div_N {a b : UInt64} {s : Bool} {c : Nat} {q : Int} (ha : dat a ≠ .nan) (hb : dat b = .fin s c q) (hc : c ≠ 0) : dat (FP.ddiv a b) ≠ .nan := by
  rw [dat_div, hb]
  refine fnm_nan ?_
  cases h1 : dat a with
  | nan => exact absurd h1 ha
  | inf t => exact fun q => by cases q
  | fin t d r =>
    show (if c = 0 then (if d = 0 then Jvm.FP.Core.Datum.nan else .inf (t != s)) else Jvm.FP.Core.roundRatio Jvm.FP.Core.b64 (t != s) d c (r - q)) ≠ .nan
    rw [if_neg hc]
    exact (fok_rr _ _ _ _).2
end DBL4
