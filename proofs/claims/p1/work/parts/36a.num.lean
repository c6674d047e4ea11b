/-! PATHS OF A RUN WITH UNKNOWN NUMBERS: whole numbers for the unknowns. -/
def udX (X : Nat → Int) (z : Nat) (y : Int) : Nat → Int := fun j => cond (Nat.beq j z) y (X j)
theorem udX_n {X : Nat → Int} {z j : Nat} {y : Int} (h : ¬ j = z) : udX X z y j = X j := by
  show cond (Nat.beq j z) y (X j) = X j
  rw [nbeq_n h]; rfl
theorem udX_s {X : Nat → Int} {z : Nat} {y : Int} : udX X z y z = y := by
  show cond (Nat.beq z z) y (X z) = y
  rw [show Nat.beq z z = true from Nat.beq_refl z]; rfl
def mE (scr : List Int32) (X : Nat → Int) : sE := (fun j => cond (Nat.blt j 14) ((senv scr).1 j) (Int32.ofInt (X j)), fun j => Int64.ofInt (X j), fun _ => .inl (0, []))
/-- unknowns alike up to a number -/
def agr (m : Nat) (X Y : Nat → Int) : Prop := ∀ j, j < m → X j = Y j
theorem agr_r {m : Nat} {X : Nat → Int} : agr m X X := fun _ _ => rfl
theorem agr_t {m n : Nat} {X Y Z : Nat → Int} (h : agr m X Y) (hmn : m ≤ n) (k : agr n Y Z) : agr m X Z := fun j hj => (h j hj).trans (k j (by omega))
theorem agr_u {m z : Nat} {X : Nat → Int} {y : Int} (h : m ≤ z) : agr m X (udX X z y) := fun j hj => (udX_n (by omega)).symm
/-- the long unknowns of the script -/
def mX (scr : List Int32) (X : Nat → Int) : Prop := X 0 = ((senv scr).2.1 0).toInt ∧ X 1 = ((senv scr).2.1 1).toInt ∧ X 2 = ((senv scr).2.1 2).toInt
theorem mX_ag {scr : List Int32} {m : Nat} {X Y : Nat → Int} (h : mX scr X) (hm : 3 ≤ m) (ha : agr m X Y) : mX scr Y := ⟨(ha 0 (by omega)).symm.trans h.1, (ha 1 (by omega)).symm.trans h.2.1, (ha 2 (by omega)).symm.trans h.2.2⟩
theorem mE_R {scr : List Int32} {X : Nat → Int} (h : scr.length < 2147483648) (hX : mX scr X) : sR scr (mE scr X) := by
  obtain ⟨h1, h2, h3, h4, h5, h6, h7, h8⟩ := senv_R h
  have hi : ∀ j, j < 14 → (mE scr X).1 j = (senv scr).1 j := fun j hj => by
    show cond (Nat.blt j 14) _ _ = _
    rw [blt_ye hj]; rfl
  have hl : ∀ j, j < 3 → (mE scr X).2.1 j = (senv scr).2.1 j := fun j hj => by
    show Int64.ofInt (X j) = _
    have h9 : X j = ((senv scr).2.1 j).toInt := by
      match j, hj with
      | 0, _ => exact hX.1
      | 1, _ => exact hX.2.1
      | 2, _ => exact hX.2.2
    rw [h9, Int64.ofInt_toInt]
  refine ⟨h1, fun j hj => ?_, fun j hj => ?_, ?_, ?_, ?_, ?_, ?_⟩
  · rw [hi j (by omega)]; exact h2 j hj
  · rw [hi _ (by omega), hi j (by omega)]; exact h3 j hj
  · rw [hi _ (by omega), hi _ (by omega)]; exact h4
  · rw [hi _ (by omega)]; exact h5
  · rw [hl _ (by omega), hi _ (by omega)]; exact h6
  · rw [hl _ (by omega), hi _ (by omega)]; exact h7
  · rw [hl _ (by omega), hl _ (by omega), hl _ (by omega)]; exact h8
def ckl (C : sK) : Bool := match C with
  | [] => true
  | q :: t => cond (Nat.blt q.1 14) (ckl t) false
theorem ckl_ok {C : sK} : ckl C = true → ∀ j, 14 ≤ j → sget C j = (9223372034707292160, 9223372039002259455) := by
  induction C with
  | nil => intro _ j _; rfl
  | cons q t ih =>
    intro h j hj
    rcases cond_two h with ⟨g, h⟩ | ⟨-, h⟩
    · have g := blt_t g
      show cond (Nat.beq q.1 j) q.2 (sget t j) = _
      rw [nbeq_n (show ¬ q.1 = j by omega)]
      exact ih h j hj
    · cases h
theorem mE_cok {scr : List Int32} {X : Nat → Int} {C : sK} (h : cok (senv scr) C) (hC : ckl C = true) : cok (mE scr X) C := by
  intro j
  by_cases hj : j < 14
  · have h1 := h j
    show (sget C j).1 ≤ bsI (cond (Nat.blt j 14) _ _) ∧ bsI (cond (Nat.blt j 14) _ _) ≤ (sget C j).2
    rw [blt_ye hj]
    exact h1
  · rw [ckl_ok hC j (by omega)]
    exact bsI_rng _
/-- constants -/
def kL (n : Nat) : Int := cond (Nat.blt (n % 18446744073709551616) 9223372036854775808) (Int.ofNat (n % 18446744073709551616)) (Int.negSucc (18446744073709551615 - n % 18446744073709551616))
def kI (n : Nat) : Int := cond (Nat.blt (n % 4294967296) 2147483648) (Int.ofNat (n % 4294967296)) (Int.negSucc (4294967295 - n % 4294967296))
theorem kL_ok (n : Nat) : (cL n).toInt = kL n := by
  rw [tL_n, cbL_n]
  unfold kL
  by_cases h : n % 18446744073709551616 < 9223372036854775808
  · rw [if_pos (by omega), blt_ye h]; rfl
  · rw [if_neg (by omega), blt_no h]
    show _ = Int.negSucc _
    rw [Int.negSucc_eq]
    omega
theorem kI_ok (n : Nat) : (cI n).toInt = kI n := by
  rw [tI_n, cbI_n]
  unfold kI
  by_cases h : n % 4294967296 < 2147483648
  · rw [if_pos (by omega), blt_ye h]; rfl
  · rw [if_neg (by omega), blt_no h]
    show _ = Int.negSucc _
    rw [Int.negSucc_eq]
    omega
/-- the number of a long; of an int -/
def xl (X : Nat → Int) (v : sV) : Int := cond (Nat.beq v.1 1) (kL v.2) (X v.2)
def xi (X : Nat → Int) (v : sV) : Int := cond (Nat.beq v.1 0) (kI v.2) (X v.2)
/-- a long, an int that is known or made, below a number -/
def okl (m : Nat) (v : sV) : Bool := cond (Nat.beq v.1 1) true (cond (Nat.beq v.1 9) (Nat.blt v.2 m) false)
def oki (m : Nat) (v : sV) : Bool := cond (Nat.beq v.1 0) true (cond (Nat.beq v.1 4) (cond (Nat.blt v.2 14) false (Nat.blt v.2 m)) false)
theorem okl_inv {m : Nat} {v : sV} (h : okl m v = true) : (∃ n, v = (1, n)) ∨ ∃ j, v = (9, j) ∧ j < m := by
  obtain ⟨t, n⟩ := v
  rcases cond_two h with ⟨g, -⟩ | ⟨-, h⟩
  · have := beq_t g; subst this; exact Or.inl ⟨n, rfl⟩
  · rcases cond_two h with ⟨g, h⟩ | ⟨-, h⟩
    · have := beq_t g; subst this; exact Or.inr ⟨n, rfl, blt_t h⟩
    · cases h
theorem oki_inv {m : Nat} {v : sV} (h : oki m v = true) : (∃ n, v = (0, n)) ∨ ∃ j, v = (4, j) ∧ 14 ≤ j ∧ j < m := by
  obtain ⟨t, n⟩ := v
  rcases cond_two h with ⟨g, -⟩ | ⟨-, h⟩
  · have := beq_t g; subst this; exact Or.inl ⟨n, rfl⟩
  · rcases cond_two h with ⟨g, h⟩ | ⟨-, h⟩
    · have := beq_t g
      subst this
      rcases cond_two h with ⟨-, h⟩ | ⟨g, h⟩
      · cases h
      · exact Or.inr ⟨n, rfl, by
          have h1 : ¬ n < 14 := fun hn => by rw [show Nat.blt n 14 = true from blt_ye hn] at g; cases g
          omega, blt_t h⟩
    · cases h
theorem cl_x {scr : List Int32} {X : Nat → Int} {m : Nat} {v : sV} (h : okl m v = true) : cl (mE scr X) v = Int64.ofInt (xl X v) := by
  rcases okl_inv h with ⟨n, rfl⟩ | ⟨j, rfl, -⟩
  · show cL n = Int64.ofInt (kL n)
    rw [← kL_ok, Int64.ofInt_toInt]
  · rfl
theorem ci_x {scr : List Int32} {X : Nat → Int} {m : Nat} {v : sV} (h : oki m v = true) : ci (mE scr X) v = Int32.ofInt (xi X v) := by
  rcases oki_inv h with ⟨n, rfl⟩ | ⟨j, rfl, h1, -⟩
  · show cI n = Int32.ofInt (kI n)
    rw [← kI_ok, Int32.ofInt_toInt]
  · show cond (Nat.blt j 14) _ _ = _
    rw [blt_no (show ¬ j < 14 by omega)]; rfl
theorem xl_ag {X Y : Nat → Int} {m : Nat} {v : sV} (h : okl m v = true) (ha : agr m X Y) : xl X v = xl Y v := by
  rcases okl_inv h with ⟨n, rfl⟩ | ⟨j, rfl, hj⟩
  · rfl
  · exact ha j hj
theorem xi_ag {X Y : Nat → Int} {m : Nat} {v : sV} (h : oki m v = true) (ha : agr m X Y) : xi X v = xi Y v := by
  rcases oki_inv h with ⟨n, rfl⟩ | ⟨j, rfl, -, hj⟩
  · rfl
  · exact ha j hj
theorem okl_le {m n : Nat} {v : sV} (h : okl m v = true) (hmn : m ≤ n) : okl n v = true := by
  rcases okl_inv h with ⟨k, rfl⟩ | ⟨j, rfl, hj⟩
  · rfl
  · exact blt_ye (by omega)
theorem oki_le {m n : Nat} {v : sV} (h : oki m v = true) (hmn : m ≤ n) : oki n v = true := by
  rcases oki_inv h with ⟨k, rfl⟩ | ⟨j, rfl, h1, hj⟩
  · rfl
  · show cond (Nat.blt j 14) false (Nat.blt j n) = true
    rw [blt_no (show ¬ j < 14 by omega), blt_ye (show j < n by omega)]; rfl
/-- a number that a long can be -/
def rng (x : Int) : Prop := -9223372036854775808 ≤ x ∧ x < 9223372036854775808
theorem rng_t {x : Int} (h : rng x) : (Int64.ofInt x).toInt = x := Int64.toInt_ofInt_of_le (by have := h.1; omega) (by have := h.2; omega)
theorem lg_lt {x y : Int} (hx : rng x) (hy : rng y) (h : x < y) : lg_cmp (Int64.ofInt x) (Int64.ofInt y) = -1 := by
  have e1 := bsL_i (Int64.ofInt x)
  have e2 := bsL_i (Int64.ofInt y)
  rw [rng_t hx] at e1
  rw [rng_t hy] at e2
  unfold lg_cmp
  rw [if_neg (fun hc => by have := bsL_lt.mp hc; omega), if_neg (fun hc => by have := bsL_inj.mp hc; omega)]
theorem lg_eq {x : Int} : lg_cmp (Int64.ofInt x) (Int64.ofInt x) = 0 := by
  unfold lg_cmp
  rw [if_neg (fun hc => by have := bsL_lt.mp hc; omega), if_pos rfl]
theorem lg_gt {x y : Int} (hx : rng x) (hy : rng y) (h : y < x) : lg_cmp (Int64.ofInt x) (Int64.ofInt y) = 1 := by
  have e1 := bsL_i (Int64.ofInt x)
  have e2 := bsL_i (Int64.ofInt y)
  rw [rng_t hx] at e1
  rw [rng_t hy] at e2
  unfold lg_cmp
  rw [if_pos (bsL_lt.mpr (by omega))]
theorem of_div {x y : Int} (hx : rng x) (hy : rng y) : Int64.ofInt x / Int64.ofInt y = Int64.ofInt (x.tdiv y) := by
  refine (Int64.ofInt_tdiv ?_ ?_ ?_ ?_).symm
  · exact hx.1
  · have := hx.2; show x ≤ 9223372036854775807; omega
  · exact hy.1
  · have := hy.2; show y ≤ 9223372036854775807; omega
theorem of_ne {y : Int} (hy : rng y) (h : 0 < y) : ¬ Int64.ofInt y = 0 := by
  intro hc
  have h1 := rng_t hy
  rw [hc] at h1
  have h2 : (0 : Int64).toInt = 0 := rfl
  omega
/-- quotients and what is left, of a number that is not below 0, or not above 0 -/
def qd (f : Nat) (x c : Int) : Int := cond (Nat.beq f 0) (x / c) (-((-x) / c))
def qr (f : Nat) (x c : Int) : Int := cond (Nat.beq f 0) (x % c) (-((-x) % c))
def qs (f : Nat) (x : Int) : Prop := cond (Nat.beq f 0) (0 ≤ x) (x ≤ 0)
theorem qd_ok {f : Nat} {x c : Int} (h : qs f x) (hc : 0 < c) : x.tdiv c = qd f x c := by
  unfold qs at h
  unfold qd
  cases g : Nat.beq f 0 with
  | true =>
    rw [g] at h
    exact Int.tdiv_eq_ediv_of_nonneg h
  | false =>
    rw [g] at h
    have h : x ≤ 0 := h
    have h1 : (-x).tdiv c = (-x) / c := Int.tdiv_eq_ediv_of_nonneg (by omega)
    rw [Int.neg_tdiv] at h1
    show x.tdiv c = -((-x) / c)
    omega
theorem qr_ok {f : Nat} {x c : Int} : x - qd f x c * c = qr f x c := by
  unfold qd qr
  cases g : Nat.beq f 0 with
  | true =>
    show x - x / c * c = x % c
    have := Int.emod_add_ediv_mul x c
    omega
  | false =>
    show x - -((-x) / c) * c = -((-x) % c)
    have := Int.emod_add_ediv_mul (-x) c
    rw [Int.neg_mul]
    omega
theorem ev_div {f : Nat} {x c : Int} (hx : rng x) (hc : rng c) (h0 : 0 < c) (h : qs f x) : evL 3 (Int64.ofInt x) (Int64.ofInt c) (Int64.ofInt (qd f x c)) :=
  ⟨of_ne hc h0, by rw [of_div hx hc, qd_ok h h0]⟩
theorem ev_rem {f : Nat} {x c : Int} (hx : rng x) (hc : rng c) (h0 : 0 < c) (h : qs f x) : evL 4 (Int64.ofInt x) (Int64.ofInt c) (Int64.ofInt (qr f x c)) :=
  ⟨of_ne hc h0, by rw [of_div hx hc, qd_ok h h0, ← Int64.ofInt_mul, ← Int64.ofInt_sub, qr_ok]⟩
/-- the sign of an exclusive or with a number above 0 -/
theorem xor_s {x y : Int} (hx : rng x) (hy : rng y) (h0 : 0 ≤ y) : (0 ≤ x → 0 ≤ (Int64.ofInt x ^^^ Int64.ofInt y).toInt) ∧ (x < 0 → (Int64.ofInt x ^^^ Int64.ofInt y).toInt < 0) := by
  have e1 := rng_t hx
  have e2 := rng_t hy
  rw [tL_n] at e1 e2
  have h3 : (Int64.ofInt x ^^^ Int64.ofInt y).toBitVec.toNat = (Int64.ofInt x).toBitVec.toNat ^^^ (Int64.ofInt y).toBitVec.toNat := by
    show ((Int64.ofInt x).toBitVec ^^^ (Int64.ofInt y).toBitVec).toNat = _
    exact BitVec.toNat_xor _ _
  rw [tL_n, h3]
  have a1 : (Int64.ofInt x).toBitVec.toNat < 18446744073709551616 := (Int64.ofInt x).toBitVec.isLt
  have a2 : (Int64.ofInt y).toBitVec.toNat < 18446744073709551616 := (Int64.ofInt y).toBitVec.isLt
  generalize (Int64.ofInt x).toBitVec.toNat = a at *
  generalize (Int64.ofInt y).toBitVec.toNat = b at *
  have hb : b < 2 ^ 63 := by
    have b1 := hy.2
    split at e2 <;> omega
  constructor
  · intro h
    have ha : a < 2 ^ 63 := by split at e1 <;> omega
    have := Nat.xor_lt_two_pow ha hb
    split <;> omega
  · intro h
    have ha : 2 ^ 63 ≤ a := by split at e1 <;> omega
    have h4 : a = (a - 2 ^ 63) + 2 ^ 63 := by omega
    have h5 : (a ^^^ b).testBit 63 = true := by
      rw [Nat.testBit_xor, Nat.testBit_lt_two_pow hb]
      have : a.testBit 63 = true := by
        rw [Nat.testBit_eq_decide_div_mod_eq]
        simp only [decide_eq_true_eq]
        omega
      rw [this]; rfl
    have h6 : 2 ^ 63 ≤ a ^^^ b := Nat.ge_two_pow_of_testBit h5
    have h7 : a ^^^ b < 2 ^ 64 := Nat.xor_lt_two_pow (by omega) (by omega)
    split <;> omega
