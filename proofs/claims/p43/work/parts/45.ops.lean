theorem bi2_eq' {pc : Nat} {lv : List (Nat × bV)} {r : List bV} {w : bW} {f : Int32 → Int32 → Option Int32} {x y v : Int32} (h : f x y = some v) : bi2 pc lv (.inl y :: .inl x :: r) w f = some (pc + 1, lv, .inl v :: r, w) := by
  unfold bi2
  simp only [h]
theorem bl2_eq' {pc : Nat} {lv : List (Nat × bV)} {r : List bV} {w : bW} {f : Int64 → Int64 → Option bV} {x y : Int64} {v : bV} (h : f x y = some v) : bl2 pc lv (.inr (.inl y) :: .inr (.inl x) :: r) w f = some (pc + 1, lv, v :: r, w) := by
  unfold bl2
  simp only [h]
theorem bldl_i {pc n i : Nat} {lv : List (Nat × bV)} {st : List bV} {w : bW} {x : Int32} (h : blk lv i = some (.inl x)) : bldl 0 pc n i lv st w = some (pc + n, lv, .inl x :: st, w) := by
  unfold bldl
  rw [h]
  rfl
theorem bldl_l {pc n i : Nat} {lv : List (Nat × bV)} {st : List bV} {w : bW} {x : Int64} (h : blk lv i = some (.inr (.inl x))) : bldl 1 pc n i lv st w = some (pc + n, lv, .inr (.inl x) :: st, w) := by
  unfold bldl
  rw [h]
  rfl
theorem bldl_r {pc n i : Nat} {lv : List (Nat × bV)} {st : List bV} {w : bW} {x : Nat ⊕ Nat} (h : blk lv i = some (tdn (.inr (.inr x)))) : bldl 2 pc n i lv st w = some (pc + n, lv, tdn (.inr (.inr x)) :: st, w) := by
  unfold bldl
  rw [h]
  rcases x with x | x <;> rfl
theorem bstl_i {nL pc n i : Nat} {lv : List (Nat × bV)} {r : List bV} {w : bW} {x : Int32} (h : i < nL) : bstl 0 nL pc n i lv (.inl x :: r) w = some (pc + n, bst1 lv i (.inl x), r, w) := if_pos h
theorem bstl_l {nL pc n i : Nat} {lv : List (Nat × bV)} {r : List bV} {w : bW} {x : Int64} (h : i + 1 < nL) : bstl 1 nL pc n i lv (.inr (.inl x) :: r) w = some (pc + n, bst2 lv i (.inr (.inl x)), r, w) := if_pos h
theorem bstl_r {nL pc n i : Nat} {lv : List (Nat × bV)} {r : List bV} {w : bW} {x : Nat} (h : i < nL) : bstl 2 nL pc n i lv (.inr (.inr (.inl x)) :: r) w = some (pc + n, bst1 lv i (.inr (.inr (.inl x))), r, w) := if_pos h
theorem ofI0 {y : Int} (h : y ≠ 0) (hb : -2147483648 ≤ y ∧ y < 2147483648) : ¬ Int32.ofInt y = 0 := by
  intro h1
  have h2 := ofI_bound hb
  rw [h1] at h2
  exact h h2.symm
theorem ofL0 {y : Int} (h : y ≠ 0) (hb : -9223372036854775808 ≤ y ∧ y < 9223372036854775808) : ¬ Int64.ofInt y = 0 := by
  intro h1
  have h2 := ofL_bound hb
  rw [h1] at h2
  exact h h2.symm
theorem ofI_div {x y : Int} (hx : -2147483648 ≤ x ∧ x < 2147483648) (hy : -2147483648 ≤ y ∧ y < 2147483648) : Int32.ofInt (x.tdiv y) = Int32.ofInt x / Int32.ofInt y := Int32.ofInt_tdiv (by show (-2147483648 : Int) ≤ x; exact hx.1) (by show x ≤ (2147483647 : Int); omega) (by show (-2147483648 : Int) ≤ y; exact hy.1) (by show y ≤ (2147483647 : Int); omega)
theorem ofL_div {x y : Int} (hx : -9223372036854775808 ≤ x ∧ x < 9223372036854775808) (hy : -9223372036854775808 ≤ y ∧ y < 9223372036854775808) : Int64.ofInt (x.tdiv y) = Int64.ofInt x / Int64.ofInt y := Int64.ofInt_tdiv (by show (-9223372036854775808 : Int) ≤ x; exact hx.1) (by show x ≤ (9223372036854775807 : Int); omega) (by show (-9223372036854775808 : Int) ≤ y; exact hy.1) (by show y ≤ (9223372036854775807 : Int); omega)
theorem ofI_mod {x y : Int} (hx : -2147483648 ≤ x ∧ x < 2147483648) (hy : -2147483648 ≤ y ∧ y < 2147483648) : Int32.ofInt (x.tmod y) = Int32.ofInt x - Int32.ofInt x / Int32.ofInt y * Int32.ofInt y := by
  rw [← ofI_div hx hy, ← Int32.ofInt_mul, ← Int32.ofInt_sub]
  congr 1
  have := Int.tmod_add_mul_tdiv x y
  rw [Int.mul_comm] at this
  omega
theorem ofL_mod {x y : Int} (hx : -9223372036854775808 ≤ x ∧ x < 9223372036854775808) (hy : -9223372036854775808 ≤ y ∧ y < 9223372036854775808) : Int64.ofInt (x.tmod y) = Int64.ofInt x - Int64.ofInt x / Int64.ofInt y * Int64.ofInt y := by
  rw [← ofL_div hx hy, ← Int64.ofInt_mul, ← Int64.ofInt_sub]
  congr 1
  have := Int.tmod_add_mul_tdiv x y
  rw [Int.mul_comm] at this
  omega
theorem tlc_ok {x y : Int} (hx : -9223372036854775808 ≤ x ∧ x < 9223372036854775808) (hy : -9223372036854775808 ≤ y ∧ y < 9223372036854775808) : lg_cmp (Int64.ofInt x) (Int64.ofInt y) = Int32.ofInt (tlc x y) := by
  have e1 := ofL_bound hx
  have e2 := ofL_bound hy
  have q : Int64.ofInt x = Int64.ofInt y ↔ x = y := ⟨fun h => by rw [← e1, ← e2, h], fun h => by rw [h]⟩
  have l : Int64.ofInt x > Int64.ofInt y ↔ y < x := by
    show Int64.ofInt y < Int64.ofInt x ↔ _
    rw [Int64.lt_iff_toInt_lt, e1, e2]
  unfold lg_cmp tlc
  by_cases h1 : y < x
  · rw [if_pos (l.mpr h1), if_neg (by omega), if_neg (by omega)]
    rfl
  · rw [if_neg (fun h => h1 (l.mp h))]
    by_cases h2 : x = y
    · rw [if_pos (q.mpr h2), if_neg (by omega), if_pos h2]
      rfl
    · rw [if_neg (fun h => h2 (q.mp h)), if_pos (by omega)]
      rfl
theorem tsw_ok {F : Nat → Prop} {pc : Nat} {d x : Int} (ps : List (Int × Int)) (hd : 0 ≤ (pc : Int) + d) (hp : ps.all (fun q => decide (0 ≤ (pc : Int) + q.2)) = true) (hx : -2147483648 ≤ x ∧ x < 2147483648) (h : tsw F pc d ps x) : ∃ t, F t ∧ ((pc : Int) + Op.lookupswitch.offset ps d x).toNat = t ∧ 0 ≤ (pc : Int) + Op.lookupswitch.offset ps d x := by
  induction ps with
  | nil => exact ⟨_, h, rfl, hd⟩
  | cons q t ih =>
    obtain ⟨m, off⟩ := q
    rw [List.all_cons, Bool.and_eq_true] at hp
    obtain ⟨h1, h2⟩ := h
    unfold Op.lookupswitch.offset
    by_cases hq : x = m
    · rw [if_pos hq.symm]
      exact ⟨_, h1 hq, rfl, of_decide_eq_true hp.1⟩
    · rw [if_neg (fun z => hq z.symm)]
      exact ih hp.2 (h2 hq)
theorem uI_nat (x : Int) : ((Int32.ofInt x).toUInt32.toNat : Int) = x % 4294967296 := by
  show (((BitVec.ofInt 32 x).toNat : Nat) : Int) = _
  rw [BitVec.toNat_ofInt]
  have h : ((2 ^ 32 : Nat) : Int) = 4294967296 := rfl
  rw [h]
  omega
theorem i2c_ok (x : Int) : ((Int32.ofInt x).toUInt32 % 65536).toInt32 = Int32.ofInt (x % 65536) := by
  have h1 := uI_nat x
  have h2 := uI_nat (x % 65536)
  have h3 : (Int32.ofInt x).toUInt32 % 65536 = (Int32.ofInt (x % 65536)).toUInt32 := by
    apply UInt32.toNat_inj.mp
    rw [UInt32.toNat_mod]
    have h4 : (65536 : UInt32).toNat = 65536 := rfl
    rw [h4]
    omega
  rw [h3]
  rfl
theorem and63_ok (x : Int) : Int32.ofInt x &&& Int32.ofInt 63 = Int32.ofInt (x % 64) := by
  have h1 := uI_nat x
  have h2 := uI_nat (x % 64)
  have h3 : (Int32.ofInt x &&& Int32.ofInt 63).toUInt32 = (Int32.ofInt (x % 64)).toUInt32 := by
    apply UInt32.toNat_inj.mp
    have h5 : (Int32.ofInt x &&& Int32.ofInt 63).toUInt32.toNat = (Int32.ofInt x).toUInt32.toNat &&& 63 := rfl
    rw [h5, show (63 : Nat) = 2 ^ 6 - 1 from rfl, Nat.and_two_pow_sub_one_eq_mod]
    omega
  have h4 : ∀ a b : Int32, a.toUInt32 = b.toUInt32 → a = b := fun a b h => by
    have := congrArg UInt32.toInt32 h
    exact this
  exact h4 _ _ h3
theorem shl_ok {x y : Int} (hy : y = 32 ∨ y = 36) : Int64.ofInt x <<< ((Int32.ofInt y).toInt64 &&& 63) = Int64.ofInt (w64 (x * 2 ^ y.toNat)) := by
  have key : ∀ (z : Int64) (m : Nat), (z.toBitVec.smod (64#64)).toNat = m → m < 64 → Int64.ofInt x <<< z = Int64.ofInt (x * 2 ^ m) := by
    intro z m hz hm
    apply Int64.toBitVec_inj.mp
    have e1 : (Int64.ofInt x <<< z).toBitVec = (BitVec.ofInt 64 x) <<< (z.toBitVec.smod (64#64)) := rfl
    rw [e1, BitVec.shiftLeft_eq', hz, BitVec.shiftLeft_eq_mul_twoPow]
    have e2 : (Int64.ofInt (x * 2 ^ m)).toBitVec = BitVec.ofInt 64 (x * 2 ^ m) := rfl
    rw [e2, BitVec.ofInt_mul]
    congr 1
    apply BitVec.eq_of_toNat_eq
    rw [BitVec.toNat_twoPow, BitVec.toNat_ofInt]
    have e3 : ((2 : Int) ^ m) = ((2 ^ m : Nat) : Int) := by rw [Int.natCast_pow]; rfl
    rw [e3]
    have e4 : (2 ^ m : Nat) < 2 ^ 64 := Nat.pow_lt_pow_right (by decide) hm
    omega
  rw [ofL_w]
  rcases hy with rfl | rfl
  · exact key _ 32 (by decide) (by decide)
  · exact key _ 36 (by decide) (by decide)
theorem shr_ok {x y : Int} (hy : y = 37) (hx : -9223372036854775808 ≤ x ∧ x < 9223372036854775808) : Int64.ofInt x >>> ((Int32.ofInt y).toInt64 &&& 63) = Int64.ofInt (x / 2 ^ y.toNat) := by
  subst hy
  have e0 : ((Int32.ofInt 37).toInt64 &&& 63) = (37 : Int64) := by decide
  rw [e0]
  apply Int64.toInt_inj.mp
  have e1 : (Int64.ofInt x >>> (37 : Int64)).toInt = ((Int64.ofInt x).toBitVec.sshiftRight 37).toInt := rfl
  rw [e1, BitVec.toInt_sshiftRight]
  have e2 : (Int64.ofInt x).toBitVec.toInt = x := ofL_bound hx
  rw [e2, Int.shiftRight_eq_div_pow]
  have e3 : (2 : Int) ^ (37 : Int).toNat = 137438953472 := by decide
  have e4 : ((2 ^ 37 : Nat) : Int) = 137438953472 := by decide
  rw [e3, e4, ofL_bound ⟨by omega, by omega⟩]
theorem tT_jmp {e : tE} {d mi pc a : Nat} {L : tL} {st st' : List tV} {M : tM} {n : Nat} {Q : tR → tM → Nat → Prop} {o : bO} (ho : bop mi pc = some o)
    (hs : ∀ lv w, bstep (bE e.1) (bmeth mi).2.2.1 o pc lv (st.map tdn) w = some (a, lv, st'.map tdn, w)) (k : tT e d mi a L st' M n Q) : tT e d mi pc L st M n Q := tT_st ho hs k
theorem tT_i2 {e : tE} {d mi pc : Nat} {L : tL} {r : List tV} {M : tM} {n : Nat} {Q : tR → tM → Nat → Prop} {o : bO} {f : Int32 → Int32 → Option Int32} {x y z : Int} (ho : bop mi pc = some o) (hb : ∀ lv st w, bstep (bE e.1) (bmeth mi).2.2.1 o pc lv st w = bi2 pc lv st w f) (hf : f (Int32.ofInt x) (Int32.ofInt y) = some (Int32.ofInt z))
    (k : tT e d mi (pc + 1) L (.inl z :: r) M n Q) : tT e d mi pc L (.inl y :: .inl x :: r) M n Q := by
  refine tT_st ho (fun lv w => ?_) k
  rw [hb]
  exact bi2_eq' hf
theorem tT_l2 {e : tE} {d mi pc : Nat} {L : tL} {r : List tV} {M : tM} {n : Nat} {Q : tR → tM → Nat → Prop} {o : bO} {f : Int64 → Int64 → Option bV} {x y : Int} {z : tV} (ho : bop mi pc = some o) (hb : ∀ lv st w, bstep (bE e.1) (bmeth mi).2.2.1 o pc lv st w = bl2 pc lv st w f) (hf : f (Int64.ofInt x) (Int64.ofInt y) = some (tdn z))
    (k : tT e d mi (pc + 1) L (z :: r) M n Q) : tT e d mi pc L (.inr (.inl y) :: .inr (.inl x) :: r) M n Q := by
  refine tT_st ho (fun lv w => ?_) k
  rw [hb]
  exact bl2_eq' hf
