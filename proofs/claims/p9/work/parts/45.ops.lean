theorem bi2_eq' {pc : Nat} {lv : List (Nat × bV)} {r : List bV} {w : bW} {f : Int32 → Int32 → Option Int32} {x y v : Int32} (h : f x y = some v) : bi2 pc lv (.inl y :: .inl x :: r) w f = some (pc + 1, lv, .inl v :: r, w) := sorry
theorem bl2_eq' {pc : Nat} {lv : List (Nat × bV)} {r : List bV} {w : bW} {f : Int64 → Int64 → Option bV} {x y : Int64} {v : bV} (h : f x y = some v) : bl2 pc lv (.inr (.inl y) :: .inr (.inl x) :: r) w f = some (pc + 1, lv, v :: r, w) := sorry
theorem bldl_i {pc n i : Nat} {lv : List (Nat × bV)} {st : List bV} {w : bW} {x : Int32} (h : blk lv i = some (.inl x)) : bldl 0 pc n i lv st w = some (pc + n, lv, .inl x :: st, w) := sorry
theorem bldl_l {pc n i : Nat} {lv : List (Nat × bV)} {st : List bV} {w : bW} {x : Int64} (h : blk lv i = some (.inr (.inl x))) : bldl 1 pc n i lv st w = some (pc + n, lv, .inr (.inl x) :: st, w) := sorry
theorem bldl_r {pc n i : Nat} {lv : List (Nat × bV)} {st : List bV} {w : bW} {x : Nat ⊕ Nat} (h : blk lv i = some (tdn (.inr (.inr x)))) : bldl 2 pc n i lv st w = some (pc + n, lv, tdn (.inr (.inr x)) :: st, w) := sorry
theorem bstl_i {nL pc n i : Nat} {lv : List (Nat × bV)} {r : List bV} {w : bW} {x : Int32} (h : i < nL) : bstl 0 nL pc n i lv (.inl x :: r) w = some (pc + n, bst1 lv i (.inl x), r, w) := sorry
theorem bstl_l {nL pc n i : Nat} {lv : List (Nat × bV)} {r : List bV} {w : bW} {x : Int64} (h : i + 1 < nL) : bstl 1 nL pc n i lv (.inr (.inl x) :: r) w = some (pc + n, bst2 lv i (.inr (.inl x)), r, w) := sorry
theorem bstl_r {nL pc n i : Nat} {lv : List (Nat × bV)} {r : List bV} {w : bW} {x : Nat} (h : i < nL) : bstl 2 nL pc n i lv (.inr (.inr (.inl x)) :: r) w = some (pc + n, bst1 lv i (.inr (.inr (.inl x))), r, w) := sorry
theorem ofI0 {y : Int} (h : y ≠ 0) (hb : -2147483648 ≤ y ∧ y < 2147483648) : ¬ Int32.ofInt y = 0 := sorry
theorem ofL0 {y : Int} (h : y ≠ 0) (hb : -9223372036854775808 ≤ y ∧ y < 9223372036854775808) : ¬ Int64.ofInt y = 0 := sorry
theorem ofI_div {x y : Int} (hx : -2147483648 ≤ x ∧ x < 2147483648) (hy : -2147483648 ≤ y ∧ y < 2147483648) : Int32.ofInt (x.tdiv y) = Int32.ofInt x / Int32.ofInt y := sorry
theorem ofL_div {x y : Int} (hx : -9223372036854775808 ≤ x ∧ x < 9223372036854775808) (hy : -9223372036854775808 ≤ y ∧ y < 9223372036854775808) : Int64.ofInt (x.tdiv y) = Int64.ofInt x / Int64.ofInt y := sorry
theorem ofI_mod {x y : Int} (hx : -2147483648 ≤ x ∧ x < 2147483648) (hy : -2147483648 ≤ y ∧ y < 2147483648) : Int32.ofInt (x.tmod y) = Int32.ofInt x - Int32.ofInt x / Int32.ofInt y * Int32.ofInt y := sorry
theorem ofL_mod {x y : Int} (hx : -9223372036854775808 ≤ x ∧ x < 9223372036854775808) (hy : -9223372036854775808 ≤ y ∧ y < 9223372036854775808) : Int64.ofInt (x.tmod y) = Int64.ofInt x - Int64.ofInt x / Int64.ofInt y * Int64.ofInt y := sorry
theorem tlc_ok {x y : Int} (hx : -9223372036854775808 ≤ x ∧ x < 9223372036854775808) (hy : -9223372036854775808 ≤ y ∧ y < 9223372036854775808) : lg_cmp (Int64.ofInt x) (Int64.ofInt y) = Int32.ofInt (tlc x y) := sorry
theorem tsw_ok {F : Nat → Prop} {pc : Nat} {d x : Int} (ps : List (Int × Int)) (hd : 0 ≤ (pc : Int) + d) (hp : ps.all (fun q => decide (0 ≤ (pc : Int) + q.2)) = true) (hx : -2147483648 ≤ x ∧ x < 2147483648) (h : tsw F pc d ps x) : ∃ t, F t ∧ ((pc : Int) + Op.lookupswitch.offset ps d x).toNat = t ∧ 0 ≤ (pc : Int) + Op.lookupswitch.offset ps d x := sorry
theorem uI_nat (x : Int) : ((Int32.ofInt x).toUInt32.toNat : Int) = x % 4294967296 := sorry
theorem i2c_ok (x : Int) : ((Int32.ofInt x).toUInt32 % 65536).toInt32 = Int32.ofInt (x % 65536) := sorry
theorem and63_ok (x : Int) : Int32.ofInt x &&& Int32.ofInt 63 = Int32.ofInt (x % 64) := sorry
theorem shl_ok {x y : Int} (hy : y = 32 ∨ y = 36) : Int64.ofInt x <<< ((Int32.ofInt y).toInt64 &&& 63) = Int64.ofInt (w64 (x * 2 ^ y.toNat)) := sorry
theorem shr_ok {x y : Int} (hy : y = 37) (hx : -9223372036854775808 ≤ x ∧ x < 9223372036854775808) : Int64.ofInt x >>> ((Int32.ofInt y).toInt64 &&& 63) = Int64.ofInt (x / 2 ^ y.toNat) := sorry
theorem tT_jmp {e : tE} {d mi pc a : Nat} {L : tL} {st st' : List tV} {M : tM} {n : Nat} {Q : tR → tM → Nat → Prop} {o : bO} (ho : bop mi pc = some o)
    (hs : ∀ lv w, bstep (bE e.1) (bmeth mi).2.2.1 o pc lv (st.map tdn) w = some (a, lv, st'.map tdn, w)) (k : tT e d mi a L st' M n Q) : tT e d mi pc L st M n Q := sorry
theorem tT_i2 {e : tE} {d mi pc : Nat} {L : tL} {r : List tV} {M : tM} {n : Nat} {Q : tR → tM → Nat → Prop} {o : bO} {f : Int32 → Int32 → Option Int32} {x y z : Int} (ho : bop mi pc = some o) (hb : ∀ lv st w, bstep (bE e.1) (bmeth mi).2.2.1 o pc lv st w = bi2 pc lv st w f) (hf : f (Int32.ofInt x) (Int32.ofInt y) = some (Int32.ofInt z))
    (k : tT e d mi (pc + 1) L (.inl z :: r) M n Q) : tT e d mi pc L (.inl y :: .inl x :: r) M n Q := sorry
theorem tT_l2 {e : tE} {d mi pc : Nat} {L : tL} {r : List tV} {M : tM} {n : Nat} {Q : tR → tM → Nat → Prop} {o : bO} {f : Int64 → Int64 → Option bV} {x y : Int} {z : tV} (ho : bop mi pc = some o) (hb : ∀ lv st w, bstep (bE e.1) (bmeth mi).2.2.1 o pc lv st w = bl2 pc lv st w f) (hf : f (Int64.ofInt x) (Int64.ofInt y) = some (tdn z))
    (k : tT e d mi (pc + 1) L (z :: r) M n Q) : tT e d mi pc L (.inr (.inl y) :: .inr (.inl x) :: r) M n Q := sorry
