/-! WHAT the special methods give: a guessed root, a recipe, its sign. -/
/-- the base times itself, n times more -/
def pwN (b : UInt64) : Nat → UInt64 → UInt64
  | 0, r => r
  | n + 1, r => pwN b n (FP.dmul r b)
/-- doubling while too small -/
def gdo (z : UInt64) (j : Nat) : Nat → UInt64 → UInt64
  | 0, g => g
  | n + 1, g => if FP.dcmp (pwN g j g) z = some .lt then gdo z j n (FP.dmul g 4611686018427387904) else g
/-- halving while too great -/
def gha (z : UInt64) (j : Nat) : Nat → UInt64 → UInt64
  | 0, g => g
  | n + 1, g => if FP.dcmp (pwN (FP.ddiv g 4611686018427387904) j (FP.ddiv g 4611686018427387904)) z = some .gt then gha z j n (FP.ddiv g 4611686018427387904) else g
def nw (m k z : UInt64) (j : Nat) (g : UInt64) : UInt64 := FP.ddiv (FP.dadd (FP.dmul m g) (FP.ddiv z (pwN g j g))) k
/-- the size of a bound -/
def szd (w p : Int64) : UInt64 := FP.dadd (FP.l2d w) (FP.ddiv (FP.l2d p) (FP.l2d 10000000000))
/-- the guess before the steps -/
def gs0 (k : Nat) (z : UInt64) : UInt64 := gha z (k - 1) 64 (gdo z (k - 1) 64 4607182418800017408)
/-- the steps -/
def nws (m k z : UInt64) (j : Nat) : Nat → UInt64 → UInt64
  | 0, g => g
  | n + 1, g => nws m k z j n (nw m k z j g)
def gval (k : Nat) (a b : Int64) : Int64 := FP.d2l (FP.dmul (nws (FP.i2d (Int32.ofNat (k - 1))) (FP.i2d (Int32.ofNat k)) (szd a b) (k - 2) 10 (gs0 k (szd a b))) (FP.l2d 10000000000))
def recJ (c x : Int32) : Nat := if c = 42 then 7 else if c = 43 then 5 else if c = 45 then 6 else if c = 47 then 8 else if c = 94 then (if x = 0 then 9 else 10) else if c = 97 then 15 else if c = 101 then 13 else if c = 108 then 14 else if c = 114 then 12 else if c = 120 then 4 else if c = 126 then 11 else 9
def sgB (j : Nat) : List Int32 := (brec.getD (j - 4) (0, 0, "", [])).2.2.2
def sgJ (j : Nat) (x : Int32) : Int32 := if x < Int32.ofNat (sgB j).length then (sgB j).getD x.toNatClampNeg 0 else 0
