/-! THE MODEL: rows of limbs: long division. -/
theorem cmpv_le (x y : Nat) : (cmpv x y ≤ 0) ↔ x ≤ y := sorry
theorem cmpv_r (x y : Nat) : -1 ≤ cmpv x y ∧ cmpv x y ≤ 1 := sorry
theorem cmpv_ge (x y : Nat) : (0 ≤ cmpv x y) ↔ y ≤ x := sorry
theorem cmpv_gt (x y : Nat) : (0 < cmpv x y) ↔ y < x := sorry
theorem cmpv_lt (x y : Nat) : (cmpv x y < 0) ↔ x < y := sorry
theorem cmpv_eq (x y : Nat) : (cmpv x y = 0) ↔ x = y := sorry
theorem tdiv_2 {a : Nat} : ((a : Int)).tdiv 2 = ((a / 2 : Nat) : Int) := sorry
theorem dg_a0 {O D : Nat} (h : D < 1000000000) : dg (O * 1000000000 + D) 0 = D := sorry
theorem dg_a1 {O D w : Nat} (h : D < 1000000000) : dg (O * 1000000000 + D) (w + 1) = dg O w := sorry
theorem dg_a2 {O w : Nat} : dg (O * 1000000000) (w + 1) = dg O w := sorry
theorem row_lem {O D R : Nat} (h : O * 1000000000 + D = R) (hd : D < 1000000000) : R < (O + 1) * 1000000000 := sorry
abbrev r234 : Int → Prop := fun r => r = 2 ∨ r = 3 ∨ r = 4
section MODEL
variable {e : tE} {d n : Nat} {M : tM}
set_option maxRecDepth 8000 in
theorem c_divides {X Y : Nat} (hx : Vr M 0 X) (hy : Vr M 1 Y) (hY : 0 < Y) (hY2 : Y < pw 61) (hd : 2 ≤ d) : tC e d 3610 [.inr (.inr (.inl 664))] M n (tQn n (fun M' => Vr M' 2 (X / Y) ∧ Vr M' 3 (X % Y) ∧ rE r234 M M')) := sorry
end MODEL
