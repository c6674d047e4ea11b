/-! THE MODEL: rows of limbs: taking away, small factors, small divisors. -/
section MODEL
variable {e : tE} {d n : Nat} {M : tM}
theorem c_less {a b : Int} {x y : Nat} (ha : 0 ≤ a ∧ a < 15) (hb : 0 ≤ b ∧ b < 15) (hab : a ≠ b) (hx : Vr M a x) (hy : Vr M b y) (hs : y ≤ x) (hd : 1 ≤ d) : tC e d 3643 [.inr (.inr (.inl 664)), .inl a, .inl b] M n (tQn n (fun M' => Vr M' a (x - y) ∧ rE (fun r => r = a) M M')) := sorry
/-- times a number of at most a thousand million -/
theorem c_scales {a : Int} {x b : Nat} (ha : 0 ≤ a ∧ a < 15) (hx : Vr M a x) (hb : b ≤ 1000000000) (hs : x * b < pw 62) (hd : 1 ≤ d) : tC e d 3699 [.inr (.inr (.inl 664)), .inl a, .inr (.inl (b : Int))] M n (tQn n (fun M' => Vr M' a (x * b) ∧ rE (fun r => r = a) M M')) := sorry
/-- divided by a number of at most a thousand million -/
theorem c_parts {a : Int} {x b : Nat} (ha : 0 ≤ a ∧ a < 15) (hx : Vr M a x) (hb : 0 < b ∧ b ≤ 1000000000) (hd : 1 ≤ d) : tC e d 3676 [.inr (.inr (.inl 664)), .inl a, .inr (.inl (b : Int))] M n (tQl n (fun z M' => z = ((x % b : Nat) : Int) ∧ Vr M' a (x / b) ∧ rE (fun r => r = a) M M')) := sorry
end MODEL
