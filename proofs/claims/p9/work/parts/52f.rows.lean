/-! THE MODEL: rows of limbs: products. -/
theorem dg_low {p z k j : Nat} (h : j < k) : dg (p + pw k * z) j = dg p j := sorry
theorem dg_high (p k j : Nat) : dg p (k + j) = dg (p / pw k) j := sorry
section MODEL
variable {e : tE} {d n : Nat} {M : tM}
theorem c_times {a b : Int} {x y : Nat} (ha : 0 ≤ a ∧ a < 15) (hb : 0 ≤ b ∧ b < 15) (ha5 : a ≠ 5) (hb5 : b ≠ 5) (hx : Vr M a x) (hy : Vr M b y) (hs : x * y < pw 61) (hd : 2 ≤ d) : tC e d 3724 [.inr (.inr (.inl 664)), .inl a, .inl b] M n (tQn n (fun M' => Vr M' a (x * y) ∧ rE (fun r => r = a ∨ r = 5) M M')) := sorry
end MODEL
