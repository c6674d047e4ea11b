/-! THE MODEL: rows of limbs: comparing, adding, taking away, small factors. -/
theorem Dr_lt {M : tM} {r : Int} {m x k : Nat} (h : Dr M r m x) (hz : m = 0 ∨ pw (m - 1) ≤ x) (hx : x < pw k) : m ≤ k := sorry
theorem pw_half {x m : Nat} (h : m = 0 ∨ pw (m - 1) ≤ x) (h0 : m ≠ 0) : pw (m - 1) ≤ x := sorry
section MODEL
variable {e : tE} {d n : Nat} {M : tM}
theorem c_compares {a b : Int} {x y : Nat} (ha : 0 ≤ a ∧ a < 15) (hb : 0 ≤ b ∧ b < 15) (hx : Vr M a x) (hy : Vr M b y) (hd : 1 ≤ d) : tC e d 3599 [.inr (.inr (.inl 664)), .inl a, .inl b] M n (tQi n (fun z M' => z = cmpv x y ∧ M = M')) := sorry
theorem c_plus {a b : Int} {x y : Nat} (ha : 0 ≤ a ∧ a < 15) (hb : 0 ≤ b ∧ b < 15) (hab : a ≠ b) (hx : Vr M a x) (hy : Vr M b y) (hs : x + y < pw 62) (hd : 1 ≤ d) : tC e d 3679 [.inr (.inr (.inl 664)), .inl a, .inl b] M n (tQn n (fun M' => Vr M' a (x + y) ∧ rE (fun r => r = a) M M')) := sorry
end MODEL
