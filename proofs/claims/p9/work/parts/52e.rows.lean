/-! THE MODEL: rows of limbs: shifts, tens, products. -/
section MODEL
variable {e : tE} {d n : Nat} {M : tM}
theorem c_ten {k : Nat} (hk : k ≤ 18) : tC e d 3721 [.inl (k : Int)] M n (tQl n (fun z M' => z = ((tn k : Nat) : Int) ∧ M = M')) := sorry
theorem c_shl {a : Int} {x b : Nat} (ha : 0 ≤ a ∧ a < 15) (hx : Vr M a x) (hb : b ≤ 60) (hs : x * pw b < pw 62) (hd : 1 ≤ d) : tC e d 3703 [.inr (.inr (.inl 664)), .inl a, .inl (b : Int)] M n (tQn n (fun M' => Vr M' a (x * pw b) ∧ rE (fun r => r = a) M M')) := sorry
theorem c_shr {a : Int} {x b : Nat} (ha : 0 ≤ a ∧ a < 15) (hx : Vr M a x) (hb : 0 < b ∧ b ≤ 60) (hd : 1 ≤ d) : tC e d 3703 [.inr (.inr (.inl 664)), .inl a, .inl (-(b : Int))] M n (tQn n (fun M' => Vr M' a (x / pw b) ∧ rE (fun r => r = a) M M')) := sorry
/-- times a power of ten -/
theorem c_tens {a : Int} {x b : Nat} (ha : 0 ≤ a ∧ a < 15) (hx : Vr M a x) (hb : b ≤ 1000) (hs : x * tn b < pw 62) (hd : 2 ≤ d) : tC e d 3722 [.inr (.inr (.inl 664)), .inl a, .inl (b : Int)] M n (tQi n (fun z M' => z = 0 ∧ Vr M' a (x * tn b) ∧ rE (fun r => r = a) M M')) := sorry
/-- by a power of ten; whether something is left -/
theorem c_tensd {a : Int} {x b : Nat} (ha : 0 ≤ a ∧ a < 15) (hx : Vr M a x) (hb : b ≤ 1000) (hd : 2 ≤ d) : tC e d 3722 [.inr (.inr (.inl 664)), .inl a, .inl (-(b : Int))] M n (tQi n (fun z M' => z = (if x % tn b = 0 then 0 else 1) ∧ Vr M' a (x / tn b) ∧ rE (fun r => r = a) M M')) := sorry
end MODEL
