/-! THE MODEL: rows of limbs, go on. -/
section MODEL
variable {e : tE} {d n : Nat} {M : tM}
theorem c_copies {a b : Int} {x : Nat} (ha : 0 ≤ a ∧ a < 15) (hb : 0 ≤ b ∧ b < 15) (hab : a ≠ b) (h : Vr M a x) (hd : 1 ≤ d) : tC e d 3601 [.inr (.inr (.inl 664)), .inl a, .inl b] M n (tQn n (fun M' => Vr M' b x ∧ rE (fun r => r = b) M M')) := sorry
theorem c_sets {row : Int} {u l : Nat} (hr : 0 ≤ row ∧ row < 15) (hu : u < 9223372036854775808) (hl : l < 1000000000) (hd : 1 ≤ d) : tC e d 3702 [.inr (.inr (.inl 664)), .inl row, .inr (.inl (u : Int)), .inr (.inl (l : Int))] M n (tQn n (fun M' => Vr M' row (u * 1000000000 + l) ∧ rE (fun r => r = row) M M')) := sorry
end MODEL
