/-! THE MODEL: roots and numbers. -/
theorem rtv_ex : ∃ f : Nat → Nat → Nat, ∀ b x, b ≠ 0 → f b x ≤ 100000000000000000 ∧ f b x ^ b ≤ x ∧ ∀ s, s ≤ 100000000000000000 → s ^ b ≤ x → s ≤ f b x := sorry
noncomputable def rtv : Nat → Nat → Nat := Classical.choose rtv_ex
theorem rtv_sp (b x : Nat) (hb : b ≠ 0) : rtv b x ≤ 100000000000000000 ∧ rtv b x ^ b ≤ x ∧ ∀ s, s ≤ 100000000000000000 → s ^ b ≤ x → s ≤ rtv b x := sorry
/-- The number whose root is taken, and whether something was cut off. -/
noncomputable def rxv (D b a : Nat) : Nat := if 10 ≤ b * D then a * tn (b * D - 10) else a / tn (10 - b * D)
noncomputable def rxf (D b a : Nat) : Int := if 10 ≤ b * D then 0 else if a % tn (10 - b * D) = 0 then 0 else 1
noncomputable def rth (D b a : Nat) : Int := if rxf D b a = 0 ∧ rtv b (rxv D b a) ^ b = rxv D b a then 0 else 1
noncomputable def rtb (up : Int) (D b a : Nat) : Int := ((tlu (rtv b (rxv D b a)) (rth D b a) 0 up * tn (10 - D) : Nat) : Int)
def rRt : Int → Prop := fun r => r = 4 ∨ r = 5 ∨ r = 7 ∨ r = 8 ∨ r = 9 ∨ r = 14
theorem tn_lt {a b : Nat} (h : a < b) : tn a < tn b := sorry
theorem tn_pw {k j : Nat} (h : k < 9 * j) : tn k < pw j := sorry
theorem tn_17 : tn 17 = 100000000000000000 := sorry
theorem tn_23 : tn 23 = 100000000000000000000000 := sorry
theorem pow17 {m : Nat} (h : m ≤ 100000000000000000) (i : Nat) : m ^ i ≤ tn (17 * i) := sorry
theorem rtv_lt {b x m : Nat} (hb : b ≠ 0) (hm : m ≤ 100000000000000000) (h : x < m ^ b) : rtv b x < m := sorry
section MODEL
variable {e : tE} {d n : Nat} {M : tM}
theorem c_roots {u l up : Int} {b D : Nat} (hdg : M 664 2 = (D : Int)) (hD : D ≤ 10) (hl : 0 ≤ l ∧ l < 1000000000) (hz : 0 ≤ u * 1000000000 + l ∧ u * 1000000000 + l ≤ 30000000000000000000000) (hb : 2 ≤ b ∧ b ≤ 9) (hup : up = 0 ∨ up = 1) (hd : 4 ≤ d) :
    tC e d 3696 [.inr (.inr (.inl 664)), .inr (.inl u), .inr (.inl l), .inl (b : Int), .inl up] M n (tQi n (fun z M' => (z = 1 ∧ zb M' = rtb up D b (u * 1000000000 + l).toNat ∧ rtb up D b (u * 1000000000 + l).toNat < 10000000000000000000000 ∧ cb M' ∨ z = 0) ∧ rU rRt M M')) := sorry
end MODEL
