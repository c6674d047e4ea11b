/-! THE MODEL: bounds: whole numbers of ten-thousand-millionths, in two longs. -/
def cmpz (x y : Int) : Int := if x < y then -1 else if x = y then 0 else 1
theorem cmpz_r (x y : Int) : -1 ≤ cmpz x y ∧ cmpz x y ≤ 1 := sorry
theorem cmpz_lt (x y : Int) : (cmpz x y < 0) ↔ x < y := sorry
theorem cmpz_le (x y : Int) : (cmpz x y ≤ 0) ↔ x ≤ y := sorry
theorem cmpz_gt (x y : Int) : (0 < cmpz x y) ↔ y < x := sorry
theorem cmpz_ge (x y : Int) : (0 ≤ cmpz x y) ↔ y ≤ x := sorry
theorem cmpz_eq (x y : Int) : (cmpz x y = 0) ↔ x = y := sorry
/-- the bound that is being worked on -/
def zb (M : tM) : Int := M 664 4 * 1000000000 + M 664 5
def cb (M : tM) : Prop := (0 ≤ M 664 5 ∧ M 664 5 < 1000000000) ∧ (-4000000000000000 ≤ M 664 4 ∧ M 664 4 ≤ 4000000000000000)
def uE (M M' : tM) : Prop := ∀ (k : Nat) (i : Int), ¬ (k = 664 ∧ (i = 4 ∨ i = 5)) → M' k i = M k i
theorem uE_refl {M : tM} : uE M M := sorry
theorem uE_tr {M M1 M2 : tM} (h1 : uE M M1) (h2 : uE M1 M2) : uE M M2 := sorry
theorem uE_4 {M : tM} {v : Int} : uE M (tU M 664 4 v) := sorry
theorem uE_5 {M : tM} {v : Int} : uE M (tU M 664 5 v) := sorry
def flo (U z : Int) : Int := z - z % U
def cei (U z : Int) : Int := if z % U = 0 then z else z - z % U + U
def rnd (up U z : Int) : Int := if up = 0 then flo U z else cei U z
def far (z : Int) : Prop := 10000000000000000000000 ≤ z ∨ z ≤ -10000000000000000000000
theorem u4_4 (M : tM) (v : Int) : tU M 664 4 v 664 4 = v := sorry
theorem u5_5 (M : tM) (v : Int) : tU M 664 5 v 664 5 = v := sorry
theorem u4_5 (M : tM) (v : Int) : tU M 664 4 v 664 5 = M 664 5 := sorry
theorem u5_4 (M : tM) (v : Int) : tU M 664 5 v 664 4 = M 664 4 := sorry
theorem u4_2 (M : tM) (v : Int) : tU M 664 4 v 664 2 = M 664 2 := sorry
theorem u5_2 (M : tM) (v : Int) : tU M 664 5 v 664 2 = M 664 2 := sorry
section MODEL
variable {e : tE} {d n : Nat} {M : tM}
theorem c_order {u l v k : Int} (hl : 0 ≤ l ∧ l < 1000000000) (hk : 0 ≤ k ∧ k < 1000000000) (hu : -4000000000000000000 ≤ u ∧ u ≤ 4000000000000000000) (hv : -4000000000000000000 ≤ v ∧ v ≤ 4000000000000000000) : tC e d 3671 [.inr (.inl u), .inr (.inl l), .inr (.inl v), .inr (.inl k)] M n (tQi n (fun z M' => z = cmpz (u * 1000000000 + l) (v * 1000000000 + k) ∧ M = M')) := sorry
theorem c_modulo {v b : Int} (hv : -4000000000000000000 ≤ v ∧ v ≤ 4000000000000000000) (hb : 0 < b ∧ b ≤ 4000000000000000000) : tC e d 3656 [.inr (.inl v), .inr (.inl b)] M n (tQl n (fun z M' => z = v % b ∧ M = M')) := sorry
theorem c_in {v a b : Int} (hv : -9223372036854775808 ≤ v ∧ v < 9223372036854775808) (ha : -9223372036854775808 ≤ a ∧ a < 9223372036854775808) (hb : -9223372036854775808 ≤ b ∧ b < 9223372036854775808) : tC e d 3626 [.inr (.inl v), .inr (.inl a), .inr (.inl b)] M n (tQi n (fun z M' => (z = 1 ∧ (a ≤ v ∧ v ≤ b) ∨ z = 0 ∧ ¬ (a ≤ v ∧ v ≤ b)) ∧ M = M')) := sorry
theorem c_isTooGreat (hc : cb M) : tC e d 3636 [.inr (.inr (.inl 664))] M n (tQi n (fun z M' => (z = 1 ∧ far (zb M) ∨ z = 0 ∧ ¬ far (zb M)) ∧ M = M')) := sorry
theorem c_turns (hc : cb M) (hz : -1000000000000000000000000 ≤ zb M ∧ zb M ≤ 1000000000000000000000000) : tC e d 3728 [.inr (.inr (.inl 664))] M n (tQn n (fun M' => zb M' = -zb M ∧ cb M' ∧ uE M M')) := sorry
theorem tn_dvd {a b : Nat} (h : a ≤ b) : ((tn a : Nat) : Int) ∣ ((tn b : Nat) : Int) := sorry
theorem emod_low {u l U N : Int} (h : U ∣ N) : (u * N + l) % U = l % U := sorry
theorem tn_10 : tn 10 = 10000000000 := sorry
theorem tn_le9 {k : Nat} (h : k ≤ 9) : tn k ≤ 1000000000 := sorry
/-- to so many digits, down or up -/
theorem c_rounds {m : Nat} {up : Int} (hm : m ≤ 10) (hup : up = 0 ∨ up = 1) (hc : cb M) (hz : -1000000000000000000000000 ≤ zb M ∧ zb M ≤ 1000000000000000000000000) (hd : 1 ≤ d) : tC e d 3697 [.inr (.inr (.inl 664)), .inl (m : Int), .inl up] M n (tQn n (fun M' => zb M' = rnd up (tn (10 - m) : Nat) (zb M) ∧ cb M' ∧ uE M M')) := sorry
end MODEL
