/-! THE MODEL: rows of limbs. -/
theorem tshm_14 : tsh 664 = 14 := sorry
theorem tshm_31 : tsh 665 = 31 := sorry
theorem tshm_32 : tsh 666 = 32 := sorry
theorem tykm_14 : tyk 14 = (0, 14, 43) := sorry
theorem tykm_31 : tyk 31 = (2, 2, 960) := sorry
theorem tykm_32 : tyk 32 = (1, 1, 15) := sorry
def Dr (M : tM) (r : Int) (m x : Nat) : Prop := M 666 r = (m : Int) ∧ m ≤ 62 ∧ x < pw m ∧ ∀ i : Nat, i < m → M 665 (64 * r + (i : Int)) = ((dg x i : Nat) : Int)
def Vr (M : tM) (r : Int) (x : Nat) : Prop := ∃ m, Dr M r m x ∧ (m = 0 ∨ pw (m - 1) ≤ x)
def rE (S : Int → Prop) (M M' : tM) : Prop := (∀ (k : Nat) (i : Int), k ≠ 665 → k ≠ 666 → M' k i = M k i) ∧ (∀ r : Int, ¬ S r → M' 666 r = M 666 r) ∧ (∀ r j : Int, ¬ S r → 0 ≤ j → j < 64 → M' 665 (64 * r + j) = M 665 (64 * r + j))
theorem rE_refl {S : Int → Prop} {M : tM} : rE S M M := sorry
theorem rE_tr {S : Int → Prop} {M M1 M2 : tM} (h1 : rE S M M1) (h2 : rE S M1 M2) : rE S M M2 := sorry
theorem rE_mono {S S' : Int → Prop} {M M' : tM} (h : rE S M M') (hs : ∀ r, S r → S' r) : rE S' M M' := sorry
theorem rE_l {S : Int → Prop} {M : tM} {a k v : Int} (hs : S a) (hk : 0 ≤ k ∧ k < 64) : rE S M (tU M 665 (64 * a + k) v) := sorry
theorem rE_m {S : Int → Prop} {M : tM} {a v : Int} (hs : S a) : rE S M (tU M 666 a v) := sorry
theorem Dr_E {S : Int → Prop} {M M' : tM} {r : Int} {m x : Nat} (h : Dr M r m x) (he : rE S M M') (hs : ¬ S r) : Dr M' r m x := sorry
theorem Vr_E {S : Int → Prop} {M M' : tM} {r : Int} {x : Nat} (h : Vr M r x) (he : rE S M M') (hs : ¬ S r) : Vr M' r x := sorry
theorem Dr_dg {M : tM} {r : Int} {m x : Nat} (h : Dr M r m x) (k : Nat) : (if (k : Int) < M 666 r then M 665 (64 * r + (k : Int)) else 0) = ((dg x k : Nat) : Int) := sorry
section MODEL
variable {e : tE} {d n : Nat} {M : tM}
/-- a limb, in any state -/
theorem c_limb0 {row k : Int} (hr : 0 ≤ row ∧ row < 15) (hk : 0 ≤ k ∧ k < 64) (hm : 0 ≤ M 666 row ∧ M 666 row < 100) : tC e d 3646 [.inr (.inr (.inl 664)), .inl row, .inl k] M n (tQl n (fun x M' => x = (if k < M 666 row then M 665 (64 * row + k) else 0) ∧ M = M')) := sorry
theorem c_limb {row : Int} {m x k : Nat} (hr : 0 ≤ row ∧ row < 15) (h : Dr M row m x) (hk : k < 64) : tC e d 3646 [.inr (.inr (.inl 664)), .inl row, .inl (k : Int)] M n (tQl n (fun y M' => y = ((dg x k : Nat) : Int) ∧ M = M')) := sorry
theorem c_lets {row k v : Int} (hr : 0 ≤ row ∧ row < 15) (hk : 0 ≤ k ∧ k < 64) : tC e d 3644 [.inr (.inr (.inl 664)), .inl row, .inl k, .inr (.inl v)] M n (tQn n (fun M' => M' = tU M 665 (64 * row + k) v)) := sorry
/-- what stands in a row, not trimmed -/
theorem c_trims {row : Int} {x : Nat} (hr : 0 ≤ row ∧ row < 15) : ∀ {m : Nat} {M : tM}, Dr M row m x → tC e d 3726 [.inr (.inr (.inl 664)), .inl row] M n (tQn n (fun M' => Vr M' row x ∧ rE (fun r => r = row) M M')) := sorry
end MODEL
