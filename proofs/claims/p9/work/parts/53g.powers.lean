/-! THE MODEL: powers. -/
noncomputable def pwr (up : Int) (D k : Nat) (z : Int) : Int := uu D * rdv up (z ^ k) ((tn (10 * k - D) : Nat) : Int)
noncomputable def lfL (D k : Nat) (l h : Int) : Int := if k = 0 then 10000000000 else if k % 2 = 0 ∧ h < 0 then pwr 0 D k h else if k % 2 = 0 ∧ l < 0 then 0 else pwr 0 D k l
noncomputable def lfH (D k : Nat) (l h : Int) : Int := if k = 0 then 10000000000 else if k % 2 = 0 ∧ h < 0 then pwr 1 D k l else if k % 2 = 0 ∧ l < 0 then imx (pwr 1 D k h) (pwr 1 D k l) else pwr 1 D k h
theorem pow_sign {z : Int} {k : Nat} : (k % 2 = 1 → z < 0 → z ^ k ≤ 0) ∧ (k % 2 = 0 → 0 ≤ z ^ k) ∧ (0 ≤ z → 0 ≤ z ^ k) := sorry
theorem pow_big {x k : Nat} (hx : x ≤ 30000000000000000000000) (hk : k ≤ 9) : x ^ k < pw 60 ∧ ∀ t, t ≤ x ^ k → (t + 1) * tn 10 < pw 60 := sorry
section MODEL
variable {e : tE} {d n : Nat} {M : tM}
set_option maxRecDepth 4000 in
theorem c_powers {u l up : Int} {k D : Nat} (hdg : M 664 2 = (D : Int)) (hD : D ≤ 10) (hl : 0 ≤ l ∧ l < 1000000000) (hz : -30000000000000000000000 ≤ u * 1000000000 + l ∧ u * 1000000000 + l ≤ 30000000000000000000000) (hk : 1 ≤ k ∧ k ≤ 9) (hup : up = 0 ∨ up = 1) (hd : 4 ≤ d) :
    tC e d 3681 [.inr (.inr (.inl 664)), .inr (.inl u), .inr (.inl l), .inl (k : Int), .inl up] M n (tQi n (fun z M' => (z = 1 ∧ zb M' = pwr up D k (u * 1000000000 + l) ∧ (-10000000000000000000000 < zb M' ∧ zb M' < 10000000000000000000000) ∧ cb M' ∨ z = 0) ∧ rU rPr M M')) := sorry
end MODEL
