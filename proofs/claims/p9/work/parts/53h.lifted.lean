/-! THE MODEL: powers of boxes. -/
section MODEL
variable {e : tE} {d n : Nat} {M : tM}
theorem c_lifted {to a : Int} {k D : Nat} (hdg : M 664 2 = (D : Int)) (hD : D ≤ 10) (ht : 0 ≤ to ∧ to < 700) (ha : 0 ≤ a ∧ a < 700) (hca : bcan M a) (hk : k ≤ 9) (hd : 5 ≤ d) :
    tC e d 3645 [.inr (.inr (.inl 664)), .inl to, .inl a, .inl (k : Int)] M n (tQi n (fun z M' => res z M' to (lfL D k (zlo M a) (zhi M a)) (lfH D k (zlo M a) (zhi M a)) ∧ xE (fun r => r = to) M M')) := sorry
end MODEL
