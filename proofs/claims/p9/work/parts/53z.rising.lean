/-! THE MODEL: rising functions of boxes, whole. -/
section MODEL
variable {e : tE} {d n : Nat} {M : tM}
theorem c_rising {to a c : Int} {D : Nat} (hK : KI M) (hdg : M 664 2 = (D : Int)) (hD : D ≤ 10) (ht : 0 ≤ to ∧ to < 700) (ha : 0 ≤ a ∧ a < 700) (hca : bcan M a) (hle : zlo M a ≤ zhi M a) (hc : 0 ≤ c ∧ c < 65536) (hd : 7 ≤ d) :
    tC e d 3693 [.inr (.inr (.inl 664)), .inl to, .inl a, .inl c] M n (tQi n (fun z M' => res z M' to (fnb c 0 D (zlo M a)) (fnb c 1 D (zhi M a)) ∧ (z = 0 → c = 108 → 0 < zlo M a) ∧ xE (fun r => r = to) M M')) := sorry
end MODEL
