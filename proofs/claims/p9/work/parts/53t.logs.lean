/-! THE MODEL: the logarithm, whole. -/
theorem cmp_c (x y : Nat) : cmpv x y < 0 ∧ -1 ≤ cmpv x y ∧ x < y ∨ 0 ≤ cmpv x y ∧ cmpv x y ≤ 1 ∧ y ≤ x := sorry
section MODEL
variable {e : tE} {d n : Nat} {M : tM}
theorem c_logs {u l up : Int} {D z : Nat} (hK : KI M) (hdg : M 664 2 = (D : Int)) (hD : D ≤ 10) (hl : 0 ≤ l ∧ l < 1000000000) (hz : 0 < z ∧ z ≤ 30000000000000000000000) (hZ : u * 1000000000 + l = (z : Int)) (hup : up = 0 ∨ up = 1) (hd : 5 ≤ d) :
    tC e d 3647 [.inr (.inr (.inl 664)), .inr (.inl u), .inr (.inl l), .inl up] M n (tQi n (fun zz M' => (zz = 1 ∧ zb M' = lgb up D z ∧ (-10000000000000000000000 < lgb up D z ∧ lgb up D z < 10000000000000000000000) ∧ cb M' ∨ zz = 0) ∧ qE rEx M M')) := sorry
end MODEL
