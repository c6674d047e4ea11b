/-! THE MODEL: rising functions of boxes. -/
noncomputable def fnb (c up : Int) (D : Nat) (z : Int) : Int := if c = 101 then exb up D z else if c = 108 then lgb up D z.toNat else atb up D z
theorem fnb_le {c : Int} {D : Nat} {a b : Int} (hD : D ≤ 10) (h : a ≤ b) (ha : -30000000000000000000000 ≤ a) (hb : b ≤ 30000000000000000000000) (hl : c = 108 → 0 < a) : fnb c 0 D a ≤ fnb c 1 D b := sorry
section MODEL
variable {e : tE} {d n : Nat} {M : tM}
theorem c_rises {c u l up : Int} {D : Nat} (hK : KI M) (hdg : M 664 2 = (D : Int)) (hD : D ≤ 10) (hc : 0 ≤ c ∧ c < 65536) (hl : 0 ≤ l ∧ l < 1000000000) (hz : -30000000000000000000000 ≤ u * 1000000000 + l ∧ u * 1000000000 + l ≤ 30000000000000000000000) (hp : c = 108 → 0 < u * 1000000000 + l) (hup : up = 0 ∨ up = 1) (hd : 6 ≤ d) :
    tC e d 3692 [.inr (.inr (.inl 664)), .inl c, .inr (.inl u), .inr (.inl l), .inl up] M n (tQi n (fun zz M' => (zz = 1 ∧ zb M' = fnb c up D (u * 1000000000 + l) ∧ (-10000000000000000000000 < fnb c up D (u * 1000000000 + l) ∧ fnb c up D (u * 1000000000 + l) < 10000000000000000000000) ∧ cb M' ∨ zz = 0) ∧ qE rEx M M')) := sorry
end MODEL
