/-! THE MODEL: the arcus tangens, whole. -/
noncomputable def atb (up : Int) (D : Nat) (Z : Int) : Int := if Z = 0 then 0 else deepb up D (atF Z.natAbs) (if Z < 0 then 1 else 0)
noncomputable def atG (Z : Int) : Int := if Z < 0 then -(atF Z.natAbs : Int) else (atF Z.natAbs : Int)
theorem atV_0 : atV (0 * U4) = 0 := sorry
theorem atF_0 : atF 0 = 0 := sorry
theorem atb_in {D : Nat} {Z : Int} (hD : D ≤ 10) : atb 0 D Z * (U4 : Int) ≤ atG Z ∧ atG Z ≤ atb 1 D Z * (U4 : Int) := sorry
theorem atG_le {a b : Int} (h : a ≤ b) (ha : -30000000000000000000000 ≤ a) (hb : b ≤ 30000000000000000000000) : atG a ≤ atG b := sorry
theorem atF_b (z : Nat) (hz : z ≤ 30000000000000000000000) : atF z ≤ 9 * U6 := sorry
section MODEL
variable {e : tE} {d n : Nat} {M : tM}
theorem c_arcs {u l up : Int} {D : Nat} (hK : KI M) (hdg : M 664 2 = (D : Int)) (hD : D ≤ 10) (hl : 0 ≤ l ∧ l < 1000000000) (hz : -30000000000000000000000 ≤ u * 1000000000 + l ∧ u * 1000000000 + l ≤ 30000000000000000000000) (hup : up = 0 ∨ up = 1) (hd : 5 ≤ d) :
    tC e d 3590 [.inr (.inr (.inl 664)), .inr (.inl u), .inr (.inl l), .inl up] M n (tQi n (fun zz M' => (zz = 1 ∧ zb M' = atb up D (u * 1000000000 + l) ∧ (-10000000000000000000000 < atb up D (u * 1000000000 + l) ∧ atb up D (u * 1000000000 + l) < 10000000000000000000000) ∧ cb M' ∨ zz = 0) ∧ qE rEx M M')) := sorry
end MODEL
