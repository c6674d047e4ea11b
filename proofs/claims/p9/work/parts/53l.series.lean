/-! THE MODEL: the series read, the last step of each. -/
/-- 10^44, opaque. -/
theorem U4_ex : ∃ u : Nat, u = 100000000000000000000000000000000000000000000 := sorry
noncomputable def U4 : Nat := Classical.choose U4_ex
theorem U4_def : U4 = 100000000000000000000000000000000000000000000 := sorry
theorem U4_tn : U4 = tn 44 := sorry
theorem U4_pos : 0 < U4 := sorry
theorem U6_U4 : U6 = 10000000000 * U4 := sorry
theorem U6_lt : U6 < tn 55 := sorry
def fcl : Nat → Nat
  | 0 => 1
  | k + 1 => fcl k * (k + 1)
theorem fcl_60 : 1000000000000000000000000000000000000000000000000000000 < fcl 60 := sorry
theorem fcl_pos : ∀ k, 0 < fcl k := sorry
section MODEL
variable {e : tE} {d n : Nat} {M : tM}
def rSe : Int → Prop := fun r => r = 5 ∨ r = 7 ∨ r = 8
/-- t shrinks as the factorials grow: after 60 steps nothing is left. -/
theorem c_series {s : Nat} (hs : s ≤ U6) (hV : Vr M 9 s) (hd : 3 ≤ d) :
    tC e d 3700 [.inr (.inr (.inl 664))] M n (tQn n (fun M' => Vr M' 8 (serv s) ∧ serv s ≤ 61 * U6 ∧ rE rSe M M')) := sorry
end MODEL
