/-! THE MODEL: the logarithm's end. -/
theorem dnE_le (x : Nat) : ∀ E, dnE x E ≤ E := sorry
theorem upE_le (x : Nat) : ∀ f E, upE x f E ≤ E + f := sorry
theorem lgE_le (x : Nat) : lgE x ≤ 84 := sorry
theorem LGc_U : LGc ≤ U6 := sorry
section MODEL
variable {e : tE} {d n : Nat} {M : tM}
theorem l333 {u l up : Int} {D z V : Nat} {v6 : Option tV} (hdg : M 664 2 = (D : Int)) (hD : D ≤ 10) (hup : up = 0 ∨ up = 1) (hd : 5 ≤ d) (hz : 0 < z ∧ z ≤ 30000000000000000000000) (hz1 : z ≠ 10000000000) (hV : ((V * 2 : Nat) : Int) = ((lgN (z * K4 * 2 ^ lgE (z * K4))).natAbs : Int)) (M' : tM) (v8 : Option tV) (k : Int) (q1 : Vr M' 8 V) (q2 : Vr M' 12 LGc) (q3 : qE rEx M M') :
    tT e d 3647 333 [some (.inr (.inr (.inl 664))), some (.inr (.inl u)), none, some (.inr (.inl l)), none, some (.inl up), v6, some (.inl (44 - (lgE (z * K4) : Int))), v8, none, some (.inl (if z * K4 * 2 ^ lgE (z * K4) < U6 then 1 else 0)), some (.inr (.inl k)), none] [] M' n
      (tQi n (fun zz M' => (zz = 1 ∧ zb M' = lgb up D z ∧ (-10000000000000000000000 < lgb up D z ∧ lgb up D z < 10000000000000000000000) ∧ cb M' ∨ zz = 0) ∧ qE rEx M M')) := sorry
end MODEL
