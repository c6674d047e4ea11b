/-! THE MODEL: the logarithm read. -/
theorem aS_end {w f t k acc : Nat} (h : t = 0) : aS w f t k acc = acc := sorry
section MODEL
variable {e : tE} {d n : Nat} {M : tM}
theorem b60U {x : Nat} (h : x ≤ 9 * U6) : x < pw 62 := sorry
theorem sq_pw {x y : Nat} (hx : x ≤ 9 * U6) (hy : y ≤ 9 * U6) : x * y < pw 61 := sorry
theorem l_logs {u l up a tw neg : Int} {w V : Nat} {R : tR → tM → Nat → Prop} {v6 : Option tV} (hw : w * 2 ≤ U6) (hd : 3 ≤ d)
    (fin : ∀ (M' : tM) (v8 : Option tV) (k : Int), Vr M' 8 V → V ≤ 4 * U6 → qE rEx M M' → tT e d 3647 333 [some (.inr (.inr (.inl 664))), some (.inr (.inl u)), none, some (.inr (.inl l)), none, some (.inl up), v6, some (.inl tw), v8, none, some (.inl neg), some (.inr (.inl k)), none] [] M' n R) :
    ∀ (f t k acc : Nat) (M1 : tM) (v8 : Option tV), aS w f t k acc = V → t < 2 ^ f → f * 2 + k = 403 → 0 < k → acc + 2 * t ≤ 4 * U6 → Vr M1 7 t → Vr M1 8 acc → Vr M1 10 w → qE rEx M M1 →
      tT e d 3647 270 [some (.inr (.inr (.inl 664))), some (.inr (.inl u)), none, some (.inr (.inl l)), none, some (.inl up), v6, some (.inl tw), v8, none, some (.inl neg), some (.inr (.inl (k : Int))), none] [] M1 n R := sorry
end MODEL
