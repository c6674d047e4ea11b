/-! THE MODEL: the arcus tangens read. -/
section MODEL
variable {e : tE} {d n : Nat} {M : tM}
theorem l_arcs {u l up fl : Int} {w V : Nat} {R : tR → tM → Nat → Prop} (hw : w * 2 ≤ U6) (hd : 3 ≤ d)
    (fin : ∀ (M' : tM) (v9 : Option tV) (k : Int), Vr M' 8 V → V ≤ 4 * U6 → qE rEx M M' → tT e d 3590 281 [some (.inr (.inr (.inl 664))), some (.inr (.inl u)), none, some (.inr (.inl l)), none, some (.inl up), some (.inl fl), some (.inr (.inl k)), none, v9, none] [] M' n R) :
    ∀ (f t k acc : Nat) (M1 : tM) (v9 : Option tV), atS w f t k acc = V → t < 2 ^ f → f + k = 201 → 0 < k → acc + 2 * t ≤ 4 * U6 → Vr M1 7 t → Vr M1 8 acc → Vr M1 9 w → qE rEx M M1 →
      tT e d 3590 210 [some (.inr (.inr (.inl 664))), some (.inr (.inl u)), none, some (.inr (.inl l)), none, some (.inl up), some (.inl fl), some (.inr (.inl (k : Int))), none, v9, none] [] M1 n R := sorry
end MODEL
