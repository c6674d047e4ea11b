/-! WHAT HOLDS BETWEEN CALLS: both together, and isSound. -/
/-- what is taken of the special methods -/
def EK (e : tE) : Prop := EO e ∧ EVr e ∧ ESL e ∧ SPT e
/-- what the class keeps -/
def CK (M : tM) : Prop := CI M ∧ KW M
theorem CK_ka {M M' : tM} (k : KA M M') : CK M' := ⟨k.1.1, k.2⟩
theorem CK_U {M : tM} (h : CK M) : UN M := h.2.1.1.1
section HAND
variable {e : tE} {d n : Nat} {M : tM}
theorem v_isSound (he : EVr e) (hK : KW M) (hC : CI M) (hd : 10 ≤ d) : tC e d 3363 [.inr (.inr (.inl 0))] M n (tQi n (fun z M' => z = 1 ∧ KA M M')) := by
  refine tC_mono (e_isSound hK.1 he hC hd) ?_
  rintro v M' n' ⟨z, rfl, rfl, hz, ro, f, u⟩
  refine ⟨z, rfl, rfl, hz, KA_f hK f.1 ?_ ro (fun k i g => f.2 k i (by unfold KPC at g; omega) (by unfold KPC at g; omega) (by unfold KPC at g; omega) (by unfold KPC at g; omega) (by unfold KPC at g; omega))⟩
  intro k i q
  by_cases g : k = 78 ∧ i = 5
  · rw [g.1, g.2]
    exact u
  · have g2 : 664 ≤ k ∨ k = 0 := by
      unfold prt at q
      omega
    exact f.2 k i (by omega) (by omega) (by omega) (by omega) (by omega)
end HAND
section KROWS
variable {e : tE} {mi a D n d : Nat} {o : bO} {vs rest : List tV} {L : tL} {M : tM} {Q : tR → tM → Nat → Prop} {k : tL → List tV → tM → Nat → Prop}
theorem tk_i {P : Int → Prop} (h : ∀ d', D ≤ d' → sC e 0 d' a vs n (SQi n P)) (g : ∀ d', D ≤ d' → tC e d' a vs M n (fun _ M' _ => KA M M')) (hp : SPT e) (hC : CK M) (hd : D + 1 ≤ d) (hk : ∀ z M', P z → CK M' → pE 0 M M' → k L (.inl z :: rest) M' n) : tcall e d mi a o vs rest L M n Q k :=
  ⟨d - 1, by omega, _, kv hp (h (d - 1) (by omega)) (g (d - 1) (by omega)) hC.1, fun v M' n' q => by obtain ⟨q1, x, q2, rfl, q3⟩ := q; cases q2; exact hk x M' q3 (CK_ka q1) q1.1.2, fun v M' n' q => by obtain ⟨-, x, q1, q2⟩ := q; cases q1⟩
theorem tk_l {P : Int → Prop} (h : ∀ d', D ≤ d' → sC e 0 d' a vs n (SQl n P)) (g : ∀ d', D ≤ d' → tC e d' a vs M n (fun _ M' _ => KA M M')) (hp : SPT e) (hC : CK M) (hd : D + 1 ≤ d) (hk : ∀ z M', P z → CK M' → pE 0 M M' → k L (.inr (.inl z) :: rest) M' n) : tcall e d mi a o vs rest L M n Q k :=
  ⟨d - 1, by omega, _, kv hp (h (d - 1) (by omega)) (g (d - 1) (by omega)) hC.1, fun v M' n' q => by obtain ⟨q1, x, q2, rfl, q3⟩ := q; cases q2; exact hk x M' q3 (CK_ka q1) q1.1.2, fun v M' n' q => by obtain ⟨-, x, q1, q2⟩ := q; cases q1⟩
end KROWS
