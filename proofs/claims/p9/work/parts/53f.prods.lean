/-! THE MODEL: products and quotients of boxes. -/
def imn (c x : Int) : Int := if x < c then x else c
def imx (c x : Int) : Int := if c < x then x else c
noncomputable def mn4 (D : Nat) (iq l1 h1 l2 h2 : Int) : Int := imn (imn (imn (pr D iq 0 l1 l2) (pr D iq 0 h1 l2)) (pr D iq 0 l1 h2)) (pr D iq 0 h1 h2)
noncomputable def mx4 (D : Nat) (iq l1 h1 l2 h2 : Int) : Int := imx (imx (imx (pr D iq 1 l1 l2) (pr D iq 1 h1 l2)) (pr D iq 1 l1 h2)) (pr D iq 1 h1 h2)
theorem tmod_2 {a : Nat} : ((a : Int)).tmod 2 = ((a % 2 : Nat) : Int) := sorry
section MODEL
variable {e : tE} {d n : Nat} {M : tM}
theorem c_four {to a b iq f : Int} {D : Nat} (hdg : M 664 2 = (D : Int)) (hD : D ≤ 10) (hf : M 664 11 = f) (hf2 : 0 ≤ f ∧ f < 700) (ht : 0 ≤ to ∧ to < 700) (ha : 0 ≤ a ∧ a < f) (hb : 0 ≤ b ∧ b < f) (hB : BI M) (hiq : iq = 0 ∨ iq = 1) (hy0 : iq = 1 → zlo M b ≠ 0 ∧ zhi M b ≠ 0) (hd : 5 ≤ d) :
    tC e d 3616 [.inr (.inr (.inl 664)), .inl to, .inl a, .inl b, .inl iq] M n (tQi n (fun z M' => res z M' to (mn4 D iq (zlo M a) (zhi M a) (zlo M b) (zhi M b)) (mx4 D iq (zlo M a) (zhi M a) (zlo M b) (zhi M b)) ∧ xE (toF to f) M M')) := sorry
theorem c_product {to a b f : Int} {D : Nat} (hdg : M 664 2 = (D : Int)) (hD : D ≤ 10) (hf : M 664 11 = f) (hf2 : 0 ≤ f ∧ f < 700) (ht : 0 ≤ to ∧ to < 700) (ha : 0 ≤ a ∧ a < f) (hb : 0 ≤ b ∧ b < f) (hB : BI M) (hd : 6 ≤ d) :
    tC e d 3682 [.inr (.inr (.inl 664)), .inl to, .inl a, .inl b] M n (tQi n (fun z M' => res z M' to (mn4 D 0 (zlo M a) (zhi M a) (zlo M b) (zhi M b)) (mx4 D 0 (zlo M a) (zhi M a) (zlo M b) (zhi M b)) ∧ xE (toF to f) M M')) := sorry
theorem c_quotient {to a b f : Int} {D : Nat} (hdg : M 664 2 = (D : Int)) (hD : D ≤ 10) (hf : M 664 11 = f) (hf2 : 0 ≤ f ∧ f < 700) (ht : 0 ≤ to ∧ to < 700) (ha : 0 ≤ a ∧ a < f) (hb : 0 ≤ b ∧ b < f) (hB : BI M) (hord : zlo M b ≤ zhi M b) (hd : 6 ≤ d) :
    tC e d 3684 [.inr (.inr (.inl 664)), .inl to, .inl a, .inl b] M n (tQi n (fun z M' => res z M' to (mn4 D 1 (zlo M a) (zhi M a) (zlo M b) (zhi M b)) (mx4 D 1 (zlo M a) (zhi M a) (zlo M b) (zhi M b)) ∧ (z = 0 → 0 < zlo M b ∨ zhi M b < 0) ∧ xE (toF to f) M M')) := sorry
end MODEL
