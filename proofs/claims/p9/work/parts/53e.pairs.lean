/-! THE MODEL: products and quotients of bounds. -/
/-- divided, down or up -/
def rdv (up p q : Int) : Int := if up = 0 then p / q else -((-p) / q)
theorem rdv_nat {p : Int} {q : Nat} {hm ib up : Int} (hq : 0 < q) (hhm : hm = (if p.natAbs % q = 0 then 0 else 1)) (hib : ib = 1 ∧ p ≤ 0 ∨ ib = 0 ∧ 0 ≤ p) (hup : up = 0 ∨ up = 1) : (if ib = 1 then -((tlu (p.natAbs / q) hm ib up : Nat) : Int) else ((tlu (p.natAbs / q) hm ib up : Nat) : Int)) = rdv up p (q : Int) := sorry
def sgn (y : Int) : Int := if y < 0 then -1 else 1
/-- what a pair of bounds makes: their product, or their quotient -/
noncomputable def pr (D : Nat) (iq up x y : Int) : Int := if iq = 0 then uu D * rdv up (x * y) ((tn (20 - D) : Nat) : Int) else uu D * rdv up (x * ((tn D : Nat) : Int) * sgn y) ((y.natAbs : Nat) : Int)
abbrev rPr : Int → Prop := fun r => r = 0 ∨ r = 1 ∨ r = 2 ∨ r = 3 ∨ r = 4 ∨ r = 5 ∨ r = 14
def sel (h l u : Int) : Int := if h = 0 then l else u
theorem pw_60b : (90000000000000000000000000000000000000000000000000000000000000000000000000000000 : Nat) < pw 60 := sorry
theorem tn_20 : tn 20 = 100000000000000000000 := sorry
section MODEL
variable {e : tE} {d n : Nat} {M : tM}
set_option maxRecDepth 4000 in
theorem c_pair {a hA b hB iq up : Int} {D : Nat} (hdg : M 664 2 = (D : Int)) (hD : D ≤ 10) (ha : 0 ≤ a ∧ a < 700) (hb : 0 ≤ b ∧ b < 700) (hca : bcan M a) (hcb : bcan M b) (hhA : hA = 0 ∨ hA = 1) (hhB : hB = 0 ∨ hB = 1) (hiq : iq = 0 ∨ iq = 1) (hup : up = 0 ∨ up = 1) (hy0 : iq = 1 → sel hB (zlo M b) (zhi M b) ≠ 0) (hd : 4 ≤ d) :
    tC e d 3673 [.inr (.inr (.inl 664)), .inl a, .inl hA, .inl b, .inl hB, .inl iq, .inl up] M n (tQi n (fun z M' => (z = 1 ∧ zb M' = pr D iq up (sel hA (zlo M a) (zhi M a)) (sel hB (zlo M b) (zhi M b)) ∧ (-10000000000000000000000 < zb M' ∧ zb M' < 10000000000000000000000) ∧ cb M' ∨ z = 0) ∧ rU rPr M M')) := sorry
end MODEL
