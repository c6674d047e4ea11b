/-! THE MODEL: the exponential read. -/
section MODEL
variable {e : tE} {d n : Nat} {M : tM}
def rBs : Int → Prop := fun r => r = 5 ∨ r = 7 ∨ r = 8 ∨ r = 9
theorem c_needsBase (hK : KI M) (hd : 4 ≤ d) : tC e d 3661 [.inr (.inr (.inl 664))] M n (tQn n (fun M' => M' 664 14 = 1 ∧ Vr M' 13 BSc ∧ qE rBs M M')) := sorry
noncomputable def exb (up : Int) (D : Nat) (z : Int) : Int := if z = 0 then 10000000000 else deepb up D (exF z).toNat 0
theorem BSc_le : BSc ≤ 3 * U6 := sorry
theorem BSc_tn : BSc < tn 55 := sorry
theorem mulB_b (q : Nat) : ∀ v, mulB BSc q v ≤ 3 ^ q * v := sorry
theorem mulB_tn {q s : Nat} (hq : q ≤ 60) (hs : s ≤ U6) : mulB BSc q (serv s) < tn 100 := sorry
def rEx : Int → Prop := fun r => r = 0 ∨ r = 1 ∨ r = 2 ∨ r = 3 ∨ r = 4 ∨ r = 5 ∨ r = 6 ∨ r = 7 ∨ r = 8 ∨ r = 9 ∨ r = 10 ∨ r = 14
theorem qE_rr {S S' : Int → Prop} {M M' : tM} (h : rE S M M') (hs : ∀ r, S r → S' r) (h1 : ¬ S' 11) (h2 : ¬ S' 12) (h3 : ¬ S' 13) : qE S' M M' := sorry
theorem rEx_n : ¬ rEx 11 ∧ ¬ rEx 12 ∧ ¬ rEx 13 := sorry
theorem qx {S : Int → Prop} {M M' : tM} (h : rE S M M') (hs : ∀ r, S r → rEx r) : qE rEx M M' := sorry
theorem c_raises {u l up : Int} {D : Nat} (hK : KI M) (hdg : M 664 2 = (D : Int)) (hD : D ≤ 10) (hl : 0 ≤ l ∧ l < 1000000000) (hz : -30000000000000000000000 ≤ u * 1000000000 + l ∧ u * 1000000000 + l ≤ 30000000000000000000000) (hup : up = 0 ∨ up = 1) (hd : 5 ≤ d) :
    tC e d 3685 [.inr (.inr (.inl 664)), .inr (.inl u), .inr (.inl l), .inl up] M n (tQi n (fun z M' => (z = 1 ∧ zb M' = exb up D (u * 1000000000 + l) ∧ (-10000000000000000000000 < exb up D (u * 1000000000 + l) ∧ exb up D (u * 1000000000 + l) < 10000000000000000000000) ∧ cb M' ∨ z = 0) ∧ qE rEx M M')) := sorry
/-- The bounds hold the number in between. -/
theorem exb_in {D : Nat} {z : Int} (hD : D ≤ 10) : exb 0 D z * (U4 : Int) ≤ exF z ∧ exF z ≤ exb 1 D z * (U4 : Int) := sorry
end MODEL
