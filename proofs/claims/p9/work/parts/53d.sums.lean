/-! THE MODEL: sums, differences, negatives, sizes. -/
/-- what an act has come to: a box, or 1 or 2 -/
def res (z : Int) (M' : tM) (to lo hi : Int) : Prop := (z = 0 ∨ z = 1 ∨ z = 2) ∧ (z = 0 → zlo M' to = lo ∧ zhi M' to = hi) ∧ (z = 0 → -10000000000000000000000 ≤ lo ∧ hi ≤ 10000000000000000000000)
theorem res_2 {M' : tM} {to lo hi : Int} : res 2 M' to lo hi := sorry
theorem res_1 {M' : tM} {to lo hi : Int} : res 1 M' to lo hi := sorry
theorem res_0 {M' : tM} {to lo hi : Int} (h1 : zlo M' to = lo) (h2 : zhi M' to = hi) (h3 : -10000000000000000000000 ≤ lo ∧ hi ≤ 10000000000000000000000) : res 0 M' to lo hi := sorry
theorem nfar {z : Int} (h : ¬ far z) : -10000000000000000000000 < z ∧ z < 10000000000000000000000 := sorry
noncomputable def uu (D : Nat) : Int := ((tn (10 - D) : Nat) : Int)
theorem uu_pos (D : Nat) : 0 < uu D := sorry
theorem uu_le (D : Nat) : uu D ≤ 10000000000 := sorry
theorem nB : ¬ isB 664 := sorry
section MODEL
variable {e : tE} {d n : Nat} {M : tM}
theorem c_sum {to a b : Int} {D : Nat} (hdg : M 664 2 = (D : Int)) (hD : D ≤ 10) (ht : 0 ≤ to ∧ to < 700) (ha : 0 ≤ a ∧ a < 700) (hb : 0 ≤ b ∧ b < 700) (hca : bcan M a) (hcb : bcan M b) (hd : 3 ≤ d) :
    tC e d 3716 [.inr (.inr (.inl 664)), .inl to, .inl a, .inl b] M n (tQi n (fun z M' => res z M' to (flo (uu D) (zlo M a + zlo M b)) (cei (uu D) (zhi M a + zhi M b)) ∧ xE (fun r => r = to) M M')) := sorry
theorem c_turned {to a : Int} (ht : 0 ≤ to ∧ to < 700) (ha : 0 ≤ a ∧ a < 700) (hca : bcan M a) (hd : 1 ≤ d) :
    tC e d 3727 [.inr (.inr (.inl 664)), .inl to, .inl a] M n (tQn n (fun M' => zlo M' to = -zhi M a ∧ zhi M' to = -zlo M a ∧ xE (fun r => r = to) M M')) := sorry
theorem c_again {to a : Int} {D : Nat} (hdg : M 664 2 = (D : Int)) (hD : D ≤ 10) (ht : 0 ≤ to ∧ to < 700) (ha : 0 ≤ a ∧ a < 700) (hca : bcan M a) (hd : 2 ≤ d) :
    tC e d 3588 [.inr (.inr (.inl 664)), .inl to, .inl a] M n (tQi n (fun z M' => res z M' to (flo (uu D) (zlo M a)) (cei (uu D) (zhi M a)) ∧ xE (fun r => r = to) M M')) := sorry
theorem c_negative {to a : Int} {D : Nat} (hdg : M 664 2 = (D : Int)) (hD : D ≤ 10) (ht : 0 ≤ to ∧ to < 700) (ha : 0 ≤ a ∧ a < 700) (hB : BI M) (hd : 3 ≤ d) :
    tC e d 3664 [.inr (.inr (.inl 664)), .inl to, .inl a] M n (tQi n (fun z M' => res z M' to (flo (uu D) (-zhi M a)) (cei (uu D) (-zlo M a)) ∧ xE (fun r => r = to) M M')) := sorry
/-- the boxes from a place on, and one more -/
abbrev toF (to f : Int) : Int → Prop := fun r => r = to ∨ f ≤ r
theorem c_difference {to a b f : Int} {D : Nat} (hdg : M 664 2 = (D : Int)) (hD : D ≤ 10) (hf : M 664 11 = f) (hf2 : 0 ≤ f ∧ f < 700) (ht : 0 ≤ to ∧ to < 700) (ha : 0 ≤ a ∧ a < f) (hb : 0 ≤ b ∧ b < 700) (hB : BI M) (hd : 4 ≤ d) :
    tC e d 3607 [.inr (.inr (.inl 664)), .inl to, .inl a, .inl b] M n (tQi n (fun z M' => res z M' to (flo (uu D) (zlo M a - zhi M b)) (cei (uu D) (zhi M a - zlo M b)) ∧ xE (toF to f) M M')) := sorry
def aLo (l h : Int) : Int := if h < 0 then -h else if l < 0 then 0 else l
def aHi (l h : Int) : Int := if h < 0 then -l else if l < 0 then (if h < -l then -l else h) else h
theorem c_unsigned {to a f : Int} {D : Nat} (hdg : M 664 2 = (D : Int)) (hD : D ≤ 10) (hf : M 664 11 = f) (hf2 : 0 ≤ f ∧ f < 700) (ht : 0 ≤ to ∧ to < 700) (ha : 0 ≤ a ∧ a < f) (hB : BI M) (hd : 4 ≤ d) :
    tC e d 3732 [.inr (.inr (.inl 664)), .inl to, .inl a] M n (tQi n (fun z M' => res z M' to (flo (uu D) (aLo (zlo M a) (zhi M a))) (cei (uu D) (aHi (zlo M a) (zhi M a))) ∧ xE (toF to f) M M')) := sorry
end MODEL
