/-! THE MODEL: roots of boxes, numbers. -/
section MODEL
variable {e : tE} {d n : Nat} {M : tM}
theorem rtb_nn (up : Int) (D b a : Nat) : 0 ≤ rtb up D b a := sorry
theorem c_rooted {to a : Int} {b D : Nat} (hdg : M 664 2 = (D : Int)) (hD : D ≤ 10) (ht : 0 ≤ to ∧ to < 700) (ha : 0 ≤ a ∧ a < 700) (hca : bcan M a) (hle : zlo M a ≤ zhi M a) (hb : 2 ≤ b ∧ b ≤ 9) (hd : 5 ≤ d) :
    tC e d 3695 [.inr (.inr (.inl 664)), .inl to, .inl a, .inl (b : Int)] M n (tQi n (fun z M' => res z M' to (rtb 0 D b (zlo M a).toNat) (rtb 1 D b (zhi M a).toNat) ∧ (z = 0 → 0 ≤ zlo M a) ∧ xE (fun r => r = to) M M')) := sorry
theorem rtb_le {D b x y : Nat} (hb : b ≠ 0) (h : x ≤ y) : rtb 0 D b x ≤ rtb 1 D b y := sorry
/-- What a numeral of x with s places answers. -/
noncomputable def nbt (D s x : Nat) : Nat := if s ≤ D then x * tn (D - s) else x / tn (s - D)
noncomputable def nbf (D s x : Nat) : Int := if s ≤ D then 0 else if x % tn (s - D) = 0 then 0 else 1
noncomputable def nbv (up : Int) (D s x : Nat) (ib : Int) : Int := if ib = 1 then -((tlu (nbt D s x) (nbf D s x) ib up * tn (10 - D) : Nat) : Int) else ((tlu (nbt D s x) (nbf D s x) ib up * tn (10 - D) : Nat) : Int)
theorem nbv_le (D s x : Nat) {ib : Int} (hib : ib = 0 ∨ ib = 1) : nbv 0 D s x ib ≤ nbv 1 D s x ib := sorry
def rNb : Int → Prop := fun r => r = 0 ∨ r = 4 ∨ r = 8 ∨ r = 14
theorem c_number {to row ib : Int} {s x D : Nat} (hdg : M 664 2 = (D : Int)) (hD : D ≤ 10) (ht : 0 ≤ to ∧ to < 700) (hr : 0 < row ∧ row < 15) (hr8 : row ≠ 8) (hV : Vr M row x) (hx : x < tn 60) (hs : s ≤ 60) (hib : ib = 0 ∨ ib = 1) (hd : 5 ≤ d) :
    tC e d 3669 [.inr (.inr (.inl 664)), .inl to, .inl row, .inl (s : Int), .inl ib] M n (tQi n (fun z M' => res z M' to (nbv 0 D s x ib) (nbv 1 D s x ib) ∧ xE (fun r => r = to) M M')) := sorry
end MODEL
