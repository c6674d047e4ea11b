/-! THE MODEL: the last step, and the exponential. -/
/-- The bound that a row's number at 10^-54 gives. -/
noncomputable def deepb (up : Int) (D v : Nat) (ib : Int) : Int := if ib = 1 then -((tlu (v / tn (54 - D)) 1 ib up * tn (10 - D) : Nat) : Int) else ((tlu (v / tn (54 - D)) 1 ib up * tn (10 - D) : Nat) : Int)
theorem deep_in {D v : Nat} {ib : Int} (hD : D ≤ 10) (hib : ib = 0 ∨ ib = 1) : deepb 0 D v ib * (U4 : Int) ≤ (if ib = 1 then -(v : Int) else (v : Int)) ∧ (if ib = 1 then -(v : Int) else (v : Int)) ≤ deepb 1 D v ib * (U4 : Int) := sorry
section MODEL
variable {e : tE} {d n : Nat} {M : tM}
theorem c_deep {row ib up : Int} {v D : Nat} (hdg : M 664 2 = (D : Int)) (hD : D ≤ 10) (hr : 0 ≤ row ∧ row < 14) (hV : Vr M row v) (hv : v < tn 500) (hib : ib = 0 ∨ ib = 1) (hup : up = 0 ∨ up = 1) (hd : 4 ≤ d) :
    tC e d 3605 [.inr (.inr (.inl 664)), .inl row, .inl ib, .inl up] M n (tQi n (fun z M' => (z = 1 ∧ zb M' = deepb up D v ib ∧ (-10000000000000000000000 < deepb up D v ib ∧ deepb up D v ib < 10000000000000000000000) ∧ cb M' ∨ z = 0 ∧ 10000000000000000000000 ≤ tlu (v / tn (54 - D)) 1 ib up * tn (10 - D)) ∧ rU (fun r => r = row ∨ r = 4 ∨ r = 14) M M')) := sorry
/-- The exponential of a number of tenths of thousands of millionths. -/
noncomputable def mulB (B : Nat) : Nat → Nat → Nat
  | 0, v => v
  | q + 1, v => mulB B q (v * B / U6)
theorem mulB_s (B q : Nat) : ∀ v, mulB B (q + 1) v = mulB B q v * B / U6 := sorry
theorem mulB_le (B q : Nat) : ∀ {v w : Nat}, v ≤ w → mulB B q v ≤ mulB B q w := sorry
noncomputable def exS (a : Nat) : Nat := mulB BSc (a / 10000000000) (serv (a % 10000000000 * U4))
theorem mulB_U (B q : Nat) : mulB B (q + 1) U6 = mulB B q B := sorry
theorem serf_z (s f k acc : Nat) : serf s f 0 k acc = acc := sorry
theorem serf_0 (f t k acc : Nat) : serf 0 f t k acc = acc := sorry
theorem serv_0 : serv 0 = U6 := sorry
theorem exS_le {a b : Nat} (h : a ≤ b) : exS a ≤ exS b := sorry
theorem exS_0 : exS 0 = U6 := sorry
theorem exS_ge (a : Nat) : U6 ≤ exS a := sorry
/-- Signed. -/
noncomputable def exF (z : Int) : Int := if z < -600000000000 then 0 else if z < 0 then ((U6 * U6 / exS z.natAbs : Nat) : Int) else ((exS z.natAbs : Nat) : Int)
theorem exF_le {a b : Int} (h : a ≤ b) : exF a ≤ exF b := sorry
end MODEL
