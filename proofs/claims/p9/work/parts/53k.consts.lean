/-! THE MODEL: the constants, the series. -/
/-- 10^54, opaque. -/
theorem U6_ex : ∃ u : Nat, u = 1000000000000000000000000000000000000000000000000000000 := sorry
noncomputable def U6 : Nat := Classical.choose U6_ex
theorem U6_def : U6 = 1000000000000000000000000000000000000000000000000000000 := sorry
theorem pw_6 : pw 6 = U6 := sorry
theorem U6_tn : U6 = tn 54 := sorry
theorem U6_pos : 0 < U6 := sorry
/-- A run of odds: what is left, and the sum, if no step goes out of its bounds. -/
def odf (qq : Nat) (alt : Bool) : Nat → Nat → Nat → Nat → Option Nat
  | 0, t, _, acc => if t = 0 then some acc else none
  | f + 1, t, k, acc => if t = 0 then some acc else
    if alt = true ∧ k % 4 = 3 then (if t / qq / k ≤ acc ∧ k ≤ 1000000 then odf qq alt f (t / qq) (k + 2) (acc - t / qq / k) else none)
    else (if acc + t / qq / k < 10000000000000000000000000000000000000000000000000000000000 ∧ k ≤ 1000000 then odf qq alt f (t / qq) (k + 2) (acc + t / qq / k) else none)
theorem Vr_0 {M : tM} {r : Int} {x : Nat} (h : Vr M r x) : 0 ≤ M 666 r ∧ M 666 r ≤ 62 ∧ (M 666 r ≤ 0 ↔ x = 0) := sorry
section MODEL
variable {e : tE} {d n : Nat} {M : tM}
theorem c_unit {row : Int} (hr : 0 ≤ row ∧ row < 15) (hd : 2 ≤ d) : tC e d 3731 [.inr (.inr (.inl 664)), .inl row] M n (tQn n (fun M' => Vr M' row U6 ∧ rE (fun r => r = row) M M')) := sorry
def rOd (row : Int) : Int → Prop := fun r => r = row ∨ r = 6 ∨ r = 7
theorem c_odds {row : Int} {q v : Nat} {alt : Bool} (hr : 0 ≤ row ∧ row < 15) (hr6 : row ≠ 6 ∧ row ≠ 7) (hq : 0 < q ∧ q ≤ 30000) {f : Nat} (hv : odf (q * q) alt f (1000000000000000000000000000000000000000000000000000000 / q) 3 (1000000000000000000000000000000000000000000000000000000 / q) = some v) (hd : 3 ≤ d) :
    tC e d 3670 [.inr (.inr (.inl 664)), .inl row, .inr (.inl (q : Int)), .inl (if alt = true then 1 else 0)] M n (tQn n (fun M' => Vr M' row v ∧ rE (rOd row) M M')) := sorry
theorem pi5 : odf (5 * 5) true 60 (1000000000000000000000000000000000000000000000000000000 / 5) 3 (1000000000000000000000000000000000000000000000000000000 / 5) = some 197395559849880758370049765194790293447585103787852103 := sorry
theorem pi239 : odf (239 * 239) true 60 (1000000000000000000000000000000000000000000000000000000 / 239) 3 (1000000000000000000000000000000000000000000000000000000 / 239) = some 4184076002074723864538214959285452741048065307631951 := sorry
theorem log3 : odf (3 * 3) false 60 (1000000000000000000000000000000000000000000000000000000 / 3) 3 (1000000000000000000000000000000000000000000000000000000 / 3) = some 346573590279972654708616060729088284037750067180127601 := sorry
theorem b60 {x : Nat} (h : x < 10000000000000000000000000000000000000000000000000000000000) : x < pw 62 := sorry
/-- What the constants leave of other rows. -/
def rKc (S : Int → Prop) (M M' : tM) : Prop := (∀ (k : Nat) (i : Int), k ≠ 665 → k ≠ 666 → ¬ (k = 664 ∧ (i = 4 ∨ i = 5 ∨ i = 12 ∨ i = 13 ∨ i = 14)) → M' k i = M k i) ∧ (∀ r : Int, ¬ S r → M' 666 r = M 666 r) ∧ (∀ r j : Int, ¬ S r → 0 ≤ j → j < 64 → M' 665 (64 * r + j) = M 665 (64 * r + j))
theorem rKc_refl {S : Int → Prop} {M : tM} : rKc S M M := sorry
theorem rKc_tr {S : Int → Prop} {M M1 M2 : tM} (h1 : rKc S M M1) (h2 : rKc S M1 M2) : rKc S M M2 := sorry
theorem rKc_mono {S S' : Int → Prop} {M M' : tM} (h : rKc S M M') (hs : ∀ r, S r → S' r) : rKc S' M M' := sorry
theorem rKc_U {S : Int → Prop} {M M' : tM} (h : rU S M M') : rKc S M M' := sorry
theorem rKc_f {S : Int → Prop} {M : tM} {i v : Int} (hi : i = 12 ∨ i = 13 ∨ i = 14) : rKc S M (tU M 664 i v) := sorry
theorem Vr_K {S : Int → Prop} {M M' : tM} {r : Int} {x : Nat} (h : Vr M r x) (he : rKc S M M') (hs : ¬ S r) : Vr M' r x := sorry
/-- Rows of S, the bound and the constants' rows change; the constants stay good. -/
def qE (S : Int → Prop) (M M' : tM) : Prop := rKc (fun r => S r ∨ r = 11 ∨ r = 12 ∨ r = 13) M M' ∧ (KI M → KI M') ∧ (M 664 12 = 1 → M' 664 12 = 1) ∧ (M 664 13 = 1 → M' 664 13 = 1) ∧ (M 664 14 = 1 → M' 664 14 = 1)
theorem qE_refl {S : Int → Prop} {M : tM} : qE S M M := sorry
theorem qE_tr {S : Int → Prop} {M M1 M2 : tM} (h1 : qE S M M1) (h2 : qE S M1 M2) : qE S M M2 := sorry
theorem qE_mono {S S' : Int → Prop} {M M' : tM} (h : qE S M M') (hs : ∀ r, S r → S' r) : qE S' M M' := sorry
theorem KI_K {S : Int → Prop} {M M' : tM} (he : rKc S M M') (h1 : ¬ S 11) (h2 : ¬ S 12) (h3 : ¬ S 13) (f1 : M' 664 12 = M 664 12) (f2 : M' 664 13 = M 664 13) (f3 : M' 664 14 = M 664 14) (h : KI M) : KI M' := sorry
theorem qE_U {S : Int → Prop} {M M' : tM} (h : rU S M M') (h1 : ¬ S 11) (h2 : ¬ S 12) (h3 : ¬ S 13) : qE S M M' := sorry
theorem qE_r {S : Int → Prop} {M M' : tM} (h : rE S M M') (h1 : ¬ S 11) (h2 : ¬ S 12) (h3 : ¬ S 13) : qE S M M' := sorry
theorem Vr_Q {S : Int → Prop} {M M' : tM} {r : Int} {x : Nat} (h : Vr M r x) (he : qE S M M') (hs : ¬ (S r ∨ r = 11 ∨ r = 12 ∨ r = 13)) : Vr M' r x := sorry
theorem qE_d {S : Int → Prop} {M M' : tM} (h : qE S M M') : M' 664 2 = M 664 2 := sorry
theorem qE_yE {S T : Int → Prop} {M M' : tM} (h : qE S M M') : yE T M M' := sorry
theorem qE_xE {S T : Int → Prop} {M M' : tM} (h : qE S M M') : xE T M M' := sorry
theorem c_odds1 {row : Int} {q v : Nat} (hr : 0 ≤ row ∧ row < 15) (hr6 : row ≠ 6 ∧ row ≠ 7) (hq : 0 < q ∧ q ≤ 30000) {f : Nat} (hv : odf (q * q) true f (1000000000000000000000000000000000000000000000000000000 / q) 3 (1000000000000000000000000000000000000000000000000000000 / q) = some v) (hd : 3 ≤ d) :
    tC e d 3670 [.inr (.inr (.inl 664)), .inl row, .inr (.inl (q : Int)), .inl 1] M n (tQn n (fun M' => Vr M' row v ∧ rE (rOd row) M M')) := sorry
theorem c_odds0 {row : Int} {q v : Nat} (hr : 0 ≤ row ∧ row < 15) (hr6 : row ≠ 6 ∧ row ≠ 7) (hq : 0 < q ∧ q ≤ 30000) {f : Nat} (hv : odf (q * q) false f (1000000000000000000000000000000000000000000000000000000 / q) 3 (1000000000000000000000000000000000000000000000000000000 / q) = some v) (hd : 3 ≤ d) :
    tC e d 3670 [.inr (.inr (.inl 664)), .inl row, .inr (.inl (q : Int)), .inl 0] M n (tQn n (fun M' => Vr M' row v ∧ rE (rOd row) M M')) := sorry
def rPi : Int → Prop := fun r => r = 6 ∨ r = 7 ∨ r = 8
theorem c_needsPi (hK : KI M) (hd : 4 ≤ d) : tC e d 3663 [.inr (.inr (.inl 664))] M n (tQn n (fun M' => M' 664 12 = 1 ∧ Vr M' 11 PIc ∧ qE rPi M M')) := sorry
theorem c_needsLog (hK : KI M) (hd : 4 ≤ d) : tC e d 3662 [.inr (.inr (.inl 664))] M n (tQn n (fun M' => M' 664 13 = 1 ∧ Vr M' 12 LGc ∧ qE rPi M M')) := sorry
/-- The exponential series in steps. -/
noncomputable def serf (s : Nat) : Nat → Nat → Nat → Nat → Nat
  | 0, _, _, acc => acc
  | f + 1, t, k, acc => if t = 0 then acc else serf s f (t * s / U6 / k) (k + 1) (acc + t * s / U6 / k)
def serc (s : Nat) : Nat → Nat → Nat → Nat → Nat
  | 0, _, _, acc => acc
  | f + 1, t, k, acc => if t = 0 then acc else serc s f (t * s / 1000000000000000000000000000000000000000000000000000000 / k) (k + 1) (acc + t * s / 1000000000000000000000000000000000000000000000000000000 / k)
theorem serf_c (s f : Nat) : ∀ t k acc, serf s f t k acc = serc s f t k acc := sorry
noncomputable def serv (s : Nat) : Nat := serf s 60 U6 1 U6
theorem serv_U : serv U6 = BSc := sorry
theorem serf_ge (s f : Nat) : ∀ t k acc, acc ≤ serf s f t k acc := sorry
theorem serf_le {s s' : Nat} (h : s ≤ s') (f : Nat) : ∀ t t' k acc acc', t ≤ t' → acc ≤ acc' → serf s f t k acc ≤ serf s' f t' k acc' := sorry
theorem serv_le {s s' : Nat} (h : s ≤ s') : serv s ≤ serv s' := sorry
end MODEL
