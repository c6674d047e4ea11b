/-! THE MODEL: bounds told from rows. -/
def rU (S : Int → Prop) (M M' : tM) : Prop := (∀ (k : Nat) (i : Int), k ≠ 665 → k ≠ 666 → ¬ (k = 664 ∧ (i = 4 ∨ i = 5)) → M' k i = M k i) ∧ (∀ r : Int, ¬ S r → M' 666 r = M 666 r) ∧ (∀ r j : Int, ¬ S r → 0 ≤ j → j < 64 → M' 665 (64 * r + j) = M 665 (64 * r + j))
theorem rU_refl {S : Int → Prop} {M : tM} : rU S M M := sorry
theorem rU_tr {S : Int → Prop} {M M1 M2 : tM} (h1 : rU S M M1) (h2 : rU S M1 M2) : rU S M M2 := sorry
theorem rU_mono {S S' : Int → Prop} {M M' : tM} (h : rU S M M') (hs : ∀ r, S r → S' r) : rU S' M M' := sorry
theorem rU_r {S : Int → Prop} {M M' : tM} (h : rE S M M') : rU S M M' := sorry
theorem rU_rm {S S' : Int → Prop} {M M' : tM} (h : rE S M M') (hs : ∀ r, S r → S' r) : rU S' M M' := sorry
theorem rU_u {S : Int → Prop} {M M' : tM} (h : uE M M') : rU S M M' := sorry
theorem Dr_U {S : Int → Prop} {M M' : tM} {r : Int} {m x : Nat} (h : Dr M r m x) (he : rU S M M') (hs : ¬ S r) : Dr M' r m x := sorry
theorem Vr_U {S : Int → Prop} {M M' : tM} {r : Int} {x : Nat} (h : Vr M r x) (he : rU S M M') (hs : ¬ S r) : Vr M' r x := sorry
theorem rU_d {S : Int → Prop} {M M' : tM} (h : rU S M M') : M' 664 2 = M 664 2 := sorry
theorem rE_d {S : Int → Prop} {M M' : tM} (h : rE S M M') : M' 664 2 = M 664 2 := sorry
theorem uE_d {M M' : tM} (h : uE M M') : M' 664 2 = M 664 2 := sorry
section MODEL
variable {e : tE} {d n : Nat} {M : tM}
theorem c_size {row u l : Int} (hr : 0 ≤ row ∧ row < 15) (hl : 0 ≤ l ∧ l < 1000000000) (hu : -4000000000000000000 ≤ u ∧ u ≤ 4000000000000000000) (hd : 2 ≤ d) : tC e d 3708 [.inr (.inr (.inl 664)), .inl row, .inr (.inl u), .inr (.inl l)] M n (tQn n (fun M' => Vr M' row (u * 1000000000 + l).natAbs ∧ rE (fun r => r = row) M M')) := sorry
theorem rnd_near {up U z : Int} (hU : 0 < U) : z - U < rnd up U z ∧ rnd up U z < z + U := sorry
theorem c_adds {u l v k up : Int} {D : Nat} (hdg : M 664 2 = (D : Int)) (hD : D ≤ 10) (hl : 0 ≤ l ∧ l < 1000000000) (hk : 0 ≤ k ∧ k < 1000000000) (hu : -100000000000000 ≤ u ∧ u ≤ 100000000000000) (hv : -100000000000000 ≤ v ∧ v ≤ 100000000000000) (hup : up = 0 ∨ up = 1) (hd : 2 ≤ d) :
    tC e d 3587 [.inr (.inr (.inl 664)), .inr (.inl u), .inr (.inl l), .inr (.inl v), .inr (.inl k), .inl up] M n (tQi n (fun z M' => (z = 1 ∧ ¬ far (zb M') ∨ z = 0 ∧ far (zb M')) ∧ zb M' = rnd up (tn (10 - D) : Nat) (u * 1000000000 + l + (v * 1000000000 + k)) ∧ cb M' ∧ uE M M')) := sorry
/-- what a row tells: so many units, one more if something is behind it and it goes outward -/
def tlu (t : Nat) (hm ib up : Int) : Nat := t + (if hm = 1 ∧ up ≠ ib then 1 else 0)
theorem c_tells {row hm ib up : Int} {t D : Nat} (hr : 0 ≤ row ∧ row < 14) (hV : Vr M row t) (hdg : M 664 2 = (D : Int)) (hD : D ≤ 10) (hhm : hm = 0 ∨ hm = 1) (hib : ib = 0 ∨ ib = 1) (hup : up = 0 ∨ up = 1) (hs : (t + 1) * tn 10 < pw 60) (hd : 3 ≤ d) :
    tC e d 3719 [.inr (.inr (.inl 664)), .inl row, .inl hm, .inl ib, .inl up] M n (tQi n (fun z M' => (z = 1 ∧ tlu t hm ib up * tn (10 - D) < 10000000000000000000000 ∧ zb M' = (if ib = 1 then -((tlu t hm ib up * tn (10 - D) : Nat) : Int) else ((tlu t hm ib up * tn (10 - D) : Nat) : Int)) ∧ cb M' ∨ z = 0 ∧ 10000000000000000000000 ≤ tlu t hm ib up * tn (10 - D)) ∧ rU (fun r => r = row ∨ r = 4 ∨ r = 14) M M')) := sorry
end MODEL
