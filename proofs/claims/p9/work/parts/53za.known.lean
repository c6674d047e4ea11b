/-! THE MODEL: the known numbers. -/
noncomputable def kno (which : Int) : Nat := if which = 0 then BSc else PIc
theorem kno_le (w : Int) : kno w ≤ 4 * U6 := sorry
theorem deep_small {D v : Nat} {up : Int} (hD : D ≤ 10) (hv : v ≤ 4 * U6) : tlu (v / tn (54 - D)) 1 0 up * tn (10 - D) ≤ 50000000000 := sorry
section MODEL
variable {e : tE} {d n : Nat} {M : tM}
theorem c_known {to w : Int} {D : Nat} (hK : KI M) (hdg : M 664 2 = (D : Int)) (hD : D ≤ 10) (ht : 0 ≤ to ∧ to < 700) (hw : w = 0 ∨ w = 1) (hd : 5 ≤ d) :
    tC e d 3641 [.inr (.inr (.inl 664)), .inl to, .inl w] M n (tQn n (fun M' => zlo M' to = deepb 0 D (kno w) 0 ∧ zhi M' to = deepb 1 D (kno w) 0 ∧ xE (fun r => r = to) M M')) := sorry
end MODEL
