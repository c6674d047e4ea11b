/-! THE MODEL: boxes: what is kept, and the plain acts on them. -/
theorem tshm_667 : tsh 667 = 33 := sorry
theorem tshm_668 : tsh 668 = 33 := sorry
theorem tshm_669 : tsh 669 = 33 := sorry
theorem tshm_670 : tsh 670 = 33 := sorry
theorem tykm_33 : tyk 33 = (2, 2, 700) := sorry
def PIc : Nat := 3141592653589793238462643383279502884197169399375105844
def LGc : Nat := 693147180559945309417232121458176568075500134360255202
def BSc : Nat := 2718281828459045235360287471352662497757247093699959554
def KI (M : tM) : Prop := ((M 664 12 = 0 ∨ M 664 12 = 1) ∧ (M 664 13 = 0 ∨ M 664 13 = 1) ∧ (M 664 14 = 0 ∨ M 664 14 = 1)) ∧ (M 664 12 = 1 → Vr M 11 PIc) ∧ (M 664 13 = 1 → Vr M 12 LGc) ∧ (M 664 14 = 1 → Vr M 13 BSc)
theorem KI_U {S : Int → Prop} {M M' : tM} (h : KI M) (he : rU S M M') (h1 : ¬ S 11) (h2 : ¬ S 12) (h3 : ¬ S 13) : KI M' := sorry
/-- no row and no flag is touched -/
theorem KI_k {M M' : tM} (h : KI M) (he : ∀ (k : Nat) (i : Int), (k = 665 ∨ k = 666 ∨ (k = 664 ∧ (i = 12 ∨ i = 13 ∨ i = 14))) → M' k i = M k i) : KI M' := sorry
def zlo (M : tM) (b : Int) : Int := M 667 b * 1000000000 + M 668 b
def zhi (M : tM) (b : Int) : Int := M 669 b * 1000000000 + M 670 b
def bcan (M : tM) (b : Int) : Prop := ((0 ≤ M 668 b ∧ M 668 b < 1000000000) ∧ (0 ≤ M 670 b ∧ M 670 b < 1000000000)) ∧ ((-30000000000000000000000 ≤ M 667 b * 1000000000 + M 668 b ∧ M 667 b * 1000000000 + M 668 b ≤ 30000000000000000000000) ∧ (-30000000000000000000000 ≤ M 669 b * 1000000000 + M 670 b ∧ M 669 b * 1000000000 + M 670 b ≤ 30000000000000000000000))
def BI (M : tM) : Prop := ∀ b : Int, 0 ≤ b → b < 700 → bcan M b
def isB (k : Nat) : Prop := k = 667 ∨ k = 668 ∨ k = 669 ∨ k = 670
/-- only rows, the bound, the place that is free, the flags of rows and some boxes change -/
def yE (T : Int → Prop) (M M' : tM) : Prop := (∀ (k : Nat) (i : Int), k ≠ 665 → k ≠ 666 → ¬ (k = 664 ∧ (i = 4 ∨ i = 5 ∨ i = 11 ∨ i = 12 ∨ i = 13 ∨ i = 14)) → ¬ (isB k ∧ T i) → M' k i = M k i) ∧ (KI M → KI M') ∧ (BI M → BI M')
theorem yE_refl {T : Int → Prop} {M : tM} : yE T M M := sorry
theorem yE_tr {T : Int → Prop} {M M1 M2 : tM} (h1 : yE T M M1) (h2 : yE T M1 M2) : yE T M M2 := sorry
theorem yE_mono {T T' : Int → Prop} {M M' : tM} (h : yE T M M') (hs : ∀ r, T r → T' r) : yE T' M M' := sorry
theorem yE_U {S T : Int → Prop} {M M' : tM} (he : rU S M M') (h1 : ¬ S 11) (h2 : ¬ S 12) (h3 : ¬ S 13) : yE T M M' := sorry
theorem yE_u {T : Int → Prop} {M M' : tM} (he : uE M M') : yE T M M' := sorry
theorem yE_d {T : Int → Prop} {M M' : tM} (h : yE T M M') : M' 664 2 = M 664 2 := sorry
theorem yE_7 {T : Int → Prop} {M M' : tM} {b : Int} (h : yE T M M') (hb : ¬ T b) : M' 667 b = M 667 b := sorry
theorem yE_8 {T : Int → Prop} {M M' : tM} {b : Int} (h : yE T M M') (hb : ¬ T b) : M' 668 b = M 668 b := sorry
theorem yE_9 {T : Int → Prop} {M M' : tM} {b : Int} (h : yE T M M') (hb : ¬ T b) : M' 669 b = M 669 b := sorry
theorem yE_0 {T : Int → Prop} {M M' : tM} {b : Int} (h : yE T M M') (hb : ¬ T b) : M' 670 b = M 670 b := sorry
theorem yE_lo {T : Int → Prop} {M M' : tM} {b : Int} (h : yE T M M') (hb : ¬ T b) : zlo M' b = zlo M b := sorry
theorem yE_hi {T : Int → Prop} {M M' : tM} {b : Int} (h : yE T M M') (hb : ¬ T b) : zhi M' b = zhi M b := sorry
theorem yE_free {T : Int → Prop} {M : tM} {v : Int} : yE T M (tU M 664 11 v) := sorry
/-- and the place that is free is as it was -/
def xE (T : Int → Prop) (M M' : tM) : Prop := yE T M M' ∧ M' 664 11 = M 664 11
theorem xE_refl {T : Int → Prop} {M : tM} : xE T M M := sorry
theorem xE_tr {T : Int → Prop} {M M1 M2 : tM} (h1 : xE T M M1) (h2 : xE T M1 M2) : xE T M M2 := sorry
theorem xE_mono {T T' : Int → Prop} {M M' : tM} (h : xE T M M') (hs : ∀ r, T r → T' r) : xE T' M M' := sorry
theorem xE_U {S T : Int → Prop} {M M' : tM} (he : rU S M M') (h1 : ¬ S 11) (h2 : ¬ S 12) (h3 : ¬ S 13) : xE T M M' := sorry
theorem xE_u {T : Int → Prop} {M M' : tM} (he : uE M M') : xE T M M' := sorry
theorem xE_d {T : Int → Prop} {M M' : tM} (h : xE T M M') : M' 664 2 = M 664 2 := sorry
theorem xE_lo {T : Int → Prop} {M M' : tM} {b : Int} (h : xE T M M') (hb : ¬ T b) : zlo M' b = zlo M b := sorry
theorem xE_hi {T : Int → Prop} {M M' : tM} {b : Int} (h : xE T M M') (hb : ¬ T b) : zhi M' b = zhi M b := sorry
theorem xE_K {T : Int → Prop} {M M' : tM} (h : xE T M M') (hk : KI M) : KI M' := sorry
theorem xE_B {T : Int → Prop} {M M' : tM} (h : xE T M M') (hk : BI M) : BI M' := sorry
/-- a low bound set, a high bound set -/
def sLo (M : tM) (b u l : Int) : tM := tU (tU M 667 b u) 668 b l
def sHi (M : tM) (b u l : Int) : tM := tU (tU M 669 b u) 670 b l
theorem sLo_k {M : tM} {b u l : Int} {k : Nat} {i : Int} (h : ¬ (isB k ∧ i = b)) : sLo M b u l k i = M k i := sorry
theorem sHi_k {M : tM} {b u l : Int} {k : Nat} {i : Int} (h : ¬ (isB k ∧ i = b)) : sHi M b u l k i = M k i := sorry
theorem sLo_lo (M : tM) (b u l : Int) : zlo (sLo M b u l) b = u * 1000000000 + l := sorry
theorem sLo_hi (M : tM) (b u l c : Int) : zhi (sLo M b u l) c = zhi M c := sorry
theorem sHi_hi (M : tM) (b u l : Int) : zhi (sHi M b u l) b = u * 1000000000 + l := sorry
theorem sHi_lo (M : tM) (b u l c : Int) : zlo (sHi M b u l) c = zlo M c := sorry
theorem sLo_xE {T : Int → Prop} {M : tM} {b u l : Int} (hT : T b) (hl : 0 ≤ l ∧ l < 1000000000) (hu : -30000000000000000000000 ≤ u * 1000000000 + l ∧ u * 1000000000 + l ≤ 30000000000000000000000) : xE T M (sLo M b u l) := sorry
theorem sHi_xE {T : Int → Prop} {M : tM} {b u l : Int} (hT : T b) (hl : 0 ≤ l ∧ l < 1000000000) (hu : -30000000000000000000000 ≤ u * 1000000000 + l ∧ u * 1000000000 + l ≤ 30000000000000000000000) : xE T M (sHi M b u l) := sorry
/-- a box as another one is -/
def sTk (M : tM) (a b : Int) : tM := tU (tU (tU (tU M 667 b (M 667 a)) 668 b (M 668 a)) 669 b (M 669 a)) 670 b (M 670 a)
theorem sTk_eq (M : tM) (a b : Int) : sTk M a b = sHi (sLo M b (M 667 a) (M 668 a)) b (M 669 a) (M 670 a) := sorry
theorem sTk_k {M : tM} {a b : Int} {k : Nat} {i : Int} (h : ¬ (isB k ∧ i = b)) : sTk M a b k i = M k i := sorry
theorem sTk_lo (M : tM) (a b : Int) : zlo (sTk M a b) b = zlo M a := sorry
theorem sTk_hi (M : tM) (a b : Int) : zhi (sTk M a b) b = zhi M a := sorry
theorem sTk_xE {T : Int → Prop} {M : tM} {a b : Int} (hT : T b) (hc : bcan M a) : xE T M (sTk M a b) := sorry
section MODEL
variable {e : tE} {d n : Nat} {M : tM}
theorem c_low {b u l : Int} (hb : 0 ≤ b ∧ b < 700) : tC e d 3650 [.inr (.inr (.inl 664)), .inl b, .inr (.inl u), .inr (.inl l)] M n (tQn n (fun M' => M' = sLo M b u l)) := sorry
theorem c_high {b u l : Int} (hb : 0 ≤ b ∧ b < 700) : tC e d 3623 [.inr (.inr (.inl 664)), .inl b, .inr (.inl u), .inr (.inl l)] M n (tQn n (fun M' => M' = sHi M b u l)) := sorry
theorem c_single {b u l : Int} (hb : 0 ≤ b ∧ b < 700) (hd : 1 ≤ d) : tC e d 3707 [.inr (.inr (.inl 664)), .inl b, .inr (.inl u), .inr (.inl l)] M n (tQn n (fun M' => M' = sHi (sLo M b u l) b u l)) := sorry
theorem c_takes {a b : Int} (ha : 0 ≤ a ∧ a < 700) (hb : 0 ≤ b ∧ b < 700) : tC e d 3718 [.inr (.inr (.inl 664)), .inl a, .inl b] M n (tQn n (fun M' => M' = sTk M a b)) := sorry
theorem c_isBelow {b : Int} (hb : 0 ≤ b ∧ b < 700) (hc : bcan M b) : tC e d 3628 [.inr (.inr (.inl 664)), .inl b] M n (tQi n (fun z M' => (z = 1 ∧ zlo M b < 0 ∨ z = 0 ∧ ¬ zlo M b < 0) ∧ M = M')) := sorry
theorem c_isBelow0 {b : Int} (hb : 0 ≤ b ∧ b < 700) (hc : bcan M b) : tC e d 3629 [.inr (.inr (.inl 664)), .inl b] M n (tQi n (fun z M' => (z = 1 ∧ zhi M b < 0 ∨ z = 0 ∧ ¬ zhi M b < 0) ∧ M = M')) := sorry
theorem c_isAbove0 {b : Int} (hb : 0 ≤ b ∧ b < 700) (hc : bcan M b) : tC e d 3627 [.inr (.inr (.inl 664)), .inl b] M n (tQi n (fun z M' => (z = 1 ∧ 0 < zlo M b ∨ z = 0 ∧ ¬ 0 < zlo M b) ∧ M = M')) := sorry
theorem c_holdsNothing {b : Int} (hb : 0 ≤ b ∧ b < 700) (hc : bcan M b) : tC e d 3625 [.inr (.inr (.inl 664)), .inl b] M n (tQi n (fun z M' => (z = 1 ∧ (0 < zlo M b ∨ zhi M b < 0) ∨ z = 0 ∧ ¬ (0 < zlo M b ∨ zhi M b < 0)) ∧ M = M')) := sorry
theorem c_holds0 {b : Int} (hb : 0 ≤ b ∧ b < 700) (hc : bcan M b) (hd : 1 ≤ d) : tC e d 3624 [.inr (.inr (.inl 664)), .inl b] M n (tQi n (fun z M' => (z = 0 ∧ (0 < zlo M b ∨ zhi M b < 0) ∨ z = 1 ∧ ¬ (0 < zlo M b ∨ zhi M b < 0)) ∧ M = M')) := sorry
theorem c_isSingle {b : Int} (hb : 0 ≤ b ∧ b < 700) (hc : bcan M b) : tC e d 3634 [.inr (.inr (.inl 664)), .inl b] M n (tQi n (fun z M' => (z = 1 ∧ zlo M b = zhi M b ∨ z = 0 ∧ ¬ zlo M b = zhi M b) ∧ M = M')) := sorry
end MODEL
