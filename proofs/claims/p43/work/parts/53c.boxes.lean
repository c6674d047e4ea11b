/-! THE MODEL: boxes: what is kept, and the plain acts on them. -/
theorem tshm_667 : tsh 667 = 33 := by rw [tsh_def]; decide +kernel
theorem tshm_668 : tsh 668 = 33 := by rw [tsh_def]; decide +kernel
theorem tshm_669 : tsh 669 = 33 := by rw [tsh_def]; decide +kernel
theorem tshm_670 : tsh 670 = 33 := by rw [tsh_def]; decide +kernel
theorem tykm_33 : tyk 33 = (2, 2, 700) := rfl
def PIc : Nat := 3141592653589793238462643383279502884197169399375105844
def LGc : Nat := 693147180559945309417232121458176568075500134360255202
def BSc : Nat := 2718281828459045235360287471352662497757247093699959554
def KI (M : tM) : Prop := ((M 664 12 = 0 ∨ M 664 12 = 1) ∧ (M 664 13 = 0 ∨ M 664 13 = 1) ∧ (M 664 14 = 0 ∨ M 664 14 = 1)) ∧ (M 664 12 = 1 → Vr M 11 PIc) ∧ (M 664 13 = 1 → Vr M 12 LGc) ∧ (M 664 14 = 1 → Vr M 13 BSc)
theorem KI_U {S : Int → Prop} {M M' : tM} (h : KI M) (he : rU S M M') (h1 : ¬ S 11) (h2 : ¬ S 12) (h3 : ¬ S 13) : KI M' := by
  have e1 : M' 664 12 = M 664 12 := he.1 664 12 (by decide) (by decide) (by decide)
  have e2 : M' 664 13 = M 664 13 := he.1 664 13 (by decide) (by decide) (by decide)
  have e3 : M' 664 14 = M 664 14 := he.1 664 14 (by decide) (by decide) (by decide)
  unfold KI
  rw [e1, e2, e3]
  exact ⟨h.1, fun q => Vr_U (h.2.1 q) he h1, fun q => Vr_U (h.2.2.1 q) he h2, fun q => Vr_U (h.2.2.2 q) he h3⟩
/-- no row and no flag is touched -/
theorem KI_k {M M' : tM} (h : KI M) (he : ∀ (k : Nat) (i : Int), (k = 665 ∨ k = 666 ∨ (k = 664 ∧ (i = 12 ∨ i = 13 ∨ i = 14))) → M' k i = M k i) : KI M' := by
  have key : ∀ r x, Vr M r x → Vr M' r x := fun r x q => by
    obtain ⟨m, q1, q2⟩ := q
    exact ⟨m, ⟨(he 666 _ (Or.inr (Or.inl rfl))).trans q1.1, q1.2.1, q1.2.2.1, fun i hi => (he 665 _ (Or.inl rfl)).trans (q1.2.2.2 i hi)⟩, q2⟩
  unfold KI
  rw [he 664 12 (Or.inr (Or.inr ⟨rfl, Or.inl rfl⟩)), he 664 13 (Or.inr (Or.inr ⟨rfl, Or.inr (Or.inl rfl)⟩)), he 664 14 (Or.inr (Or.inr ⟨rfl, Or.inr (Or.inr rfl)⟩))]
  exact ⟨h.1, fun q => key _ _ (h.2.1 q), fun q => key _ _ (h.2.2.1 q), fun q => key _ _ (h.2.2.2 q)⟩
def zlo (M : tM) (b : Int) : Int := M 667 b * 1000000000 + M 668 b
def zhi (M : tM) (b : Int) : Int := M 669 b * 1000000000 + M 670 b
def bcan (M : tM) (b : Int) : Prop := ((0 ≤ M 668 b ∧ M 668 b < 1000000000) ∧ (0 ≤ M 670 b ∧ M 670 b < 1000000000)) ∧ ((-30000000000000000000000 ≤ M 667 b * 1000000000 + M 668 b ∧ M 667 b * 1000000000 + M 668 b ≤ 30000000000000000000000) ∧ (-30000000000000000000000 ≤ M 669 b * 1000000000 + M 670 b ∧ M 669 b * 1000000000 + M 670 b ≤ 30000000000000000000000))
def BI (M : tM) : Prop := ∀ b : Int, 0 ≤ b → b < 700 → bcan M b
def isB (k : Nat) : Prop := k = 667 ∨ k = 668 ∨ k = 669 ∨ k = 670
/-- only rows, the bound, the place that is free, the flags of rows and some boxes change -/
def yE (T : Int → Prop) (M M' : tM) : Prop := (∀ (k : Nat) (i : Int), k ≠ 665 → k ≠ 666 → ¬ (k = 664 ∧ (i = 4 ∨ i = 5 ∨ i = 11 ∨ i = 12 ∨ i = 13 ∨ i = 14)) → ¬ (isB k ∧ T i) → M' k i = M k i) ∧ (KI M → KI M') ∧ (BI M → BI M')
theorem yE_refl {T : Int → Prop} {M : tM} : yE T M M := ⟨fun _ _ _ _ _ _ => rfl, id, id⟩
theorem yE_tr {T : Int → Prop} {M M1 M2 : tM} (h1 : yE T M M1) (h2 : yE T M1 M2) : yE T M M2 :=
  ⟨fun k i a b c q => (h2.1 k i a b c q).trans (h1.1 k i a b c q), fun q => h2.2.1 (h1.2.1 q), fun q => h2.2.2 (h1.2.2 q)⟩
theorem yE_mono {T T' : Int → Prop} {M M' : tM} (h : yE T M M') (hs : ∀ r, T r → T' r) : yE T' M M' :=
  ⟨fun k i a b c q => h.1 k i a b c (fun z => q ⟨z.1, hs _ z.2⟩), h.2⟩
theorem yE_U {S T : Int → Prop} {M M' : tM} (he : rU S M M') (h1 : ¬ S 11) (h2 : ¬ S 12) (h3 : ¬ S 13) : yE T M M' := by
  refine ⟨fun k i a b c _ => he.1 k i a b (fun q => c ⟨q.1, by rcases q.2 with q | q; exact Or.inl q; exact Or.inr (Or.inl q)⟩), fun q => KI_U q he h1 h2 h3, fun q b h4 h5 => ?_⟩
  have h6 := q b h4 h5
  unfold bcan at h6 ⊢
  rw [he.1 667 b (by decide) (by decide) (by omega), he.1 668 b (by decide) (by decide) (by omega), he.1 669 b (by decide) (by decide) (by omega), he.1 670 b (by decide) (by decide) (by omega)]
  exact h6
theorem yE_u {T : Int → Prop} {M M' : tM} (he : uE M M') : yE T M M' := yE_U (S := fun _ => False) (rU_u he) id id id
theorem yE_d {T : Int → Prop} {M M' : tM} (h : yE T M M') : M' 664 2 = M 664 2 := h.1 664 2 (by decide) (by decide) (by decide) (fun q => absurd q.1 (by unfold isB; decide))
theorem yE_7 {T : Int → Prop} {M M' : tM} {b : Int} (h : yE T M M') (hb : ¬ T b) : M' 667 b = M 667 b := h.1 667 b (by decide) (by decide) (by omega) (fun q => hb q.2)
theorem yE_8 {T : Int → Prop} {M M' : tM} {b : Int} (h : yE T M M') (hb : ¬ T b) : M' 668 b = M 668 b := h.1 668 b (by decide) (by decide) (by omega) (fun q => hb q.2)
theorem yE_9 {T : Int → Prop} {M M' : tM} {b : Int} (h : yE T M M') (hb : ¬ T b) : M' 669 b = M 669 b := h.1 669 b (by decide) (by decide) (by omega) (fun q => hb q.2)
theorem yE_0 {T : Int → Prop} {M M' : tM} {b : Int} (h : yE T M M') (hb : ¬ T b) : M' 670 b = M 670 b := h.1 670 b (by decide) (by decide) (by omega) (fun q => hb q.2)
theorem yE_lo {T : Int → Prop} {M M' : tM} {b : Int} (h : yE T M M') (hb : ¬ T b) : zlo M' b = zlo M b := by
  unfold zlo
  rw [yE_7 h hb, yE_8 h hb]
theorem yE_hi {T : Int → Prop} {M M' : tM} {b : Int} (h : yE T M M') (hb : ¬ T b) : zhi M' b = zhi M b := by
  unfold zhi
  rw [yE_9 h hb, yE_0 h hb]
theorem yE_free {T : Int → Prop} {M : tM} {v : Int} : yE T M (tU M 664 11 v) := by
  have h1 : ∀ (k : Nat) (i : Int), ¬ (k = 664 ∧ i = 11) → tU M 664 11 v k i = M k i := fun k i h => if_neg h
  refine ⟨fun k i _ _ c _ => h1 k i (fun q => c ⟨q.1, Or.inr (Or.inr (Or.inl q.2))⟩), fun q => KI_k q (fun k i hk => h1 k i (by omega)), fun q b h4 h5 => ?_⟩
  have h6 := q b h4 h5
  unfold bcan at h6 ⊢
  rw [h1 667 b (by omega), h1 668 b (by omega), h1 669 b (by omega), h1 670 b (by omega)]
  exact h6
/-- and the place that is free is as it was -/
def xE (T : Int → Prop) (M M' : tM) : Prop := yE T M M' ∧ M' 664 11 = M 664 11
theorem xE_refl {T : Int → Prop} {M : tM} : xE T M M := ⟨yE_refl, rfl⟩
theorem xE_tr {T : Int → Prop} {M M1 M2 : tM} (h1 : xE T M M1) (h2 : xE T M1 M2) : xE T M M2 := ⟨yE_tr h1.1 h2.1, h2.2.trans h1.2⟩
theorem xE_mono {T T' : Int → Prop} {M M' : tM} (h : xE T M M') (hs : ∀ r, T r → T' r) : xE T' M M' := ⟨yE_mono h.1 hs, h.2⟩
theorem xE_U {S T : Int → Prop} {M M' : tM} (he : rU S M M') (h1 : ¬ S 11) (h2 : ¬ S 12) (h3 : ¬ S 13) : xE T M M' := ⟨yE_U he h1 h2 h3, he.1 664 11 (by decide) (by decide) (by decide)⟩
theorem xE_u {T : Int → Prop} {M M' : tM} (he : uE M M') : xE T M M' := ⟨yE_u he, he 664 11 (by decide)⟩
theorem xE_d {T : Int → Prop} {M M' : tM} (h : xE T M M') : M' 664 2 = M 664 2 := yE_d h.1
theorem xE_lo {T : Int → Prop} {M M' : tM} {b : Int} (h : xE T M M') (hb : ¬ T b) : zlo M' b = zlo M b := yE_lo h.1 hb
theorem xE_hi {T : Int → Prop} {M M' : tM} {b : Int} (h : xE T M M') (hb : ¬ T b) : zhi M' b = zhi M b := yE_hi h.1 hb
theorem xE_K {T : Int → Prop} {M M' : tM} (h : xE T M M') (hk : KI M) : KI M' := h.1.2.1 hk
theorem xE_B {T : Int → Prop} {M M' : tM} (h : xE T M M') (hk : BI M) : BI M' := h.1.2.2 hk
/-- a low bound set, a high bound set -/
def sLo (M : tM) (b u l : Int) : tM := tU (tU M 667 b u) 668 b l
def sHi (M : tM) (b u l : Int) : tM := tU (tU M 669 b u) 670 b l
theorem sLo_k {M : tM} {b u l : Int} {k : Nat} {i : Int} (h : ¬ (isB k ∧ i = b)) : sLo M b u l k i = M k i := by
  unfold sLo tU
  rw [if_neg (fun q => h ⟨Or.inr (Or.inl q.1), q.2⟩), if_neg (fun q => h ⟨Or.inl q.1, q.2⟩)]
theorem sHi_k {M : tM} {b u l : Int} {k : Nat} {i : Int} (h : ¬ (isB k ∧ i = b)) : sHi M b u l k i = M k i := by
  unfold sHi tU
  rw [if_neg (fun q => h ⟨Or.inr (Or.inr (Or.inr q.1)), q.2⟩), if_neg (fun q => h ⟨Or.inr (Or.inr (Or.inl q.1)), q.2⟩)]
theorem sLo_lo (M : tM) (b u l : Int) : zlo (sLo M b u l) b = u * 1000000000 + l := by
  unfold zlo sLo
  rw [tU_nk (by decide), tU_eq, tU_eq]
theorem sLo_hi (M : tM) (b u l c : Int) : zhi (sLo M b u l) c = zhi M c := by
  unfold zhi sLo
  rw [tU_nk (by decide), tU_nk (by decide), tU_nk (by decide), tU_nk (by decide)]
theorem sHi_hi (M : tM) (b u l : Int) : zhi (sHi M b u l) b = u * 1000000000 + l := by
  unfold zhi sHi
  rw [tU_nk (by decide), tU_eq, tU_eq]
theorem sHi_lo (M : tM) (b u l c : Int) : zlo (sHi M b u l) c = zlo M c := by
  unfold zlo sHi
  rw [tU_nk (by decide), tU_nk (by decide), tU_nk (by decide), tU_nk (by decide)]
theorem sLo_xE {T : Int → Prop} {M : tM} {b u l : Int} (hT : T b) (hl : 0 ≤ l ∧ l < 1000000000) (hu : -30000000000000000000000 ≤ u * 1000000000 + l ∧ u * 1000000000 + l ≤ 30000000000000000000000) : xE T M (sLo M b u l) := by
  refine ⟨⟨fun k i _ _ _ q => sLo_k (fun z => q ⟨z.1, by rw [z.2]; exact hT⟩), fun q => KI_k q (fun k i hk => sLo_k (fun z => by have := z.1; unfold isB at this; omega)), fun q c h1 h2 => ?_⟩, sLo_k (fun z => by have := z.1; unfold isB at this; omega)⟩
  have h3 := q c h1 h2
  unfold bcan at h3 ⊢
  by_cases hc : c = b
  · subst hc
    unfold sLo
    rw [tU_nk (show (667 : Nat) ≠ 668 by decide), tU_eq, tU_eq, tU_nk (show (669 : Nat) ≠ 668 by decide), tU_nk (show (669 : Nat) ≠ 667 by decide), tU_nk (show (670 : Nat) ≠ 668 by decide), tU_nk (show (670 : Nat) ≠ 667 by decide)]
    omega
  · rw [sLo_k (fun z => hc z.2), sLo_k (fun z => hc z.2), sLo_k (fun z => hc z.2), sLo_k (fun z => hc z.2)]
    exact h3
theorem sHi_xE {T : Int → Prop} {M : tM} {b u l : Int} (hT : T b) (hl : 0 ≤ l ∧ l < 1000000000) (hu : -30000000000000000000000 ≤ u * 1000000000 + l ∧ u * 1000000000 + l ≤ 30000000000000000000000) : xE T M (sHi M b u l) := by
  refine ⟨⟨fun k i _ _ _ q => sHi_k (fun z => q ⟨z.1, by rw [z.2]; exact hT⟩), fun q => KI_k q (fun k i hk => sHi_k (fun z => by have := z.1; unfold isB at this; omega)), fun q c h1 h2 => ?_⟩, sHi_k (fun z => by have := z.1; unfold isB at this; omega)⟩
  have h3 := q c h1 h2
  unfold bcan at h3 ⊢
  by_cases hc : c = b
  · subst hc
    unfold sHi
    rw [tU_nk (show (669 : Nat) ≠ 670 by decide), tU_eq, tU_eq, tU_nk (show (667 : Nat) ≠ 670 by decide), tU_nk (show (667 : Nat) ≠ 669 by decide), tU_nk (show (668 : Nat) ≠ 670 by decide), tU_nk (show (668 : Nat) ≠ 669 by decide)]
    omega
  · rw [sHi_k (fun z => hc z.2), sHi_k (fun z => hc z.2), sHi_k (fun z => hc z.2), sHi_k (fun z => hc z.2)]
    exact h3
/-- a box as another one is -/
def sTk (M : tM) (a b : Int) : tM := tU (tU (tU (tU M 667 b (M 667 a)) 668 b (M 668 a)) 669 b (M 669 a)) 670 b (M 670 a)
theorem sTk_eq (M : tM) (a b : Int) : sTk M a b = sHi (sLo M b (M 667 a) (M 668 a)) b (M 669 a) (M 670 a) := rfl
theorem sTk_k {M : tM} {a b : Int} {k : Nat} {i : Int} (h : ¬ (isB k ∧ i = b)) : sTk M a b k i = M k i := by
  rw [sTk_eq, sHi_k h, sLo_k h]
theorem sTk_lo (M : tM) (a b : Int) : zlo (sTk M a b) b = zlo M a := by
  rw [sTk_eq, sHi_lo, sLo_lo]
  rfl
theorem sTk_hi (M : tM) (a b : Int) : zhi (sTk M a b) b = zhi M a := by
  rw [sTk_eq, sHi_hi]
  rfl
theorem sTk_xE {T : Int → Prop} {M : tM} {a b : Int} (hT : T b) (hc : bcan M a) : xE T M (sTk M a b) := by
  rw [sTk_eq]
  obtain ⟨⟨h1, h2⟩, h3, h4⟩ := hc
  exact xE_tr (sLo_xE hT h1 h3) (sHi_xE hT h2 h4)
section MODEL
variable {e : tE} {d n : Nat} {M : tM}
theorem c_low {b u l : Int} (hb : 0 ≤ b ∧ b < 700) : tC e d 3650 [.inr (.inr (.inl 664)), .inl b, .inr (.inl u), .inr (.inl l)] M n (tQn n (fun M' => M' = sLo M b u l)) := by
  refine tst_X12_low ?_
  refine tb_X12_low_0 (c := false) ?_
  simp only [kb_X12_low_0, w_ald_0, w_gf_14_6, tw_f, w_ild_1, w_lld_2, w_las, w_gf_14_7, w_lld4, w_re, true_and, and_true, Nat.reduceAdd, Nat.reduceSub, eq_self, tshm_14, tshm_31, tshm_32, tykm_31, tykm_32, tykm_14, tci_14, tci_15, tci_960, tshm_667, tshm_668, tshm_669, tshm_670, tykm_33, tci_700]
  exact ⟨by omega, by omega, rfl, rfl, rfl⟩
theorem c_high {b u l : Int} (hb : 0 ≤ b ∧ b < 700) : tC e d 3623 [.inr (.inr (.inl 664)), .inl b, .inr (.inl u), .inr (.inl l)] M n (tQn n (fun M' => M' = sHi M b u l)) := by
  refine tst_X12_high ?_
  refine tb_X12_high_0 (c := false) ?_
  simp only [kb_X12_high_0, w_ald_0, w_gf_14_8, tw_f, w_ild_1, w_lld_2, w_las, w_gf_14_9, w_lld4, w_re, true_and, and_true, Nat.reduceAdd, Nat.reduceSub, eq_self, tshm_14, tshm_31, tshm_32, tykm_31, tykm_32, tykm_14, tci_14, tci_15, tci_960, tshm_667, tshm_668, tshm_669, tshm_670, tykm_33, tci_700]
  exact ⟨by omega, by omega, rfl, rfl, rfl⟩
theorem c_single {b u l : Int} (hb : 0 ≤ b ∧ b < 700) (hd : 1 ≤ d) : tC e d 3707 [.inr (.inr (.inl 664)), .inl b, .inr (.inl u), .inr (.inl l)] M n (tQn n (fun M' => M' = sHi (sLo M b u l) b u l)) := by
  refine tst_X12_single ?_
  refine tb_X12_single_0 (c := false) ?_
  simp only [kb_X12_single_0, w_ald_0, w_ild_1, w_lld_2, w_lld4, w_iv3, tfr_0, tfr_1, tfr_2, tfr_3, tfr_4, w_re, true_and, and_true, Nat.reduceAdd, Nat.reduceSub, eq_self, tshm_14, tshm_31, tshm_32, tykm_31, tykm_32, tykm_14, tci_14, tci_15, tci_960, tshm_667, tshm_668, tshm_669, tshm_670, tykm_33, tci_700]
  refine tc_n (D := 0) (fun d' _ => c_low hb) (by omega) ?_
  rintro _ rfl
  try simp only [kb_X12_single_0, w_ald_0, w_ild_1, w_lld_2, w_lld4, w_iv3, tfr_0, tfr_1, tfr_2, tfr_3, tfr_4, w_re, true_and, and_true, Nat.reduceAdd, Nat.reduceSub, eq_self, tshm_14, tshm_31, tshm_32, tykm_31, tykm_32, tykm_14, tci_14, tci_15, tci_960, tshm_667, tshm_668, tshm_669, tshm_670, tykm_33, tci_700]
  refine tc_n (D := 0) (fun d' _ => c_high hb) (by omega) ?_
  rintro _ rfl
  try simp only [kb_X12_single_0, w_ald_0, w_ild_1, w_lld_2, w_lld4, w_iv3, tfr_0, tfr_1, tfr_2, tfr_3, tfr_4, w_re, true_and, and_true, Nat.reduceAdd, Nat.reduceSub, eq_self, tshm_14, tshm_31, tshm_32, tykm_31, tykm_32, tykm_14, tci_14, tci_15, tci_960, tshm_667, tshm_668, tshm_669, tshm_670, tykm_33, tci_700]
  exact ⟨rfl, rfl, rfl⟩
theorem c_takes {a b : Int} (ha : 0 ≤ a ∧ a < 700) (hb : 0 ≤ b ∧ b < 700) : tC e d 3718 [.inr (.inr (.inl 664)), .inl a, .inl b] M n (tQn n (fun M' => M' = sTk M a b)) := by
  refine tst_X12_takes ?_
  refine tb_X12_takes_0 (c := false) ?_
  simp (disch := decide) only [kb_X12_takes_0, w_ald_0, w_gf_14_6, tw_f, w_ild_2, w_ild_1, w_la, w_lax, w_las, w_gf_14_7, w_gf_14_8, w_gf_14_9, w_re, true_and, and_true, Nat.reduceAdd, Nat.reduceSub, eq_self, tshm_14, tshm_31, tshm_32, tykm_31, tykm_32, tykm_14, tci_14, tci_15, tci_960, tshm_667, tshm_668, tshm_669, tshm_670, tykm_33, tci_700, tU_nk, tU_ni, tU_eq]
  exact ⟨by omega, by omega, by omega, by omega, by omega, by omega, by omega, by omega, rfl, rfl, rfl⟩
theorem c_isBelow {b : Int} (hb : 0 ≤ b ∧ b < 700) (hc : bcan M b) : tC e d 3628 [.inr (.inr (.inl 664)), .inl b] M n (tQi n (fun z M' => (z = 1 ∧ zlo M b < 0 ∨ z = 0 ∧ ¬ zlo M b < 0) ∧ M = M')) := by
  obtain ⟨⟨h1, h2⟩, h3, h4⟩ := hc
  unfold zlo
  refine tst_X12_isBelow ?_
  refine tb_X12_isBelow_0 (c := false) ?_
  simp only [kb_X12_isBelow_0, w_ald_0, w_gf_14_6, tw_f, w_ild_1, w_la, w_lax, w_lc0, w_lcmp, ne_eq, tlc_r, tlc_eq, tlc_lt, tlc_ge, tlc_gt, tlc_le, w_if_ge, w_ic, w_goto, true_and, and_true, Nat.reduceAdd, Nat.reduceSub, eq_self, tshm_14, tshm_31, tshm_32, tykm_31, tykm_32, tykm_14, tci_14, tci_15, tci_960, tshm_667, tshm_668, tshm_669, tshm_670, tykm_33, tci_700]
  refine ⟨by omega, by omega, fun h => ?_, fun h => ?_⟩
  · refine tb_X12_isBelow_15 (c := false) ?_
    simp only [kb_X12_isBelow_15, w_ic, w_nil, true_and, and_true, Nat.reduceAdd, Nat.reduceSub, eq_self]
    refine tb_X12_isBelow_16 (c := false) ?_
    simp only [kb_X12_isBelow_16, w_ire, trg, true_and, and_true, Nat.reduceAdd, Nat.reduceSub, eq_self]
    exact ⟨by omega, _, rfl, rfl, by omega, rfl⟩
  · refine tb_X12_isBelow_16 (c := false) ?_
    simp only [kb_X12_isBelow_16, w_ire, trg, true_and, and_true, Nat.reduceAdd, Nat.reduceSub, eq_self]
    exact ⟨by omega, _, rfl, rfl, by omega, rfl⟩
theorem c_isBelow0 {b : Int} (hb : 0 ≤ b ∧ b < 700) (hc : bcan M b) : tC e d 3629 [.inr (.inr (.inl 664)), .inl b] M n (tQi n (fun z M' => (z = 1 ∧ zhi M b < 0 ∨ z = 0 ∧ ¬ zhi M b < 0) ∧ M = M')) := by
  obtain ⟨⟨h1, h2⟩, h3, h4⟩ := hc
  unfold zhi
  refine tst_X12_isBelow0 ?_
  refine tb_X12_isBelow0_0 (c := false) ?_
  simp only [kb_X12_isBelow0_0, w_ald_0, w_gf_14_8, tw_f, w_ild_1, w_la, w_lax, w_lc0, w_lcmp, ne_eq, tlc_r, tlc_eq, tlc_lt, tlc_ge, tlc_gt, tlc_le, w_if_ge, w_ic, w_goto, true_and, and_true, Nat.reduceAdd, Nat.reduceSub, eq_self, tshm_14, tshm_31, tshm_32, tykm_31, tykm_32, tykm_14, tci_14, tci_15, tci_960, tshm_667, tshm_668, tshm_669, tshm_670, tykm_33, tci_700]
  refine ⟨by omega, by omega, fun h => ?_, fun h => ?_⟩
  · refine tb_X12_isBelow0_15 (c := false) ?_
    simp only [kb_X12_isBelow0_15, w_ic, w_nil, true_and, and_true, Nat.reduceAdd, Nat.reduceSub, eq_self]
    refine tb_X12_isBelow0_16 (c := false) ?_
    simp only [kb_X12_isBelow0_16, w_ire, trg, true_and, and_true, Nat.reduceAdd, Nat.reduceSub, eq_self]
    exact ⟨by omega, _, rfl, rfl, by omega, rfl⟩
  · refine tb_X12_isBelow0_16 (c := false) ?_
    simp only [kb_X12_isBelow0_16, w_ire, trg, true_and, and_true, Nat.reduceAdd, Nat.reduceSub, eq_self]
    exact ⟨by omega, _, rfl, rfl, by omega, rfl⟩
theorem c_isAbove0 {b : Int} (hb : 0 ≤ b ∧ b < 700) (hc : bcan M b) : tC e d 3627 [.inr (.inr (.inl 664)), .inl b] M n (tQi n (fun z M' => (z = 1 ∧ 0 < zlo M b ∨ z = 0 ∧ ¬ 0 < zlo M b) ∧ M = M')) := by
  obtain ⟨⟨h1, h2⟩, h3, h4⟩ := hc
  unfold zlo
  have f : ∀ z : Int, (z = 1 ∧ 0 < M 667 b * 1000000000 + M 668 b ∨ z = 0 ∧ ¬ 0 < M 667 b * 1000000000 + M 668 b) → tT e d 3627 38 [some (.inr (.inr (.inl 664))), some (.inl b)] [.inl z] M n (tQi n (fun z M' => (z = 1 ∧ 0 < M 667 b * 1000000000 + M 668 b ∨ z = 0 ∧ ¬ 0 < M 667 b * 1000000000 + M 668 b) ∧ M = M')) := by
    intro z hz
    refine tb_X12_isAbove0_38 (c := false) ?_
    simp only [kb_X12_isAbove0_38, w_ire, trg, true_and, and_true, Nat.reduceAdd, Nat.reduceSub, eq_self]
    exact ⟨by omega, _, rfl, rfl, hz, rfl⟩
  refine tst_X12_isAbove0 ?_
  refine tb_X12_isAbove0_0 (c := false) ?_
  simp only [kb_X12_isAbove0_0, w_ald_0, w_gf_14_6, tw_f, w_ild_1, w_la, w_lax, w_lc0, w_lcmp, ne_eq, tlc_r, tlc_eq, tlc_lt, tlc_ge, tlc_gt, tlc_le, w_if_gt, w_if_ne, w_gf_14_7, w_if_le, w_nil, true_and, and_true, Nat.reduceAdd, Nat.reduceSub, eq_self, tshm_14, tshm_31, tshm_32, tykm_31, tykm_32, tykm_14, tci_14, tci_15, tci_960, tshm_667, tshm_668, tshm_669, tshm_670, tykm_33, tci_700]
  refine ⟨by omega, by omega, fun h => ?_, fun h => ⟨by omega, by omega, fun h => ?_, fun h => ⟨by omega, by omega, fun h => ?_, fun h => ?_⟩⟩⟩
  · refine tb_X12_isAbove0_33 (c := false) ?_
    simp only [kb_X12_isAbove0_33, w_ic, w_goto, true_and, and_true, Nat.reduceAdd, Nat.reduceSub, eq_self]
    exact f 1 (by omega)
  · refine tb_X12_isAbove0_37 (c := false) ?_
    simp only [kb_X12_isAbove0_37, w_ic, w_nil, true_and, and_true, Nat.reduceAdd, Nat.reduceSub, eq_self]
    exact f 0 (by omega)
  · refine tb_X12_isAbove0_37 (c := false) ?_
    simp only [kb_X12_isAbove0_37, w_ic, w_nil, true_and, and_true, Nat.reduceAdd, Nat.reduceSub, eq_self]
    exact f 0 (by omega)
  · refine tb_X12_isAbove0_33 (c := false) ?_
    simp only [kb_X12_isAbove0_33, w_ic, w_goto, true_and, and_true, Nat.reduceAdd, Nat.reduceSub, eq_self]
    exact f 1 (by omega)
theorem c_holdsNothing {b : Int} (hb : 0 ≤ b ∧ b < 700) (hc : bcan M b) : tC e d 3625 [.inr (.inr (.inl 664)), .inl b] M n (tQi n (fun z M' => (z = 1 ∧ (0 < zlo M b ∨ zhi M b < 0) ∨ z = 0 ∧ ¬ (0 < zlo M b ∨ zhi M b < 0)) ∧ M = M')) := by
  obtain ⟨⟨h1, h2⟩, h3, h4⟩ := hc
  unfold zlo zhi
  generalize hP : (0 < M 667 b * 1000000000 + M 668 b ∨ M 669 b * 1000000000 + M 670 b < 0) = P
  have f : ∀ z : Int, (z = 1 ∧ P ∨ z = 0 ∧ ¬ P) → tT e d 3625 49 [some (.inr (.inr (.inl 664))), some (.inl b)] [.inl z] M n (tQi n (fun z M' => (z = 1 ∧ P ∨ z = 0 ∧ ¬ P) ∧ M = M')) := by
    intro z hz
    refine tb_X12_holdsNothing_49 (c := false) ?_
    simp only [kb_X12_holdsNothing_49, w_ire, trg, true_and, and_true, Nat.reduceAdd, Nat.reduceSub, eq_self]
    exact ⟨by omega, _, rfl, rfl, hz, rfl⟩
  have f1 : P → tT e d 3625 44 [some (.inr (.inr (.inl 664))), some (.inl b)] [] M n (tQi n (fun z M' => (z = 1 ∧ P ∨ z = 0 ∧ ¬ P) ∧ M = M')) := by
    intro hp
    refine tb_X12_holdsNothing_44 (c := false) ?_
    simp only [kb_X12_holdsNothing_44, w_ic, w_goto, true_and, and_true, Nat.reduceAdd, Nat.reduceSub, eq_self]
    exact f 1 (Or.inl ⟨rfl, hp⟩)
  have f33 : ¬ (0 < M 667 b * 1000000000 + M 668 b) → tT e d 3625 33 [some (.inr (.inr (.inl 664))), some (.inl b)] [] M n (tQi n (fun z M' => (z = 1 ∧ P ∨ z = 0 ∧ ¬ P) ∧ M = M')) := by
    intro hp
    refine tb_X12_holdsNothing_33 (c := false) ?_
    simp only [kb_X12_holdsNothing_33, w_ald_0, w_gf_14_8, tw_f, w_ild_1, w_la, w_lax, w_lc0, w_lcmp, ne_eq, tlc_r, tlc_eq, tlc_lt, tlc_ge, tlc_gt, tlc_le, w_if_ge, w_nil, true_and, and_true, Nat.reduceAdd, Nat.reduceSub, eq_self, tshm_14, tshm_31, tshm_32, tykm_31, tykm_32, tykm_14, tci_14, tci_15, tci_960, tshm_667, tshm_668, tshm_669, tshm_670, tykm_33, tci_700]
    refine ⟨by omega, by omega, fun h => ?_, fun h => ?_⟩
    · refine tb_X12_holdsNothing_48 (c := false) ?_
      simp only [kb_X12_holdsNothing_48, w_ic, w_nil, true_and, and_true, Nat.reduceAdd, Nat.reduceSub, eq_self]
      exact f 0 (Or.inr ⟨rfl, by rw [← hP]; omega⟩)
    · exact f1 (by rw [← hP]; omega)
  refine tst_X12_holdsNothing ?_
  refine tb_X12_holdsNothing_0 (c := false) ?_
  simp only [kb_X12_holdsNothing_0, w_ald_0, w_gf_14_6, tw_f, w_ild_1, w_la, w_lax, w_lc0, w_lcmp, ne_eq, tlc_r, tlc_eq, tlc_lt, tlc_ge, tlc_gt, tlc_le, w_if_gt, w_if_ne, w_gf_14_7, w_nil, true_and, and_true, Nat.reduceAdd, Nat.reduceSub, eq_self, tshm_14, tshm_31, tshm_32, tykm_31, tykm_32, tykm_14, tci_14, tci_15, tci_960, tshm_667, tshm_668, tshm_669, tshm_670, tykm_33, tci_700]
  refine ⟨by omega, by omega, fun h => f1 (by rw [← hP]; omega), fun h => ⟨by omega, by omega, fun h => f33 (by omega), fun h => ⟨by omega, by omega, fun h => f1 (by rw [← hP]; omega), fun h => f33 (by omega)⟩⟩⟩
theorem c_holds0 {b : Int} (hb : 0 ≤ b ∧ b < 700) (hc : bcan M b) (hd : 1 ≤ d) : tC e d 3624 [.inr (.inr (.inl 664)), .inl b] M n (tQi n (fun z M' => (z = 0 ∧ (0 < zlo M b ∨ zhi M b < 0) ∨ z = 1 ∧ ¬ (0 < zlo M b ∨ zhi M b < 0)) ∧ M = M')) := by
  refine tst_X12_holds0 ?_
  refine tb_X12_holds0_0 (c := false) ?_
  simp only [kb_X12_holds0_0, w_ald_0, w_ild_1, w_iv1, tfr_0, tfr_1, tfr_2, tfr_3, tfr_4, w_if_ne, w_ic, w_goto, true_and, and_true, Nat.reduceAdd, Nat.reduceSub, eq_self, tshm_14, tshm_31, tshm_32, tykm_31, tykm_32, tykm_14, tci_14, tci_15, tci_960, tshm_667, tshm_668, tshm_669, tshm_670, tykm_33, tci_700]
  refine tc_i (D := 0) (fun d' _ => c_holdsNothing hb hc) (by omega) ?_
  rintro z _ ⟨hz, rfl⟩
  try simp only [kb_X12_holds0_0, w_ald_0, w_ild_1, w_iv1, tfr_0, tfr_1, tfr_2, tfr_3, tfr_4, w_if_ne, w_ic, w_goto, true_and, and_true, Nat.reduceAdd, Nat.reduceSub, eq_self, tshm_14, tshm_31, tshm_32, tykm_31, tykm_32, tykm_14, tci_14, tci_15, tci_960, tshm_667, tshm_668, tshm_669, tshm_670, tykm_33, tci_700]
  refine ⟨by omega, fun h => ?_, fun h => ?_⟩
  · refine tb_X12_holds0_12 (c := false) ?_
    simp only [kb_X12_holds0_12, w_ic, w_nil, true_and, and_true, Nat.reduceAdd, Nat.reduceSub, eq_self]
    refine tb_X12_holds0_13 (c := false) ?_
    simp only [kb_X12_holds0_13, w_ire, trg, true_and, and_true, Nat.reduceAdd, Nat.reduceSub, eq_self]
    exact ⟨by omega, _, rfl, rfl, Or.inl ⟨rfl, by rcases hz with ⟨-, hz⟩ | ⟨hz, -⟩; exact hz; omega⟩, rfl⟩
  · refine tb_X12_holds0_13 (c := false) ?_
    simp only [kb_X12_holds0_13, w_ire, trg, true_and, and_true, Nat.reduceAdd, Nat.reduceSub, eq_self]
    exact ⟨by omega, _, rfl, rfl, Or.inr ⟨rfl, by rcases hz with ⟨hz, -⟩ | ⟨-, hz⟩; omega; exact hz⟩, rfl⟩
theorem c_isSingle {b : Int} (hb : 0 ≤ b ∧ b < 700) (hc : bcan M b) : tC e d 3634 [.inr (.inr (.inl 664)), .inl b] M n (tQi n (fun z M' => (z = 1 ∧ zlo M b = zhi M b ∨ z = 0 ∧ ¬ zlo M b = zhi M b) ∧ M = M')) := by
  obtain ⟨⟨h1, h2⟩, h3, h4⟩ := hc
  unfold zlo zhi
  refine tst_X12_isSingle ?_
  refine tb_X12_isSingle_0 (c := false) ?_
  simp only [kb_X12_isSingle_0, w_ald_0, w_gf_14_6, tw_f, w_ild_1, w_la, w_lax, w_gf_14_8, w_lcmp, ne_eq, tlc_r, tlc_eq, tlc_lt, tlc_ge, tlc_gt, tlc_le, w_if_ne, w_gf_14_7, w_gf_14_9, w_ic, w_goto, true_and, and_true, Nat.reduceAdd, Nat.reduceSub, eq_self, tshm_14, tshm_31, tshm_32, tykm_31, tykm_32, tykm_14, tci_14, tci_15, tci_960, tshm_667, tshm_668, tshm_669, tshm_670, tykm_33, tci_700]
  refine ⟨by omega, by omega, by omega, fun h => ?_, fun h => ⟨by omega, by omega, by omega, fun h => ?_, fun h => ?_⟩⟩
  · refine tb_X12_isSingle_36 (c := false) ?_
    simp only [kb_X12_isSingle_36, w_ic, w_nil, true_and, and_true, Nat.reduceAdd, Nat.reduceSub, eq_self]
    refine tb_X12_isSingle_37 (c := false) ?_
    simp only [kb_X12_isSingle_37, w_ire, trg, true_and, and_true, Nat.reduceAdd, Nat.reduceSub, eq_self]
    exact ⟨by omega, _, rfl, rfl, by omega, rfl⟩
  · refine tb_X12_isSingle_36 (c := false) ?_
    simp only [kb_X12_isSingle_36, w_ic, w_nil, true_and, and_true, Nat.reduceAdd, Nat.reduceSub, eq_self]
    refine tb_X12_isSingle_37 (c := false) ?_
    simp only [kb_X12_isSingle_37, w_ire, trg, true_and, and_true, Nat.reduceAdd, Nat.reduceSub, eq_self]
    exact ⟨by omega, _, rfl, rfl, by omega, rfl⟩
  · refine tb_X12_isSingle_37 (c := false) ?_
    simp only [kb_X12_isSingle_37, w_ire, trg, true_and, and_true, Nat.reduceAdd, Nat.reduceSub, eq_self]
    exact ⟨by omega, _, rfl, rfl, by omega, rfl⟩
end MODEL
