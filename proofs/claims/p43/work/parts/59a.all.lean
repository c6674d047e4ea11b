/-! THE MODEL: all that holds between its calls: shelves, text, formulas, pieces. -/
theorem tzs_672 : tsh 672 = 15 := by rw [tsh_def]; decide +kernel
theorem tzs_673 : tsh 673 = 15 := by rw [tsh_def]; decide +kernel
theorem tzs_680 : tsh 680 = 35 := by rw [tsh_def]; decide +kernel
theorem tzs_681 : tsh 681 = 36 := by rw [tsh_def]; decide +kernel
theorem tzs_682 : tsh 682 = 36 := by rw [tsh_def]; decide +kernel
theorem tzs_683 : tsh 683 = 36 := by rw [tsh_def]; decide +kernel
theorem tzs_684 : tsh 684 = 37 := by rw [tsh_def]; decide +kernel
theorem tzs_685 : tsh 685 = 38 := by rw [tsh_def]; decide +kernel
theorem tzs_686 : tsh 686 = 38 := by rw [tsh_def]; decide +kernel
theorem tzs_687 : tsh 687 = 39 := by rw [tsh_def]; decide +kernel
theorem tzs_688 : tsh 688 = 40 := by rw [tsh_def]; decide +kernel
theorem tzs_689 : tsh 689 = 40 := by rw [tsh_def]; decide +kernel
theorem tzy_15 : tyk 15 = (1, 0, 60) := rfl
theorem tzy_35 : tyk 35 = (1, 0, 320) := rfl
theorem tzy_36 : tyk 36 = (1, 1, 320) := rfl
theorem tzy_37 : tyk 37 = (2, 2, 320) := rfl
theorem tzy_38 : tyk 38 = (1, 1, 5) := rfl
theorem tzy_39 : tyk 39 = (1, 3, 4) := rfl
theorem tzy_40 : tyk 40 = (1, 0, 8) := rfl
theorem tzc_60 : ((60 : Nat) : Int) = 60 := rfl
theorem tzc_320 : ((320 : Nat) : Int) = 320 := rfl
theorem tzc_5 : ((5 : Nat) : Int) = 5 := rfl
theorem tzc_4 : ((4 : Nat) : Int) = 4 := rfl
theorem tzc_8 : ((8 : Nat) : Int) = 8 := rfl
section WROWS
variable {e : tE} {c : Bool} {rk d mi pe pc j a b : Nat} {v : Int} {t : List (Nat × bO)} {L : tL} {st : List tV} {M : tM} {n : Nat} {Q : tR → tM → Nat → Prop}
theorem w_casz {r : Nat} {x i : Int} : wB e c rk d mi pe ((pc, (.castore, j, a, b, v)) :: t) L (.inl x :: .inl i :: .inr (.inr (.inl r)) :: st) M n Q = ((tyk (tsh r)).1 = 1 ∧ (tyk (tsh r)).2.1 = 0 ∧ (0 ≤ i ∧ i < ((tyk (tsh r)).2.2 : Nat)) ∧ (0 ≤ x ∧ x ≤ 65535) ∧ wB e c rk d mi pe t L st (tU M r i x) n Q) := by
  rw [w_cas]
  exact propext ⟨fun q => ⟨q.1, q.2.1, q.2.2.1, q.2.2.2.1 (by decide), q.2.2.2.2⟩, fun q => ⟨q.1, q.2.1, q.2.2.1, fun _ => q.2.2.2.1, q.2.2.2.2⟩⟩
theorem w_basz {r : Nat} {x i : Int} : wB e c rk d mi pe ((pc, (.bastore, j, a, b, v)) :: t) L (.inl x :: .inl i :: .inr (.inr (.inl r)) :: st) M n Q = ((tyk (tsh r)).1 = 1 ∧ (tyk (tsh r)).2.1 = 3 ∧ (0 ≤ i ∧ i < ((tyk (tsh r)).2.2 : Nat)) ∧ (0 ≤ x ∧ x ≤ 1) ∧ wB e c rk d mi pe t L st (tU M r i x) n Q) := by
  rw [w_bas]
  exact propext ⟨fun q => ⟨q.1, q.2.1, q.2.2.1, q.2.2.2.1 (by decide), q.2.2.2.2⟩, fun q => ⟨q.1, q.2.1, q.2.2.1, fun _ => q.2.2.2.1, q.2.2.2.2⟩⟩
end WROWS
theorem tz_d10 {x : Int} (h : 0 ≤ x) : x.tdiv 10 = x / 10 := Int.tdiv_eq_ediv_of_nonneg h
theorem tz_m10 {x : Int} (h : 0 ≤ x) : x.tmod 10 = x % 10 := Int.tmod_eq_emod_of_nonneg h
/-- the text and what is spelled -/
def TX (M : tM) : Prop := (0 ≤ M 664 17 ∧ M 664 17 ≤ 60) ∧ (∀ i : Int, 0 ≤ i → i < 60 → 0 ≤ M 672 i ∧ M 672 i ≤ 65535) ∧ ∀ i : Int, 0 ≤ i → i < 60 → 0 ≤ M 673 i ∧ M 673 i ≤ 65535
/-- a part of a formula whose parts begin at b: what it is made of lies ahead of it -/
def FN (M : tM) (b k : Int) : Prop := (M 680 k = 49 ∧ (0 ≤ M 684 k ∧ M 684 k < 1000000000000) ∧ (0 ≤ M 683 k ∧ M 683 k ≤ 12)) ∨ (M 680 k = 112 ∨ M 680 k = 120 ∨ M 680 k = 121) ∨ (M 680 k = 94 ∧ (b ≤ M 681 k ∧ M 681 k < k) ∧ (0 ≤ M 682 k ∧ M 682 k ≤ 9)) ∨ ((M 680 k = 110 ∨ M 680 k = 114 ∨ M 680 k = 101 ∨ M 680 k = 108 ∨ M 680 k = 97) ∧ (b ≤ M 681 k ∧ M 681 k < k)) ∨ ((M 680 k = 43 ∨ M 680 k = 45 ∨ M 680 k = 42 ∨ M 680 k = 47) ∧ (b ≤ M 681 k ∧ M 681 k < k) ∧ (b ≤ M 682 k ∧ M 682 k < k))
/-- the formulas -/
def FI (M : tM) : Prop := ∀ f : Int, 0 ≤ f → f < 4 → (0 ≤ M 687 f ∧ M 687 f ≤ 1) ∧ (0 ≤ M 686 f ∧ M 686 f ≤ 60) ∧ (M 687 f ≠ 0 → (64 * f ≤ M 685 f ∧ M 685 f < 64 * f + M 686 f) ∧ ∀ k : Int, 64 * f ≤ k → k < 64 * f + M 686 f → FN M (64 * f) k)
/-- the pieces -/
def PJ (M : tM) : Prop := (0 ≤ M 664 41 ∧ M 664 41 ≤ 8) ∧ ∀ i : Int, 0 ≤ i → i < 8 → (0 ≤ M 688 i ∧ M 688 i ≤ 65535) ∧ (0 ≤ M 689 i ∧ M 689 i ≤ 65535)
def MF (M : tM) (D : Nat) : Prop := MP M D ∧ TX M ∧ FI M ∧ PJ M
/-- the cells of the class, and the law's own -/
def MC (M M' : tM) : Prop := ∀ (k : Nat) (i : Int), k < 664 ∨ k = 690 → M' k i = M k i
theorem MC_refl {M : tM} : MC M M := fun _ _ _ => rfl
theorem MC_tr {M M1 M2 : tM} (h1 : MC M M1) (h2 : MC M1 M2) : MC M M2 := fun k i a => (h2 k i a).trans (h1 k i a)
theorem MC_me {M M' : tM} (h : ME M M') : MC M M' := fun k i a => h k i (by omega) (by omega) (by omega)
theorem MP_same {M M' : tM} {D : Nat} (h : ∀ (k : Nat) (i : Int), (k = 664 ∧ (i = 2 ∨ i = 11 ∨ i = 12 ∨ i = 13 ∨ i = 14 ∨ i = 25)) ∨ (665 ≤ k ∧ k ≤ 671) ∨ (674 ≤ k ∧ k ≤ 679) → M' k i = M k i) (hp : MP M D) : MP M' D := by
  obtain ⟨⟨h1, h2, h3, h4, h5, h6⟩, h7, h8⟩ := hp
  refine ⟨⟨(h _ _ (by omega)).trans h1, h2, (h _ _ (by omega)).trans h3, h4, BI_same (fun k i g => h k i (by unfold isB at g; omega)) h5, KI_same (fun k i g => h k i (by omega)) h6⟩, ⟨by rw [h 664 25 (by omega)]; exact h7.1, fun j j1 j2 => ?_, fun i i1 i2 => by rw [h 671 i (by omega)]; exact h7.2.2 i i1 i2⟩, fun b b1 b2 => OB_same (fun k g => h k b (by unfold isB at g; omega)) (h8 b b1 b2)⟩
  have := h7.2.1 j j1 j2
  unfold KS at this ⊢
  rw [h 674 j (by omega), h 675 j (by omega), h 676 j (by omega), h 677 j (by omega), h 678 j (by omega), h 679 j (by omega)]
  exact this
theorem TX_same {M M' : tM} (h : ∀ (k : Nat) (i : Int), (k = 664 ∧ i = 17) ∨ k = 672 ∨ k = 673 → M' k i = M k i) (ht : TX M) : TX M' := by
  unfold TX
  refine ⟨by rw [h 664 17 (by omega)]; exact ht.1, fun i a b => by rw [h 672 i (by omega)]; exact ht.2.1 i a b, fun i a b => by rw [h 673 i (by omega)]; exact ht.2.2 i a b⟩
theorem FN_same {M M' : tM} {b k : Int} (h : ∀ c : Nat, 680 ≤ c ∧ c ≤ 684 → M' c k = M c k) (hf : FN M b k) : FN M' b k := by
  unfold FN at hf ⊢
  rw [h 680 (by omega), h 681 (by omega), h 682 (by omega), h 683 (by omega), h 684 (by omega)]
  exact hf
theorem FI_same {M M' : tM} (h : ∀ (k : Nat) (i : Int), 680 ≤ k ∧ k ≤ 687 → M' k i = M k i) (hf : FI M) : FI M' := by
  intro f f1 f2
  have g := hf f f1 f2
  rw [h 687 f (by omega), h 686 f (by omega), h 685 f (by omega)]
  exact ⟨g.1, g.2.1, fun q => ⟨(g.2.2 q).1, fun k k1 k2 => FN_same (fun c hc => h c k (by omega)) ((g.2.2 q).2 k k1 k2)⟩⟩
theorem PJ_same {M M' : tM} (h : ∀ (k : Nat) (i : Int), (k = 664 ∧ i = 41) ∨ k = 688 ∨ k = 689 → M' k i = M k i) (hf : PJ M) : PJ M' := by
  unfold PJ
  refine ⟨by rw [h 664 41 (by omega)]; exact hf.1, fun i a b => ?_⟩
  rw [h 688 i (by omega), h 689 i (by omega)]
  exact hf.2 i a b
theorem MF_me {M M' : tM} {D : Nat} (h : MF M D) (hp : MP M' D) (he : ME M M') : MF M' D ∧ MC M M' :=
  ⟨⟨hp, TX_same (fun k i g => he k i (by omega) (by omega) (by omega)) h.2.1, FI_same (fun k i g => he k i (by omega) (by omega) (by omega)) h.2.2.1, PJ_same (fun k i g => he k i (by omega) (by omega) (by omega)) h.2.2.2⟩, MC_me he⟩
theorem MF_3 {M : tM} {D : Nat} {v : Int} (h : MF M D) : MF (tU M 664 3 v) D ∧ MC M (tU M 664 3 v) := MF_me h (MP_3 h.1).1 (MP_3 h.1).2
/-- only the text changes -/
def TE (M M' : tM) : Prop := ∀ (k : Nat) (i : Int), ¬ (k = 664 ∧ (i = 3 ∨ i = 4 ∨ i = 5 ∨ i = 17 ∨ i = 18)) → k ≠ 672 → k ≠ 673 → M' k i = M k i
theorem TE_refl {M : tM} : TE M M := fun _ _ _ _ _ => rfl
theorem TE_tr {M M1 M2 : tM} (h1 : TE M M1) (h2 : TE M1 M2) : TE M M2 := fun k i a b c => (h2 k i a b c).trans (h1 k i a b c)
theorem TE_U {M : tM} {c : Nat} {j v : Int} (h : (c = 664 ∧ (j = 3 ∨ j = 4 ∨ j = 5 ∨ j = 17 ∨ j = 18)) ∨ c = 672 ∨ c = 673) : TE M (tU M c j v) := fun k i h1 h2 h3 => if_neg (fun q => by obtain ⟨q1, q2⟩ := q; subst q1; subst q2; rcases h with h | h | h; exact h1 h; exact h2 h; exact h3 h)
theorem TE_u {M M' : tM} (h : uE M M') : TE M M' := fun k i a _ _ => h k i (by omega)
theorem MF_te {M M' : tM} {D : Nat} (h : MF M D) (he : TE M M') (ht : TX M') : MF M' D ∧ MC M M' :=
  ⟨⟨MP_same (fun k i g => he k i (by omega) (by omega) (by omega)) h.1, ht, FI_same (fun k i g => he k i (by omega) (by omega) (by omega)) h.2.2.1, PJ_same (fun k i g => he k i (by omega) (by omega) (by omega)) h.2.2.2⟩, fun k i a => he k i (by omega) (by omega) (by omega)⟩
/-- a text with one sign, or its length, changed -/
theorem TX_c {M : tM} {j v : Int} (h : TX M) (hv : 0 ≤ v ∧ v ≤ 65535) : TX (tU M 672 j v) := by
  refine ⟨by rw [tU_nk (by decide)]; exact h.1, fun i a b => ?_, fun i a b => by rw [tU_nk (by decide)]; exact h.2.2 i a b⟩
  by_cases q : i = j
  · rw [q, tU_eq]; exact hv
  · rw [tU_ni q]; exact h.2.1 i a b
theorem TX_d {M : tM} {j v : Int} (h : TX M) (hv : 0 ≤ v ∧ v ≤ 65535) : TX (tU M 673 j v) := by
  refine ⟨by rw [tU_nk (by decide)]; exact h.1, fun i a b => by rw [tU_nk (by decide)]; exact h.2.1 i a b, fun i a b => ?_⟩
  by_cases q : i = j
  · rw [q, tU_eq]; exact hv
  · rw [tU_ni q]; exact h.2.2 i a b
theorem TX_l {M : tM} {v : Int} (h : TX M) (hv : 0 ≤ v ∧ v ≤ 60) : TX (tU M 664 17 v) := by
  refine ⟨by rw [tU_eq]; exact hv, fun i a b => by rw [tU_nk (by decide)]; exact h.2.1 i a b, fun i a b => by rw [tU_nk (by decide)]; exact h.2.2 i a b⟩
theorem TX_o {M : tM} {j v : Int} (h : TX M) (hj : j ≠ 17) : TX (tU M 664 j v) := TX_same (fun k i g => if_neg (fun q => by omega)) h
