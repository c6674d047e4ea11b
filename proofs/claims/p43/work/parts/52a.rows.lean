/-! THE MODEL: rows of limbs. -/
theorem tshm_14 : tsh 664 = 14 := by rw [tsh_def]; decide +kernel
theorem tshm_31 : tsh 665 = 31 := by rw [tsh_def]; decide +kernel
theorem tshm_32 : tsh 666 = 32 := by rw [tsh_def]; decide +kernel
theorem tykm_14 : tyk 14 = (0, 14, 43) := rfl
theorem tykm_31 : tyk 31 = (2, 2, 960) := rfl
theorem tykm_32 : tyk 32 = (1, 1, 15) := rfl
def Dr (M : tM) (r : Int) (m x : Nat) : Prop := M 666 r = (m : Int) ∧ m ≤ 62 ∧ x < pw m ∧ ∀ i : Nat, i < m → M 665 (64 * r + (i : Int)) = ((dg x i : Nat) : Int)
def Vr (M : tM) (r : Int) (x : Nat) : Prop := ∃ m, Dr M r m x ∧ (m = 0 ∨ pw (m - 1) ≤ x)
def rE (S : Int → Prop) (M M' : tM) : Prop := (∀ (k : Nat) (i : Int), k ≠ 665 → k ≠ 666 → M' k i = M k i) ∧ (∀ r : Int, ¬ S r → M' 666 r = M 666 r) ∧ (∀ r j : Int, ¬ S r → 0 ≤ j → j < 64 → M' 665 (64 * r + j) = M 665 (64 * r + j))
theorem rE_refl {S : Int → Prop} {M : tM} : rE S M M := ⟨fun _ _ _ _ => rfl, fun _ _ => rfl, fun _ _ _ _ _ => rfl⟩
theorem rE_tr {S : Int → Prop} {M M1 M2 : tM} (h1 : rE S M M1) (h2 : rE S M1 M2) : rE S M M2 :=
  ⟨fun k i a b => (h2.1 k i a b).trans (h1.1 k i a b), fun r a => (h2.2.1 r a).trans (h1.2.1 r a), fun r j a b c => (h2.2.2 r j a b c).trans (h1.2.2 r j a b c)⟩
theorem rE_mono {S S' : Int → Prop} {M M' : tM} (h : rE S M M') (hs : ∀ r, S r → S' r) : rE S' M M' :=
  ⟨h.1, fun r a => h.2.1 r (fun q => a (hs r q)), fun r j a b c => h.2.2 r j (fun q => a (hs r q)) b c⟩
theorem rE_l {S : Int → Prop} {M : tM} {a k v : Int} (hs : S a) (hk : 0 ≤ k ∧ k < 64) : rE S M (tU M 665 (64 * a + k) v) := by
  refine ⟨fun k i h1 h2 => tU_nk h1, fun r hr => tU_nk (by decide), fun r j hr h1 h2 => tU_ni ?_⟩
  have : r ≠ a := fun q => hr (by rw [q]; exact hs)
  omega
theorem rE_m {S : Int → Prop} {M : tM} {a v : Int} (hs : S a) : rE S M (tU M 666 a v) := by
  refine ⟨fun k i h1 h2 => tU_nk h2, fun r hr => tU_ni (fun q => hr (by rw [q]; exact hs)), fun r j hr h1 h2 => tU_nk (by decide)⟩
theorem Dr_E {S : Int → Prop} {M M' : tM} {r : Int} {m x : Nat} (h : Dr M r m x) (he : rE S M M') (hs : ¬ S r) : Dr M' r m x :=
  ⟨(he.2.1 r hs).trans h.1, h.2.1, h.2.2.1, fun i hi => (he.2.2 r i hs (by omega) (by have := h.2.1; omega)).trans (h.2.2.2 i hi)⟩
theorem Vr_E {S : Int → Prop} {M M' : tM} {r : Int} {x : Nat} (h : Vr M r x) (he : rE S M M') (hs : ¬ S r) : Vr M' r x := by
  obtain ⟨m, h1, h2⟩ := h
  exact ⟨m, Dr_E h1 he hs, h2⟩
theorem Dr_dg {M : tM} {r : Int} {m x : Nat} (h : Dr M r m x) (k : Nat) : (if (k : Int) < M 666 r then M 665 (64 * r + (k : Int)) else 0) = ((dg x k : Nat) : Int) := by
  rw [h.1]
  by_cases hk : k < m
  · rw [if_pos (by omega), h.2.2.2 k hk]
  · rw [if_neg (by omega), dg_ge h.2.2.1 (by omega)]
    rfl
section MODEL
variable {e : tE} {d n : Nat} {M : tM}
/-- a limb, in any state -/
theorem c_limb0 {row k : Int} (hr : 0 ≤ row ∧ row < 15) (hk : 0 ≤ k ∧ k < 64) (hm : 0 ≤ M 666 row ∧ M 666 row < 100) : tC e d 3646 [.inr (.inr (.inl 664)), .inl row, .inl k] M n (tQl n (fun x M' => x = (if k < M 666 row then M 665 (64 * row + k) else 0) ∧ M = M')) := by
  refine tst_X12_limb ?_
  refine tb_X12_limb_0 (c := false) ?_
  simp only [kb_X12_limb_0, w_ild_2, w_ald_0, w_gf_14_1, tw_f, w_ild_1, w_ia, w_iax, w_ic_ge, w_gf_14_0, w_bi, w_imul, w_iadd, w_la, w_lax, w_goto, true_and, and_true, Nat.reduceAdd, Nat.reduceSub, eq_self, tshm_14, tshm_31, tshm_32, tykm_31, tykm_32, tykm_14, tci_14, tci_15, tci_960]
  refine ⟨by omega, by omega, fun h => ?_, fun h => ⟨by omega, ?_⟩⟩
  · refine tb_X12_limb_24 (c := false) ?_
    simp only [kb_X12_limb_24, w_lc0, w_nil, true_and, and_true, Nat.reduceAdd, Nat.reduceSub, eq_self]
    refine tb_X12_limb_25 (c := false) ?_
    simp only [kb_X12_limb_25, w_lre, true_and, and_true, Nat.reduceAdd, Nat.reduceSub, eq_self]
    exact ⟨_, rfl, rfl, by rw [if_neg (by omega)], rfl⟩
  · refine tb_X12_limb_25 (c := false) ?_
    simp only [kb_X12_limb_25, w_lre, true_and, and_true, Nat.reduceAdd, Nat.reduceSub, eq_self]
    exact ⟨_, rfl, rfl, by rw [if_pos (by omega)], rfl⟩
theorem c_limb {row : Int} {m x k : Nat} (hr : 0 ≤ row ∧ row < 15) (h : Dr M row m x) (hk : k < 64) : tC e d 3646 [.inr (.inr (.inl 664)), .inl row, .inl (k : Int)] M n (tQl n (fun y M' => y = ((dg x k : Nat) : Int) ∧ M = M')) := by
  have h1 := h.1
  have h2 := h.2.1
  refine tC_mono (c_limb0 hr (by omega) (by omega)) ?_
  rintro r M' n' ⟨y, q1, q2, q3, q4⟩
  exact ⟨y, q1, q2, by rw [q3, Dr_dg h], q4⟩
theorem c_lets {row k v : Int} (hr : 0 ≤ row ∧ row < 15) (hk : 0 ≤ k ∧ k < 64) : tC e d 3644 [.inr (.inr (.inl 664)), .inl row, .inl k, .inr (.inl v)] M n (tQn n (fun M' => M' = tU M 665 (64 * row + k) v)) := by
  refine tst_X12_lets ?_
  refine tb_X12_lets_0 (c := false) ?_
  simp only [kb_X12_lets_0, w_ald_0, w_gf_14_0, tw_f, w_bi, w_ild_1, w_imul, w_ild_2, w_iadd, w_lld_3, w_las, w_re, true_and, and_true, Nat.reduceAdd, Nat.reduceSub, eq_self, tshm_14, tshm_31, tshm_32, tykm_31, tykm_32, tykm_14, tci_14, tci_15, tci_960]
  exact ⟨by omega, rfl, rfl, rfl⟩
/-- what stands in a row, not trimmed -/
theorem c_trims {row : Int} {x : Nat} (hr : 0 ≤ row ∧ row < 15) : ∀ {m : Nat} {M : tM}, Dr M row m x → tC e d 3725 [.inr (.inr (.inl 664)), .inl row] M n (tQn n (fun M' => Vr M' row x ∧ rE (fun r => r = row) M M')) := by
  suffices H : ∀ (m : Nat) (M : tM), Dr M row m x → tT e d 3725 0 [some (.inr (.inr (.inl 664))), some (.inl row)] [] M n (tQn n (fun M' => Vr M' row x ∧ rE (fun r => r = row) M M')) by
    intro m M h
    exact tst_X12_trims (H m M h)
  intro m
  induction m with
  | zero =>
    intro M h
    have h1 := h.1
    refine tb_X12_trims_0 (c := false) ?_
    simp only [kb_X12_trims_0, w_ald_0, w_gf_14_1, tw_f, w_ild_1, w_ia, w_iax, w_if_le, w_gf_14_0, w_bi, w_imul, w_iadd, w_ic, w_isub, w_la, w_lax, w_lc0, w_lcmp, ne_eq, tlc_r, tlc_eq, tlc_lt, tlc_ge, tlc_gt, tlc_le, w_if_ne, w_dup2l, w_dup2a, w_ias, eq_self, not_true_eq_false, false_implies, w_goto, true_and, and_true, Nat.reduceAdd, Nat.reduceSub, eq_self, tshm_14, tshm_31, tshm_32, tykm_31, tykm_32, tykm_14, tci_14, tci_15, tci_960]
    refine ⟨by omega, by omega, fun _ => ?_, fun h2 => absurd (show M 666 row ≤ 0 by omega) h2⟩
    refine tb_X12_trims_45 (c := false) ?_
    simp only [kb_X12_trims_45, w_re, true_and, and_true, Nat.reduceAdd, Nat.reduceSub, eq_self]
    exact ⟨rfl, rfl, ⟨0, h, Or.inl rfl⟩, rE_refl⟩
  | succ m ih =>
    intro M h
    obtain ⟨h1, h2, h3, h4⟩ := h
    have h5 := h4 m (Nat.lt_succ_self m)
    have h6 := dg_lt x m
    have e1 : 64 * row + M 666 row - 1 = 64 * row + (m : Int) := by omega
    refine tb_X12_trims_0 (c := false) ?_
    simp only [kb_X12_trims_0, w_ald_0, w_gf_14_1, tw_f, w_ild_1, w_ia, w_iax, w_if_le, w_gf_14_0, w_bi, w_imul, w_iadd, w_ic, w_isub, w_la, w_lax, w_lc0, w_lcmp, ne_eq, tlc_r, tlc_eq, tlc_lt, tlc_ge, tlc_gt, tlc_le, w_if_ne, w_dup2l, w_dup2a, w_ias, eq_self, not_true_eq_false, false_implies, w_goto, true_and, and_true, Nat.reduceAdd, Nat.reduceSub, eq_self, tshm_14, tshm_31, tshm_32, tykm_31, tykm_32, tykm_14, tci_14, tci_15, tci_960]
    rw [e1, h5]
    refine ⟨by omega, by omega, fun _ => by omega, fun _ => ⟨by omega, by omega, by omega, fun h7 => ?_, fun h7 => ⟨by omega, by omega, ?_⟩⟩⟩
    · refine tb_X12_trims_45 (c := false) ?_
      simp only [kb_X12_trims_45, w_re, true_and, and_true, Nat.reduceAdd, Nat.reduceSub, eq_self]
      refine ⟨rfl, rfl, ⟨m + 1, ⟨h1, h2, h3, h4⟩, Or.inr ?_⟩, rE_refl⟩
      rcases Nat.lt_or_ge x (pw m) with hx | hx
      · rw [dg_big hx] at h7
        exact absurd rfl h7
      · exact hx
    · have h8 : dg x m = 0 := by omega
      have h9 : x < pw m := by
        simp only [dg_def] at h8
        have h10 : x / pw m < 1000000000 := Nat.div_lt_of_lt_mul (by rw [← pw_s]; exact h3)
        rw [Nat.mod_eq_of_lt h10] at h8
        rcases Nat.lt_or_ge x (pw m) with hx | hx
        · exact hx
        · have := Nat.div_pos hx (pw_pos m)
          omega
      refine tT_mono (ih _ ⟨?_, by omega, h9, fun i hi => ?_⟩) ?_
      · rw [tU_eq]
        omega
      · rw [tU_nk (by decide)]
        exact h4 i (by omega)
      · rintro r M' n' ⟨q1, q2, q3, q4⟩
        exact ⟨q1, q2, q3, rE_tr (rE_m rfl) q4⟩
end MODEL
