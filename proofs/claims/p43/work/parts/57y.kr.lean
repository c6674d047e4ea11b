/-! WHAT HOLDS BETWEEN CALLS: a formula is read, its acts and what waits. -/
/-- how many pairs wait among the first acts that wait -/
def wP (W : Nat → Int) : Nat → Nat
  | 0 => 0
  | k + 1 => wP W k + (if W k = 43 ∨ W k = 45 ∨ W k = 42 ∨ W k = 47 then 1 else 0)
theorem wP_s (W : Nat → Int) (k : Nat) : wP W (k + 1) = wP W k + (if W k = 43 ∨ W k = 45 ∨ W k = 42 ∨ W k = 47 then 1 else 0) := rfl
theorem wP_u {W V : Nat → Int} : ∀ k : Nat, (∀ j : Nat, j < k → W j = V j) → wP W k = wP V k := by
  intro k
  induction k with
  | zero => exact fun _ => rfl
  | succ k ih =>
    intro h
    rw [wP_s, wP_s, ih (fun j q => h j (by omega)), h k (by omega)]
theorem hA_u {A B : Nat → Int} : ∀ k : Nat, (∀ j : Nat, j < k → A j = B j) → hA A k = hA B k := by
  intro k
  induction k with
  | zero => exact fun _ => rfl
  | succ k ih =>
    intro h
    rw [hA_s, hA_s, ih (fun j q => h j (by omega)), h k (by omega)]
/-- a formula's acts -/
noncomputable def fA (N : tM) (r : Nat) : Nat → Int := fun k => N (r + 1) (k : Int)
/-- what waits -/
noncomputable def fW (N : tM) (r : Nat) : Nat → Int := fun k => N (r + 5) (k : Int)
/-- the acts are sound -/
def FOK (N : tM) (r c : Nat) : Prop := ∀ k : Nat, k < c → (0 ≤ N (r + 3) (k : Int) ∧ AOK (N (r + 1) (k : Int)) (N (r + 2) (k : Int)) (N (r + 3) (k : Int)).toNat (hA (fA N r) k)) ∧ N (r + 1) (k : Int) ≠ 98
theorem FOK_u {N N1 : tM} {r c : Nat} (h : FOK N r c) (f : ∀ (k : Nat) (i : Int), r < k → k < r + 4 → 0 ≤ i → i < (c : Int) → N1 k i = N k i) : FOK N1 r c := by
  intro k hk
  have e : hA (fA N1 r) k = hA (fA N r) k := hA_u k (fun j q => f (r + 1) (j : Int) (by omega) (by omega) (by omega) (by omega))
  rw [e, f (r + 1) _ (by omega) (by omega) (by omega) (by omega), f (r + 2) _ (by omega) (by omega) (by omega) (by omega), f (r + 3) _ (by omega) (by omega) (by omega) (by omega)]
  exact h k hk
/-- so far: so many acts, so many wait, and whether an atom stands behind -/
def FPI (N : tM) (r c w b : Nat) : Prop := ((N r 4 = (c : Int) ∧ N r 8 = (w : Int)) ∧ c ≤ 60 ∧ w ≤ 60) ∧ FOK N r c ∧ hA (fA N r) c = wP (fW N r) w + b
theorem FPI_f {N N1 : tM} {r c w b : Nat} (h : FPI N r c w b) (f : ∀ (k : Nat) (i : Int), r < k → N1 k i = N k i) (e4 : N1 r 4 = N r 4) (e8 : N1 r 8 = N r 8) : FPI N1 r c w b := by
  obtain ⟨⟨⟨f1, f2⟩, f3, f4⟩, f5, f6⟩ := h
  refine ⟨⟨⟨e4.trans f1, e8.trans f2⟩, f3, f4⟩, FOK_u f5 (fun k i g _ _ _ => f k i g), ?_⟩
  have e1 : hA (fA N1 r) c = hA (fA N r) c := hA_u c (fun j _ => f (r + 1) (j : Int) (by omega))
  have e2 : wP (fW N1 r) w = wP (fW N r) w := wP_u w (fun j _ => f (r + 5) (j : Int) (by omega))
  rw [e1, e2]
  exact f6
/-- only this formula's cells change -/
def FPF (r : Nat) (M M' : tM) : Prop := (CI M' ∧ pE 0 M M') ∧ ∀ (k : Nat) (i : Int), (k < r ∨ r + 5 < k) → M' k i = M k i
theorem FPF_refl {r : Nat} {M : tM} (hC : CI M) : FPF r M M := ⟨⟨hC, pE_refl⟩, fun _ _ _ => rfl⟩
theorem FPF_tr {r : Nat} {M M1 M2 : tM} (h1 : FPF r M M1) (h2 : FPF r M1 M2) : FPF r M M2 := ⟨⟨h2.1.1, pE_tr h1.1.2 h2.1.2⟩, fun k i g => (h2.2 k i g).trans (h1.2 k i g)⟩
theorem pE_0 {M : tM} {k : Nat} {i v : Int} (h : k < 664 ∧ ¬ (k = 0 ∧ i = 0) ∧ ¬ (k = 78 ∧ i = 5)) : pE 0 M (tU M k i v) := pE_put (fun q => by unfold prt at q; omega)
theorem FM_r {r : Nat} (h : FMC r) : 499 < r ∧ r + 6 < 531 := by unfold FMC at h; omega
theorem FM_7 {r : Nat} (h : FMC r) : cl r 7 := ⟨(FM_of h).1, by have := FM_r h; omega⟩
/-- a field of a formula is set -/
theorem FPF_put {r : Nat} {M : tM} {f v : Int} (hr : FMC r) (hv : 0 ≤ f → cok 7 f.toNat v) (hC : CI M) : FPF r M (tU M r f v) := by
  have hr2 := FM_r hr
  exact ⟨⟨CI_put hC (FM_of hr).1 hv, pE_0 (by omega)⟩, fun k i g => tU_nk (by omega)⟩
/-- an act is put behind -/
def APP (r c : Nat) (x1 x2 x3 : Int) (M M' : tM) : Prop := (∀ i : Int, i ≠ 4 → M' r i = M r i) ∧ M' r 4 = (c : Int) + 1 ∧ (∀ (k : Nat) (i : Int), r < k → (r + 4 ≤ k ∨ i ≠ (c : Int)) → M' k i = M k i) ∧ M' (r + 1) (c : Int) = x1 ∧ M' (r + 2) (c : Int) = x2 ∧ M' (r + 3) (c : Int) = x3
/-- the heights behind an act -/
theorem FPI_app {r c w b : Nat} {x1 x2 x3 : Int} {M M' : tM} (h : FPI M r c w b) (hc : c < 60) (a : APP r c x1 x2 x3 M M') (h3 : 0 ≤ x3) (ok : AOK x1 x2 x3.toNat (wP (fW M r) w + b)) (h98 : x1 ≠ 98) : ((M' r 4 = ((c + 1 : Nat) : Int) ∧ M' r 8 = (w : Int)) ∧ c + 1 ≤ 60 ∧ w ≤ 60) ∧ FOK M' r (c + 1) ∧ hA (fA M' r) (c + 1) = (if x1 = 35 ∨ x1 = 112 ∨ x1 = 69 ∨ x1 = 120 ∨ x1 = 121 then wP (fW M r) w + b + 1 else if x1 = 43 ∨ x1 = 45 ∨ x1 = 42 ∨ x1 = 47 then wP (fW M r) w + b - 1 else wP (fW M r) w + b) ∧ wP (fW M' r) w = wP (fW M r) w := by
  obtain ⟨⟨⟨f1, f2⟩, f3, f4⟩, f5, f6⟩ := h
  obtain ⟨a1, a2, a3, a4, a5, a6⟩ := a
  have e : ∀ k : Nat, k ≤ c → hA (fA M' r) k = hA (fA M r) k := fun k hk => hA_u k (fun j q => a3 (r + 1) (j : Int) (by omega) (Or.inr (by omega)))
  refine ⟨⟨⟨by rw [a2]; omega, (a1 8 (by decide)).trans f2⟩, by omega, f4⟩, fun k hk => ?_, ?_, ?_⟩
  · by_cases q : k = c
    · subst q
      rw [a4, a5, a6, e k (Nat.le_refl _), f6]
      exact ⟨⟨h3, ok⟩, h98⟩
    · exact FOK_u (N1 := M') f5 (fun k2 i g1 g2 g3 g4 => a3 k2 i g1 (Or.inr (by omega))) k (by omega)
  · rw [hA_s, e c (Nat.le_refl _), f6, show fA M' r c = x1 from a4]
  · exact wP_u w (fun j q => a3 (r + 5) (j : Int) (by omega) (Or.inl (by omega)))
section HAND
variable {e : tE} {d n : Nat} {M : tM}
theorem z_fapp {r c : Nat} {x1 x2 x3 : Int} (hr : FMC r) (hc : M r 4 = (c : Int)) (hc60 : c < 60) (h1 : 0 ≤ x1 ∧ x1 ≤ 65535) (h2 : (-9223372036854775808 ≤ x2 ∧ x2 < 9223372036854775808)) (h3 : 0 ≤ x3 ∧ x3 ≤ 2147483647) (hq : x1 = 114 → x3 = 2) (hC : CI M) : tC e d 1794 [.inr (.inr (.inl r)), .inl x1, .inr (.inl x2), .inl x3] M n (tQn n (fun M' => FPF r M M' ∧ APP r c x1 x2 x3 M M')) := by
  obtain ⟨t0, t1, t2, t3, t4, t5⟩ := FM_of hr
  have hr2 := FM_r hr
  refine tst_X5_append ?_
  refine tb_X5_append_0 (c := false) ?_
  simp only [kb_X5_append_0, w_ald_0, w_gf_7_4, tw_f, w_bi, w_ic_lt, w_re, true_and, and_true, Nat.reduceAdd, Nat.reduceSub, eq_self, tyk_7, tcq_7, tyk_42, tyk_28, tyk_43, tyx_15, tcq_60, t0, t1, t2, t3]
  rw [hc]
  repeat refine And.intro (by omega) ?_
  refine ⟨fun _ => ?_, fun q => absurd (by omega) q⟩
  have u1 : ∀ (M : tM) (i v : Int), tU M (r + 1) i v r 4 = M r 4 := fun M i v => tU_nk (by omega)
  have u2 : ∀ (M : tM) (i v : Int), tU M (r + 2) i v r 4 = M r 4 := fun M i v => tU_nk (by omega)
  have u3 : ∀ (M : tM) (i v : Int), tU M (r + 3) i v r 4 = M r 4 := fun M i v => tU_nk (by omega)
  refine tb_X5_append_10 (c := false) ?_
  simp only [kb_X5_append_10, w_ald_0, w_gf_7_0, tw_f, w_gf_7_4, w_ild_1, w_cas, w_gf_7_1, w_lld_2, w_las, w_gf_7_2, w_ild4, w_ias, ne_eq, eq_self, not_true_eq_false, false_implies, w_dupi, w_dupr, w_ic, w_iadd, w_pf_7_4, w_re, true_and, and_true, Nat.reduceAdd, Nat.reduceSub, eq_self, tyk_7, tcq_7, tyk_42, tyk_28, tyk_43, tyx_15, tcq_60, t0, t1, t2, t3, u1, u2, u3, hc]
  have cC : ∀ {k s : Nat} {i v : Int} {M : tM}, (∀ (k : Nat) (i : Int), k < 664 → 0 ≤ i → cok (tsh k) i.toNat (M k i)) → tsh k = s → cok s i.toNat v → (∀ (k' : Nat) (i' : Int), k' < 664 → 0 ≤ i' → cok (tsh k') i'.toNat (tU M k i v k' i')) := by
    intro k s i v M hM hk hv k' i' hk' hi'
    show cok (tsh k') i'.toNat (if k' = k ∧ i' = i then v else M k' i')
    by_cases h : k' = k ∧ i' = i
    · rw [if_pos h, h.1, h.2, hk]
      exact hv
    · rw [if_neg h]
      exact hM k' i' hk' hi'
  refine ⟨by omega, fun _ => by rw [if_pos trivial]; exact h1, by omega, by omega, ?_⟩
  refine ⟨rfl, rfl, ⟨⟨⟨?_, ?_⟩, ?_⟩, fun k i g => ?_⟩, fun i g => ?_, ?_, fun k i g1 g2 => ?_, ?_, ?_, ?_⟩
  · exact cC (cC (cC (cC hC.1 t1 (show 0 ≤ x1 ∧ x1 ≤ 65535 from h1)) t2 trivial) t3 (show -65536 ≤ x3 ∧ x3 ≤ 2147483647 by omega)) t0 (show 0 ≤ (c : Int) + 1 ∧ (c : Int) + 1 ≤ 60 by omega)
  · intro k i hk hi q
    obtain ⟨g1, g2⟩ := sh42 hk
    have n1 : k ≠ r := fun z => by rw [z, t0] at hk; cases hk
    have n2 : k ≠ r + 2 := fun z => by rw [z, t2] at hk; cases hk
    have n3 : k ≠ r + 3 := fun z => by rw [z, t3] at hk; cases hk
    have m1 : k + 2 ≠ r := fun z => by rw [z, t0] at g1; cases g1
    have m2 : k + 2 ≠ r + 2 := fun z => by rw [z, t2] at g1; cases g1
    have m3 : k + 2 ≠ r + 1 := fun z => by rw [z, t1] at g1; cases g1
    rw [tU_nk n1, tU_nk n3, tU_nk n2] at q
    rw [tU_nk m1]
    by_cases e1 : k = r + 1 ∧ i = (c : Int)
    · rw [e1.1, e1.2, tU_eq] at q
      rw [e1.1, e1.2, show r + 1 + 2 = r + 3 from rfl, tU_eq]
      exact hq q
    · have q : M k i = 114 := by
        rw [← q]
        exact (if_neg e1).symm
      have q2 := hC.2 k i hk hi q
      rw [← q2]
      have e2 : ¬ (k + 2 = r + 3 ∧ i = (c : Int)) := fun z => e1 ⟨by omega, z.2⟩
      refine (if_neg e2).trans ?_
      rw [tU_nk m2, tU_nk m3]
  · exact pE_tr (pE_tr (pE_tr (pE_0 (by omega)) (pE_0 (by omega))) (pE_0 (by omega))) (pE_0 (by omega))
  · rw [tU_nk (by omega), tU_nk (by omega), tU_nk (by omega), tU_nk (by omega)]
  · rw [tU_ni g, tU_nk (by omega), tU_nk (by omega), tU_nk (by omega)]
  · exact tU_eq ..
  · rw [tU_nk (by omega)]
    rcases g2 with g2 | g2
    · rw [tU_nk (by omega), tU_nk (by omega), tU_nk (by omega)]
    · rw [tU_ni g2, tU_ni g2, tU_ni g2]
  · rw [tU_nk (by omega), tU_nk (by omega), tU_nk (by omega), tU_eq]
  · rw [tU_nk (by omega), tU_nk (by omega), tU_eq]
  · rw [tU_nk (by omega), tU_eq]
/-- an act is put among those that wait -/
theorem z_fhold {r w : Nat} {x1 : Int} (hr : FMC r) (hw : M r 8 = (w : Int)) (hw60 : w < 60) (h1 : 0 ≤ x1 ∧ x1 ≤ 65535) (hC : CI M) : tC e d 1797 [.inr (.inr (.inl r)), .inl x1] M n (tQn n (fun M' => FPF r M M' ∧ (∀ i : Int, i ≠ 8 → M' r i = M r i) ∧ M' r 8 = (w : Int) + 1 ∧ (∀ (k : Nat) (i : Int), r < k → (k ≤ r + 4 ∨ i ≠ (w : Int)) → M' k i = M k i) ∧ M' (r + 5) (w : Int) = x1)) := by
  obtain ⟨t0, t1, t2, t3, t4, t5⟩ := FM_of hr
  have hr2 := FM_r hr
  refine tst_X5_hold ?_
  refine tb_X5_hold_0 (c := false) ?_
  simp only [kb_X5_hold_0, w_ald_0, w_gf_7_8, tw_f, w_bi, w_ic_ge, w_gf_7_7, w_ild_1, w_cas, w_dupi, w_dupr, w_ic, w_iadd, w_pf_7_8, w_nil, true_and, and_true, Nat.reduceAdd, Nat.reduceSub, eq_self, tyk_7, tcq_7, tyk_42, tyk_28, tyk_43, tyx_15, tcq_60, t0, t5]
  rw [hw]
  repeat refine And.intro (by omega) ?_
  first | refine ⟨fun q => absurd q (by omega), fun _ => ?_⟩ | refine fun _ => ?_
  have c2 : CI (tU M (r + 5) (w : Int) x1) := CI_put hC t5 (fun _ => by show 0 ≤ x1 ∧ x1 ≤ 65535; exact h1)
  have u2 : ∀ (k : Nat) (i : Int), k ≠ r + 5 → tU M (r + 5) (w : Int) x1 k i = M k i := fun k i q => tU_nk q
  have u3 : ∀ i : Int, i ≠ (w : Int) → tU M (r + 5) (w : Int) x1 (r + 5) i = M (r + 5) i := fun i q => tU_ni q
  have u4 : tU M (r + 5) (w : Int) x1 (r + 5) (w : Int) = x1 := tU_eq ..
  have p2 : pE 0 M (tU M (r + 5) (w : Int) x1) := pE_0 (by omega)
  generalize tU M (r + 5) (w : Int) x1 = M2 at *
  have e8 : M2 r 8 = (w : Int) := (u2 r 8 (by omega)).trans hw
  rw [e8]
  repeat refine And.intro (by omega) ?_
  refine ⟨fun _ => ⟨h1.1, by rw [if_pos trivial]; exact h1.2⟩, ?_⟩
  have f3 := FPF_put (f := 8) (v := (w : Int) + 1) hr (fun _ => by show 0 ≤ (w : Int) + 1 ∧ (w : Int) + 1 ≤ 60; omega) c2
  refine tb_X5_hold_29 (c := false) ?_
  simp only [kb_X5_hold_29, w_re, true_and, and_true, Nat.reduceAdd, Nat.reduceSub, eq_self]
  refine ⟨rfl, rfl, ⟨⟨f3.1.1, pE_tr p2 f3.1.2⟩, fun k i g => ?_⟩, fun i g => ?_, tU_eq .., fun k i g1 g2 => ?_, ?_⟩
  · rw [tU_nk (by omega)]
    exact u2 k i (by omega)
  · rw [tU_ni g]
    exact u2 r i (by omega)
  · rw [tU_nk (by omega)]
    by_cases q : k = r + 5
    · subst q
      exact u3 i (by omega)
    · exact u2 k i q
  · rw [tU_nk (by omega)]
    exact u4
end HAND
