/-! SLOPES: followed. -/
/-- the acts of a formula -/
def aV (M : tM) (r : Nat) : Nat → Int := fun k => M (r + 1) (k : Int)
/-- the recipe of a node -/
def rqN (M : tM) (r nd : Nat) : Nat := rcK (Int32.ofInt (M (r + 1) (nd : Int))) (Int32.ofInt (M (r + 3) (nd : Int)))
theorem rqN_r (M : tM) (r nd : Nat) : 4 ≤ rqN M r nd ∧ rqN M r nd < 16 := rcK_r _ _
section HAND
variable {e : tE} {d n : Nat} {M : tM}
theorem v_makeSlope {r c x y : Nat} {X Y : Int × Int} (hr : FMC r) (hw : WFF M r c) (hst : STF M r) (hA : AIM M x y X Y) (hxy : (x + 2 < 77 ∨ 498 < x) ∧ (y + 2 < 77 ∨ 498 < y)) (hu : UU (M 78 5)) (he : EVr e) (hl : ESL e) (hro : RO M) (hC : CI M) (hd : 8 ≤ d) : tC e d 2057 [.inr (.inr (.inl 77)), .inr (.inr (.inl r))] M n (tQi n (fun z M' => (0 ≤ z ∧ z ≤ 2) ∧ SLF M M' ∧ (z = 0 → ∃ (m : Nat) (B : Nat → Int × Int), (1 ≤ m ∧ m ≤ 128) ∧ SK M' m B))) := by
  obtain ⟨t0, t1, t2, t3, t4, t5⟩ := FM_of hr
  have rr : 499 < r ∧ r + 6 < 531 := by unfold FMC at hr; omega
  have hc := hw.1.1
  have hc60 := hw.1.2
  have c1 : 1 ≤ c := by
    rcases Nat.eq_zero_or_pos c with h | h
    · have g := hw.2.2
      rw [h] at g
      exact absurd g (by decide)
    · exact h
  refine tst_X6_makeSlope ?_
  have n254 : ∀ (N : tM) (z i3 i4 i5 : Int) (w6 w7 w8 : Option tV), (0 ≤ z ∧ z ≤ 2) → SLF M N → (z = 0 → ∃ (m : Nat) (B : Nat → Int × Int), (1 ≤ m ∧ m ≤ 128) ∧ SK N m B) → tT e d 2057 254 [some (.inr (.inr (.inl (77)))), some (.inr (.inr (.inl (r)))), some (.inl (z)), some (.inl (i3)), some (.inl (i4)), some (.inl (i5)), w6, w7, w8] [] N n (tQi n (fun z M' => (0 ≤ z ∧ z ≤ 2) ∧ SLF M M' ∧ (z = 0 → ∃ (m : Nat) (B : Nat → Int × Int), (1 ≤ m ∧ m ≤ 128) ∧ SK M' m B))) := by
    intro N z i3 i4 i5 w6 w7 w8 hz f h
    refine tb_X6_makeSlope_254 (c := false) ?_
    simp only [kb_X6_makeSlope_254, w_ild_2, w_ire, trg, true_and, and_true, Nat.reduceAdd, Nat.reduceSub, eq_self]
    exact ⟨_, rfl, rfl, hz, f, h⟩
  -- what holds where the loop begins
  have n28 : ∀ (fu st : Nat) (N : tM) (D m : Nat) (B : Nat → Int × Int) (nx la : Int) (w6 w7 w8 : Option tV), 100000 - st = fu → st ≤ 100000 → SLF M N → N 77 7 = (D : Int) → D ≤ 60 → m ≤ 128 → SK N m B → (-1 ≤ la ∧ la < 60) → (0 ≤ nx ∧ nx ≤ 60) →
      ((D = 0 ∧ m = 1 ∧ la < nx) ∨ (∃ (D' nd p : Nat) (h0 : Int), D = D' + 1 ∧ FRS (rqN M r) c N D' h0 ∧ (N 497 (D' : Int) = (nd : Int) ∧ nd < c) ∧ N 498 (D' : Int) = (p : Int) ∧ p ≤ rl (rqN M r nd) ∧
        ((la < nx ∧ (m : Int) = h0 + rh (rqN M r nd) p ∧ (m = 0 → st + 1 ≤ D)) ∨ (∃ s i j : Nat, nx = (j : Int) ∧ la = (i : Int) ∧ (s ≤ j ∧ j ≤ i) ∧ i < c ∧ (hA (aV M r) s + 1 = hA (aV M r) (i + 1) ∧ ∀ j, s < j → j ≤ i → hA (aV M r) s + 1 ≤ hA (aV M r) j) ∧ (1 ≤ p ∧ efS (sgV (rqN M r nd) (p - 1)) = 1) ∧ (m : Int) + (hA (aV M r) s : Int) = h0 + rh (rqN M r nd) (p - 1) + (hA (aV M r) j : Int) ∧ (m = 0 → st ≤ D))))) →
      tT e d 2057 28 [some (.inr (.inr (.inl (77)))), some (.inr (.inr (.inl (r)))), some (.inl (0)), some (.inl (nx)), some (.inl (la)), some (.inl ((st : Int))), w6, w7, w8] [] N n (tQi n (fun z M' => (0 ≤ z ∧ z ≤ 2) ∧ SLF M M' ∧ (z = 0 → ∃ (m : Nat) (B : Nat → Int × Int), (1 ≤ m ∧ m ≤ 128) ∧ SK M' m B))) := by
    intro fu
    induction fu with
    | zero =>
      intro st N D m B nx la w6 w7 w8 hf hs f h7 hD hm sk hla hnx hst2
      refine tb_X6_makeSlope_28 (c := false) ?_
      simp only [kb_X6_makeSlope_28, w_ild5, w_ldc, w_ic_ge, w_ald_0, w_gf_8_7, tw_f, w_if_le, w_ild_3, w_ild4, w_ic_gt, w_ald_1, w_iv1, tfr_0, tfr_1, tfr_2, tfr_3, tfr_4, w_iv3, w_ist_2, tkl_n, tkl_i, tkl_l, tkl_r, w_inc3, w_goto, true_and, and_true, Nat.reduceAdd, Nat.reduceSub, eq_self, tsh_77, tyk_8, tcq_8, tyk_7, tcq_7, tsx_497, tsx_498, tyk_26, tcq_60]
      repeat refine And.intro (by omega) ?_
      refine ⟨fun _ => n254 N 0 _ _ _ _ _ _ (by decide) f (fun _ => ⟨m, B, ⟨?_, hm⟩, sk⟩), fun q => absurd (by omega) q⟩
      rcases hst2 with ⟨_, q, _⟩ | ⟨D', nd, p, h0, q1, _, _, _, _, q | ⟨s, i, j, _, _, _, _, _, _, _, q⟩⟩
      · omega
      · have := q.2.2
        omega
      · omega
    | succ fu ih =>
      intro st N D m B nx la w6 w7 w8 hf hs f h7 hD hm sk hla hnx hst2
      -- the end of a step
      have n242 : ∀ (N1 : tM) (z : Int) (D m : Nat) (B : Nat → Int × Int) (nx la : Int) (w6 w7 w8 : Option tV), (0 ≤ z ∧ z ≤ 2) → SLF M N1 → (z = 0 → N1 77 7 = (D : Int) ∧ D ≤ 60 ∧ m ≤ 128 ∧ SK N1 m B ∧ (-1 ≤ la ∧ la < 60) ∧ (0 ≤ nx ∧ nx ≤ 60) ∧ ((D = 0 ∧ m = 1 ∧ la < nx) ∨ (∃ (D' nd p : Nat) (h0 : Int), D = D' + 1 ∧ FRS (rqN M r) c N1 D' h0 ∧ (N1 497 (D' : Int) = (nd : Int) ∧ nd < c) ∧ N1 498 (D' : Int) = (p : Int) ∧ p ≤ rl (rqN M r nd) ∧ ((la < nx ∧ (m : Int) = h0 + rh (rqN M r nd) p ∧ (m = 0 → st + 1 + 1 ≤ D)) ∨ (∃ s i j : Nat, nx = (j : Int) ∧ la = (i : Int) ∧ (s ≤ j ∧ j ≤ i) ∧ i < c ∧ (hA (aV M r) s + 1 = hA (aV M r) (i + 1) ∧ ∀ j, s < j → j ≤ i → hA (aV M r) s + 1 ≤ hA (aV M r) j) ∧ (1 ≤ p ∧ efS (sgV (rqN M r nd) (p - 1)) = 1) ∧ (m : Int) + (hA (aV M r) s : Int) = h0 + rh (rqN M r nd) (p - 1) + (hA (aV M r) j : Int) ∧ (m = 0 → st + 1 ≤ D)))))) → tT e d 2057 242 [some (.inr (.inr (.inl (77)))), some (.inr (.inr (.inl (r)))), some (.inl (z)), some (.inl (nx)), some (.inl (la)), some (.inl ((st : Int))), w6, w7, w8] [] N1 n (tQi n (fun z M' => (0 ≤ z ∧ z ≤ 2) ∧ SLF M M' ∧ (z = 0 → ∃ (m : Nat) (B : Nat → Int × Int), (1 ≤ m ∧ m ≤ 128) ∧ SK M' m B))) := by
        intro N1 z D m B nx la w6 w7 w8 hz f1 h
        refine tb_X6_makeSlope_242 (c := false) ?_
        simp only [kb_X6_makeSlope_242, w_ild_2, w_if_eq, w_ire, trg, true_and, and_true, Nat.reduceAdd, Nat.reduceSub, eq_self]
        repeat refine And.intro (by omega) ?_
        refine ⟨fun q => ?_, fun q => ⟨_, rfl, rfl, hz, f1, fun q2 => absurd q2 (by omega)⟩⟩
        have z0 : z = 0 := by omega
        subst z0
        obtain ⟨a1, a2, a3, a4, a5, a6, a7⟩ := h rfl
        refine tb_X6_makeSlope_248 (c := false) ?_
        simp only [kb_X6_makeSlope_248, w_inc5, tkl_n, tkl_i, tkl_l, tkl_r, w_goto, true_and, and_true, Nat.reduceAdd, Nat.reduceSub, eq_self]
        repeat refine And.intro (by omega) ?_
        rw [show ((st : Nat) : Int) + 1 = ((st + 1 : Nat) : Int) by omega]
        exact ih (st + 1) N1 D m B nx la _ _ _ (by omega) (by omega) f1 a1 a2 a3 a4 a5 a6 a7
      refine tb_X6_makeSlope_28 (c := false) ?_
      simp only [kb_X6_makeSlope_28, w_ild5, w_ldc, w_ic_ge, w_ald_0, w_gf_8_7, tw_f, w_if_le, w_ild_3, w_ild4, w_ic_gt, w_ald_1, w_iv1, tfr_0, tfr_1, tfr_2, tfr_3, tfr_4, w_iv3, w_ist_2, tkl_n, tkl_i, tkl_l, tkl_r, w_inc3, w_goto, true_and, and_true, Nat.reduceAdd, Nat.reduceSub, eq_self, tsh_77, tyk_8, tcq_8, tyk_7, tcq_7, tsx_497, tsx_498, tyk_26, tcq_60, h7, t0]
      repeat refine And.intro (by omega) ?_
      first | refine ⟨fun q => absurd q (by omega), fun _ => ?_⟩ | refine fun _ => ?_
      repeat refine And.intro (by omega) ?_
      refine ⟨fun q => ?_, fun q => ?_⟩
      · refine n254 N 0 _ _ _ _ _ _ (by decide) f (fun _ => ⟨m, B, ⟨?_, hm⟩, sk⟩)
        rcases hst2 with ⟨_, q2, _⟩ | ⟨D', nd, p, h0, q1, _⟩
        · omega
        · omega
      obtain ⟨D', nd, p, h0, rfl, fr, hnd, hp, hpl, md⟩ : ∃ (D' nd p : Nat) (h0 : Int), D = D' + 1 ∧ FRS (rqN M r) c N D' h0 ∧ (N 497 (D' : Int) = (nd : Int) ∧ nd < c) ∧ N 498 (D' : Int) = (p : Int) ∧ p ≤ rl (rqN M r nd) ∧ ((la < nx ∧ (m : Int) = h0 + rh (rqN M r nd) p ∧ (m = 0 → st + 1 ≤ D)) ∨ (∃ s i j : Nat, nx = (j : Int) ∧ la = (i : Int) ∧ (s ≤ j ∧ j ≤ i) ∧ i < c ∧ (hA (aV M r) s + 1 = hA (aV M r) (i + 1) ∧ ∀ j, s < j → j ≤ i → hA (aV M r) s + 1 ≤ hA (aV M r) j) ∧ (1 ≤ p ∧ efS (sgV (rqN M r nd) (p - 1)) = 1) ∧ (m : Int) + (hA (aV M r) s : Int) = h0 + rh (rqN M r nd) (p - 1) + (hA (aV M r) j : Int) ∧ (m = 0 → st ≤ D))) := by
        rcases hst2 with ⟨q2, _⟩ | q2
        · omega
        · exact q2
      have uN : N 78 5 = M 78 5 := UN_78 f.1.1.2
      have cell : ∀ (k : Nat) (i : Int), r ≤ k ∧ k ≤ r + 5 → N k i = M k i := fun k i g => f.2.1 k i (by omega)
      repeat refine And.intro (by omega) ?_
      refine ⟨fun g => ?_, fun g => ?_⟩
      · sorry
      · -- an act of a value
        obtain ⟨s, i, j, rfl, rfl, hj, hi, hsi, hp1, hmm, hm0⟩ : ∃ s i j : Nat, nx = (j : Int) ∧ la = (i : Int) ∧ (s ≤ j ∧ j ≤ i) ∧ i < c ∧ (hA (aV M r) s + 1 = hA (aV M r) (i + 1) ∧ ∀ j, s < j → j ≤ i → hA (aV M r) s + 1 ≤ hA (aV M r) j) ∧ (1 ≤ p ∧ efS (sgV (rqN M r nd) (p - 1)) = 1) ∧ (m : Int) + (hA (aV M r) s : Int) = h0 + rh (rqN M r nd) (p - 1) + (hA (aV M r) j : Int) ∧ (m = 0 → st ≤ D' + 1) := by
          rcases md with ⟨q2, _⟩ | q2
          · omega
          · exact q2
        sorry
  sorry
end HAND
