/-! SLOPES: followed. -/
/-- the acts of a formula -/
def aV (M : tM) (r : Nat) : Nat → Int := fun k => M (r + 1) (k : Int)
/-- the recipe of a node -/
def rqN (M : tM) (r nd : Nat) : Nat := rcK (Int32.ofInt (M (r + 1) (nd : Int))) (Int32.ofInt (M (r + 3) (nd : Int)))
theorem rqN_r (M : tM) (r nd : Nat) : 4 ≤ rqN M r nd ∧ rqN M r nd < 16 := rcK_r _ _
/-- where the following of a slope stands -/
def SLP (M : tM) (r c st : Nat) (N : tM) (D m : Nat) (nx la : Int) : Prop := ((D = 0 ∧ m = 1 ∧ la < nx) ∨ (∃ (D' nd p : Nat) (h0 : Int), D = D' + 1 ∧ FRS (rqN M r) c N D' h0 ∧ (N 497 (D' : Int) = (nd : Int) ∧ nd < c) ∧ N 498 (D' : Int) = (p : Int) ∧ p ≤ rl (rqN M r nd) ∧ ((la < nx ∧ (m : Int) = h0 + rh (rqN M r nd) p ∧ (m = 0 → st + 1 ≤ D)) ∨ (∃ s i j : Nat, nx = (j : Int) ∧ la = (i : Int) ∧ (s ≤ j ∧ j ≤ i) ∧ i < c ∧ (hA (aV M r) s + 1 = hA (aV M r) (i + 1) ∧ ∀ j, s < j → j ≤ i → hA (aV M r) s + 1 ≤ hA (aV M r) j) ∧ (1 ≤ p ∧ efS (sgV (rqN M r nd) (p - 1)) = 1) ∧ (m : Int) + (hA (aV M r) s : Int) = h0 + rh (rqN M r nd) (p - 1) + (hA (aV M r) j : Int) ∧ (m = 0 → st ≤ D)))))
theorem hA_e {M : tM} {r c j : Nat} (hw : WFF M r c) (hj : j < c) : (hA (aV M r) (j + 1) : Int) = (hA (aV M r) j : Int) + efA (M (r + 1) (j : Int)) := by
  obtain ⟨_, h2, _⟩ := hw
  obtain ⟨_, a⟩ := h2 j hj
  have e := hA_s (fun k => M (r + 1) (k : Int)) j
  show ((hA (fun k => M (r + 1) (k : Int)) (j + 1) : Nat) : Int) = ((hA (fun k => M (r + 1) (k : Int)) j : Nat) : Int) + _
  generalize hA (fun k => M (r + 1) (k : Int)) (j + 1) = h1 at *
  generalize hA (fun k => M (r + 1) (k : Int)) j = h0 at *
  generalize M (r + 1) (j : Int) = act at *
  have e : h1 = if act = 35 ∨ act = 112 ∨ act = 69 ∨ act = 120 ∨ act = 121 then h0 + 1 else if act = 43 ∨ act = 45 ∨ act = 42 ∨ act = 47 then h0 - 1 else h0 := e
  unfold efA
  by_cases q0 : act = 35 ∨ act = 112 ∨ act = 69 ∨ act = 120 ∨ act = 121
  · rw [if_pos q0] at e ⊢
    omega
  · rw [if_neg q0] at e ⊢
    by_cases q1 : act = 43 ∨ act = 45 ∨ act = 42 ∨ act = 47
    · rw [if_pos q1] at e ⊢
      unfold AOK at a
      have hOO : OOK act (M (r + 3) (j : Int)).toNat → act = 94 ∨ act = 114 ∨ act = 101 ∨ act = 108 ∨ act = 97 := fun q => by unfold OOK at q; omega
      rcases a with q | q | q | q | q | ⟨_, q⟩ | ⟨q, _⟩
      · omega
      · omega
      · omega
      · omega
      · omega
      · omega
      · rcases q with q | q | q
        · omega
        · omega
        · have := hOO q
          omega
    · rw [if_neg q1] at e ⊢
      omega
section HAND
variable {e : tE} {d n : Nat} {M : tM}
theorem SK_u {N N1 : tM} {m : Nat} {B : Nat → Int × Int} (h : SK N m B) (ht : N1 77 2 = N 77 2) (hm : m ≤ 128) (f : ∀ (k : Nat) (i : Int), k ≠ 497 → k ≠ 498 → k ≠ 77 → N1 k i = N k i) : SK N1 m B := ⟨ht.trans h.1, fun i hi => ⟨BX_f (h.2 i hi).1 (fun j => f _ _ (by omega) (by omega) (by omega)) (fun j => f _ _ (by omega) (by omega) (by omega)), (h.2 i hi).2⟩⟩
theorem v_enter {x : Int} {D : Nat} (h7 : M 77 7 = (D : Int)) (hD : D ≤ 60) (hx : -65536 ≤ x ∧ x ≤ 100000) (hro : RO M) (hC : CI M) : tC e d 2054 [.inr (.inr (.inl 77)), .inl x] M n (tQi n (fun z N' => (z = 2 ∧ ¬ (0 ≤ x ∧ D < 60) ∧ N' = M) ∨ (z = 0 ∧ (0 ≤ x ∧ D < 60) ∧ SLF M N' ∧ N' 77 7 = ((D + 1 : Nat) : Int) ∧ (N' 497 (D : Int) = x ∧ N' 498 (D : Int) = 0) ∧ (∀ k : Nat, k < D → N' 497 (k : Int) = M 497 (k : Int) ∧ N' 498 (k : Int) = M 498 (k : Int)) ∧ (∀ (k : Nat) (i : Int), k ≠ 497 → k ≠ 498 → k ≠ 77 → N' k i = M k i) ∧ N' 77 2 = M 77 2))) := by
  refine tC_mono (z_enter h7 hD hx hC) ?_
  rintro v N' n' ⟨z, q1, rfl, q⟩
  refine ⟨z, q1, rfl, ?_⟩
  rcases q with q | ⟨z0, hxx, rfl⟩
  · exact Or.inl q
  refine Or.inr ⟨z0, hxx, ⟨⟨⟨?_, ?_⟩, ?_⟩, fun k i g => ?_, ?_, ?_⟩, ?_, ⟨?_, ?_⟩, fun k hk => ⟨?_, ?_⟩, fun k i a b c => ?_, ?_⟩
  · refine CI_put (CI_put (CI_put hC tsx_497 (fun _ => ?_)) tsx_498 (fun _ => ?_)) tsh_77 (fun _ => ?_)
    · show -65536 ≤ x ∧ x ≤ 2147483647
      omega
    · show (-65536 : Int) ≤ 0 ∧ (0 : Int) ≤ 2147483647
      decide
    · show (0 : Int) ≤ (D : Int) + 1 ∧ (D : Int) + 1 ≤ 60
      omega
  · refine pE_tr (pE_tr (pE_put ?_) (pE_put ?_)) (pE_put ?_)
    · exact prt_a (t := 1) (by decide) ⟨by decide, by rw [tsx_497]; rfl, by omega, by rw [tsx_497]; show _ < (60 : Int); omega⟩ (by decide) (fun _ => rfl)
    · exact prt_a (t := 1) (by decide) ⟨by decide, by rw [tsx_498]; rfl, by omega, by rw [tsx_498]; show _ < (60 : Int); omega⟩ (by decide) (fun _ => rfl)
    · exact prt_f (a := 8) (f := 7) (Or.inl (by decide)) cl_77 (by decide) (fun _ _ => rfl) (by decide)
  · exact RO_u hro (by rw [tU_nk (by decide), tU_nk (by decide), tU_nk (by decide)]) (by rw [tU_nk (by decide), tU_nk (by decide), tU_nk (by decide)])
  · rw [tU_nk (by omega), tU_nk (by omega), tU_nk (by omega)]
  · rw [tU_ni (by decide), tU_nk (by decide), tU_nk (by decide)]
  · rw [tU_ni (by decide), tU_nk (by decide), tU_nk (by decide)]
  · rw [tU_eq]
    omega
  · rw [tU_nk (by decide), tU_nk (by decide), tU_eq]
  · rw [tU_nk (by decide), tU_eq]
  · rw [tU_nk (by decide), tU_nk (by decide), tU_ni (by omega)]
  · rw [tU_nk (by decide), tU_ni (by omega), tU_nk (by decide)]
  · rw [tU_nk c, tU_nk b, tU_nk a]
  · rw [tU_ni (by decide), tU_nk (by decide), tU_nk (by decide)]
theorem opS_all : ∀ j : Fin 16, 4 ≤ j.val → ∀ p : Fin 10, (p.val < rl j.val → j.val = 4 ∨ j.val = 9 → ¬ (sgV j.val p.val = 85 ∨ sgV j.val p.val = 117 ∨ sgV j.val p.val = 86 ∨ sgV j.val p.val = 118 ∨ sgV j.val p.val = 94)) ∧ True ∧ (p.val < rl j.val → sgV j.val p.val = 94 → j.val = 10) := by decide +kernel
theorem rc_10 {M : tM} {r nd m : Nat} (a0 : 0 ≤ M (r + 3) (nd : Int)) (a : AOK (M (r + 1) (nd : Int)) (M (r + 2) (nd : Int)) (M (r + 3) (nd : Int)).toNat m) (h : rqN M r nd = 10) : M (r + 1) (nd : Int) = 94 ∧ M (r + 3) (nd : Int) ≠ 0 := by
  unfold rqN at h
  generalize hy : M (r + 3) (nd : Int) = y at *
  generalize M (r + 1) (nd : Int) = act at *
  have no : ∀ t : Int, act = t → (∀ x : Int32, rcK (Int32.ofInt t) x ≠ 10) → False := fun t e q => q (Int32.ofInt y) (by rw [← e]; exact h)
  unfold AOK OOK at a
  have al : act = 35 ∨ act = 112 ∨ act = 69 ∨ act = 120 ∨ act = 121 ∨ act = 43 ∨ act = 45 ∨ act = 42 ∨ act = 47 ∨ act = 126 ∨ act = 98 ∨ act = 114 ∨ act = 101 ∨ act = 108 ∨ act = 97 ∨ act = 94 := by
    clear no
    omega
  rcases al with q | q | q | q | q | q | q | q | q | q | q | q | q | q | q | q
  · exact (no _ q (fun x => by show (9 : Nat) ≠ 10; decide)).elim
  · exact (no _ q (fun x => by show (9 : Nat) ≠ 10; decide)).elim
  · exact (no _ q (fun x => by show (9 : Nat) ≠ 10; decide)).elim
  · exact (no _ q (fun x => by show (4 : Nat) ≠ 10; decide)).elim
  · exact (no _ q (fun x => by show (9 : Nat) ≠ 10; decide)).elim
  · exact (no _ q (fun x => by show (5 : Nat) ≠ 10; decide)).elim
  · exact (no _ q (fun x => by show (6 : Nat) ≠ 10; decide)).elim
  · exact (no _ q (fun x => by show (7 : Nat) ≠ 10; decide)).elim
  · exact (no _ q (fun x => by show (8 : Nat) ≠ 10; decide)).elim
  · exact (no _ q (fun x => by show (11 : Nat) ≠ 10; decide)).elim
  · exact (no _ q (fun x => by show (9 : Nat) ≠ 10; decide)).elim
  · exact (no _ q (fun x => by show (12 : Nat) ≠ 10; decide)).elim
  · exact (no _ q (fun x => by show (13 : Nat) ≠ 10; decide)).elim
  · exact (no _ q (fun x => by show (14 : Nat) ≠ 10; decide)).elim
  · exact (no _ q (fun x => by show (15 : Nat) ≠ 10; decide)).elim
  · refine ⟨q, fun y0 => ?_⟩
    rw [q, y0] at h
    exact absurd h (by decide)
/-- what a node's recipe tells of its act -/
theorem rc_op {M : tM} {r c nd : Nat} (hw : WFF M r c) (hst : STF M r) (hn : nd < c) {p : Nat} (hp : p < rl (rqN M r nd)) : ((sgV (rqN M r nd) p = 85 ∨ sgV (rqN M r nd) p = 117) → 1 ≤ nd ∧ ∃ s : Nat, M (r + 4) ((nd - 1 : Nat) : Int) = (s : Int) ∧ s ≤ nd - 1 ∧ ((M (r + 1) (nd : Int) = 43 ∨ M (r + 1) (nd : Int) = 45 ∨ M (r + 1) (nd : Int) = 42 ∨ M (r + 1) (nd : Int) = 47) → 1 ≤ s)) ∧ ((sgV (rqN M r nd) p = 86 ∨ sgV (rqN M r nd) p = 118) → 1 ≤ nd) ∧ (sgV (rqN M r nd) p = 94 → 1 ≤ M (r + 3) (nd : Int) ∧ M (r + 3) (nd : Int) ≤ 9) := by
  have hq := rqN_r M r nd
  have hr9 := (rl_r hq).2.1
  have os := opS_all ⟨rqN M r nd, hq.2⟩ hq.1 ⟨p, by omega⟩
  obtain ⟨o1, o2, o3⟩ := os
  have o1 : rqN M r nd = 4 ∨ rqN M r nd = 9 → ¬ (sgV (rqN M r nd) p = 85 ∨ sgV (rqN M r nd) p = 117 ∨ sgV (rqN M r nd) p = 86 ∨ sgV (rqN M r nd) p = 118 ∨ sgV (rqN M r nd) p = 94) := fun q => o1 hp q
  have o3 : sgV (rqN M r nd) p = 94 → rqN M r nd = 10 := fun q => o3 hp q
  obtain ⟨a0, a⟩ := hw.2.1 nd hn
  have hle := hA_le (fun k => M (r + 1) (k : Int)) nd
  have leaf : M (r + 1) (nd : Int) = 35 ∨ M (r + 1) (nd : Int) = 112 ∨ M (r + 1) (nd : Int) = 69 ∨ M (r + 1) (nd : Int) = 120 ∨ M (r + 1) (nd : Int) = 121 → rqN M r nd = 4 ∨ rqN M r nd = 9 := by
    intro q
    unfold rqN
    generalize Int32.ofInt (M (r + 3) (nd : Int)) = y
    rcases q with q | q | q | q | q
    · rw [q]
      exact Or.inr rfl
    · rw [q]
      exact Or.inr rfl
    · rw [q]
      exact Or.inr rfl
    · rw [q]
      exact Or.inl rfl
    · rw [q]
      exact Or.inr rfl
  have stn : 1 ≤ hA (fun k => M (r + 1) (k : Int)) nd → 1 ≤ nd ∧ ∃ s : Nat, M (r + 4) ((nd - 1 : Nat) : Int) = (s : Int) ∧ s ≤ nd - 1 ∧ hA (fun k => M (r + 1) (k : Int)) s + 1 = hA (fun k => M (r + 1) (k : Int)) nd := by
    intro q
    obtain ⟨s, s1, s2, s3, _⟩ := hst (nd - 1) (by have := hw.1.1; omega)
    rw [show nd - 1 + 1 = nd by omega] at s3
    exact ⟨by omega, s, s1, s2, s3⟩
  have ar : (M (r + 1) (nd : Int) = 35 ∨ M (r + 1) (nd : Int) = 112 ∨ M (r + 1) (nd : Int) = 69 ∨ M (r + 1) (nd : Int) = 120 ∨ M (r + 1) (nd : Int) = 121) ∨ ((M (r + 1) (nd : Int) = 43 ∨ M (r + 1) (nd : Int) = 45 ∨ M (r + 1) (nd : Int) = 42 ∨ M (r + 1) (nd : Int) = 47) ∧ 2 ≤ hA (fun k => M (r + 1) (k : Int)) nd) ∨ (¬ (M (r + 1) (nd : Int) = 43 ∨ M (r + 1) (nd : Int) = 45 ∨ M (r + 1) (nd : Int) = 42 ∨ M (r + 1) (nd : Int) = 47) ∧ 1 ≤ hA (fun k => M (r + 1) (k : Int)) nd) := by
    clear stn leaf o1 o3 hst
    unfold AOK OOK at a
    omega
  refine ⟨fun q => ?_, fun q => ?_, fun q => ?_⟩
  · rcases ar with g | ⟨g, g2⟩ | ⟨g, g2⟩
    · exact absurd (by omega) (o1 (leaf g))
    · obtain ⟨n1, s, s1, s2, s3⟩ := stn (by omega)
      have hs := hA_le (fun k => M (r + 1) (k : Int)) s
      exact ⟨n1, s, s1, s2, fun _ => by omega⟩
    · obtain ⟨n1, s, s1, s2, s3⟩ := stn g2
      exact ⟨n1, s, s1, s2, fun q2 => absurd q2 g⟩
  · rcases ar with g | ⟨g, g2⟩ | ⟨g, g2⟩
    · exact absurd (by omega) (o1 (leaf g))
    · omega
    · omega
  · have j10 := o3 q
    have k : M (r + 1) (nd : Int) = 94 ∧ M (r + 3) (nd : Int) ≠ 0 := rc_10 a0 a j10
    clear stn leaf o1 o3 hst
    unfold AOK OOK at a
    omega
theorem v_makeSlope {r c x y : Nat} {X Y : Int × Int} (hr : FMC r) (hw : WFF M r c) (hst : STF M r) (hAm : AIM M x y X Y) (hxy : (x + 2 < 77 ∨ 498 < x) ∧ (y + 2 < 77 ∨ 498 < y)) (hu : UU (M 78 5)) (he : EVr e) (hl : ESL e) (hro : RO M) (hC : CI M) (hd : 8 ≤ d) : tC e d 2057 [.inr (.inr (.inl 77)), .inr (.inr (.inl r))] M n (tQi n (fun z M' => (0 ≤ z ∧ z ≤ 2) ∧ SLF M M' ∧ (z = 0 → ∃ (m : Nat) (B : Nat → Int × Int), (1 ≤ m ∧ m ≤ 128) ∧ SK M' m B))) := by
  obtain ⟨t0, t1, t2, t3, t4, t5⟩ := FM_of hr
  have rr : 499 < r ∧ r + 6 < 531 := by unfold FMC at hr; omega
  have hc := hw.1.1
  have hc60 := hw.1.2
  have c1 : 1 ≤ c := by
    rcases Nat.eq_zero_or_pos c with h | h
    · have g := hw.2.2
      rw [h] at g
      have g : (0 : Nat) = 1 := g
      omega
    · exact h
  refine tst_X6_makeSlope ?_
  have n254 : ∀ (N : tM) (z i3 i4 i5 : Int) (w6 w7 w8 : Option tV), (0 ≤ z ∧ z ≤ 2) → SLF M N → (z = 0 → ∃ (m : Nat) (B : Nat → Int × Int), (1 ≤ m ∧ m ≤ 128) ∧ SK N m B) → tT e d 2057 254 [some (.inr (.inr (.inl (77)))), some (.inr (.inr (.inl (r)))), some (.inl (z)), some (.inl (i3)), some (.inl (i4)), some (.inl (i5)), w6, w7, w8] [] N n (tQi n (fun z M' => (0 ≤ z ∧ z ≤ 2) ∧ SLF M M' ∧ (z = 0 → ∃ (m : Nat) (B : Nat → Int × Int), (1 ≤ m ∧ m ≤ 128) ∧ SK M' m B))) := by
    intro N z i3 i4 i5 w6 w7 w8 hz f h
    refine tb_X6_makeSlope_254 (c := false) ?_
    simp only [kb_X6_makeSlope_254, w_ild_2, w_ire, trg, true_and, and_true, Nat.reduceAdd, Nat.reduceSub, eq_self]
    exact ⟨_, rfl, rfl, hz, f, h⟩
  -- what holds where the loop begins
  have n28 : ∀ (fu st : Nat) (N : tM) (D m : Nat) (B : Nat → Int × Int) (nx la : Int) (w6 w7 w8 : Option tV), 100000 - st = fu → st ≤ 100000 → SLF M N → N 77 7 = (D : Int) → D ≤ 60 → m ≤ 128 → SK N m B → (-1 ≤ la ∧ la < 60) → (0 ≤ nx ∧ nx ≤ 60) →
      SLP M r c st N D m nx la →
      tT e d 2057 28 [some (.inr (.inr (.inl (77)))), some (.inr (.inr (.inl (r)))), some (.inl (0)), some (.inl (nx)), some (.inl (la)), some (.inl ((st : Int))), w6, w7, w8] [] N n (tQi n (fun z M' => (0 ≤ z ∧ z ≤ 2) ∧ SLF M M' ∧ (z = 0 → ∃ (m : Nat) (B : Nat → Int × Int), (1 ≤ m ∧ m ≤ 128) ∧ SK M' m B))) := by
    intro fu
    induction fu with
    | zero =>
      intro st N D m B nx la w6 w7 w8 hf hs f h7 hD hm sk hla hnx hst2
      refine tb_X6_makeSlope_28 (c := false) ?_
      simp only [kb_X6_makeSlope_28, w_ild5, w_ldc, w_ic_ge, w_ald_0, w_gf_8_7, tw_f, w_if_le, w_ild_3, w_ild4, w_ic_gt, w_ald_1, w_iv1, tfr_0, tfr_1, tfr_2, tfr_3, tfr_4, w_iv3, w_ist_2, tkl_n, tkl_i, tkl_l, tkl_r, w_inc3, w_goto, true_and, and_true, Nat.reduceAdd, Nat.reduceSub, eq_self, tsh_77, tyk_8, tcq_8, tyk_7, tcq_7, tsx_497, tsx_498, tyk_26, tcq_60]
      repeat refine And.intro (by omega) ?_
      refine ⟨fun _ => n254 N 0 _ _ _ _ _ _ (by decide) f (fun _ => ⟨m, B, ⟨?_, hm⟩, sk⟩), fun q => absurd (by omega) q⟩
      unfold SLP at hst2
      rcases hst2 with ⟨_, q, _⟩ | ⟨D', nd, p, h0, q1, _, _, _, _, q | ⟨s, i, j, _, _, _, _, _, _, _, q⟩⟩
      · omega
      · have := q.2.2
        omega
      · omega
    | succ fu ih =>
      intro st N D m B nx la w6 w7 w8 hf hs f h7 hD hm sk hla hnx hst2
      -- the end of a step
      have n242 : ∀ (N1 : tM) (z : Int) (D m : Nat) (B : Nat → Int × Int) (nx la : Int) (w6 w7 w8 : Option tV), (0 ≤ z ∧ z ≤ 2) → SLF M N1 → (z = 0 → N1 77 7 = (D : Int) ∧ D ≤ 60 ∧ m ≤ 128 ∧ SK N1 m B ∧ (-1 ≤ la ∧ la < 60) ∧ (0 ≤ nx ∧ nx ≤ 60) ∧ SLP M r c (st + 1) N1 D m nx la) → tT e d 2057 242 [some (.inr (.inr (.inl (77)))), some (.inr (.inr (.inl (r)))), some (.inl (z)), some (.inl (nx)), some (.inl (la)), some (.inl ((st : Int))), w6, w7, w8] [] N1 n (tQi n (fun z M' => (0 ≤ z ∧ z ≤ 2) ∧ SLF M M' ∧ (z = 0 → ∃ (m : Nat) (B : Nat → Int × Int), (1 ≤ m ∧ m ≤ 128) ∧ SK M' m B))) := by
        intro N1 z D m B nx la w6 w7 w8 hz f1 h
        refine tb_X6_makeSlope_242 (c := false) ?_
        simp only [kb_X6_makeSlope_242, w_ild_2, w_if_eq, w_ire, trg, true_and, and_true, Nat.reduceAdd, Nat.reduceSub, eq_self]
        repeat refine And.intro (by omega) ?_
        refine ⟨fun q => ?_, fun q => ⟨_, rfl, rfl, hz, f1, fun q2 => absurd q2 (by omega)⟩⟩
        have z0 : z = 0 := by omega
        subst z0
        obtain ⟨a1, a2, a3, a4, a5, a6, a7⟩ := h rfl
        refine tb_X6_makeSlope_248 (c := false) ?_
        simp only [kb_X6_makeSlope_248, w_inc5, tkl_n, tkl_i, tkl_l, tkl_r, w_goto, true_and, and_true, Nat.reduceAdd, Nat.reduceSub, eq_self]
        repeat refine And.intro (by omega) ?_
        rw [show ((st : Nat) : Int) + 1 = ((st + 1 : Nat) : Int) by omega]
        exact ih (st + 1) N1 D m B nx la _ _ _ (by omega) (by omega) f1 a1 a2 a3 a4 a5 a6 a7
      refine tb_X6_makeSlope_28 (c := false) ?_
      simp only [kb_X6_makeSlope_28, w_ild5, w_ldc, w_ic_ge, w_ald_0, w_gf_8_7, tw_f, w_if_le, w_ild_3, w_ild4, w_ic_gt, w_ald_1, w_iv1, tfr_0, tfr_1, tfr_2, tfr_3, tfr_4, w_iv3, w_ist_2, tkl_n, tkl_i, tkl_l, tkl_r, w_inc3, w_goto, true_and, and_true, Nat.reduceAdd, Nat.reduceSub, eq_self, tsh_77, tyk_8, tcq_8, tyk_7, tcq_7, tsx_497, tsx_498, tyk_26, tcq_60, h7, t0]
      repeat refine And.intro (by omega) ?_
      first | refine ⟨fun q => absurd q (by omega), fun _ => ?_⟩ | refine fun _ => ?_
      repeat refine And.intro (by omega) ?_
      refine ⟨fun q => ?_, fun q => ?_⟩
      · refine n254 N 0 _ _ _ _ _ _ (by decide) f (fun _ => ⟨m, B, ⟨?_, hm⟩, sk⟩)
        unfold SLP at hst2
        rcases hst2 with ⟨_, q2, _⟩ | ⟨D', nd, p, h0, q1, _⟩
        · omega
        · omega
      have hst3 := hst2
      unfold SLP at hst3
      rcases hst3 with ⟨q2, _⟩ | ⟨D', nd, p, h0, rfl, fr, hnd, hp, hpl, md⟩
      · omega
      have uN : N 78 5 = M 78 5 := UN_78 f.1.1.2
      have cell : ∀ (k : Nat) (i : Int), r ≤ k ∧ k ≤ r + 5 → N k i = M k i := fun k i g => f.2.1 k i (by omega)
      repeat refine And.intro (by omega) ?_
      refine ⟨fun g => ?_, fun g => ?_⟩
      · have e497 : N 497 (((D' + 1 : Nat) : Int) - 1) = (nd : Int) := by
          rw [show ((D' + 1 : Nat) : Int) - 1 = (D' : Int) by omega]
          exact hnd.1
        have e498 : N 498 (((D' + 1 : Nat) : Int) - 1) = (p : Int) := by
          rw [show ((D' + 1 : Nat) : Int) - 1 = (D' : Int) by omega]
          exact hp
        have hq := rqN_r M r nd
        have hrl := rl_r hq
        have ea : N (r + 1) (nd : Int) = M (r + 1) (nd : Int) := cell _ _ (by omega)
        have ec : N (r + 3) (nd : Int) = M (r + 3) (nd : Int) := cell _ _ (by omega)
        refine tb_X6_makeSlope_74 (c := false) ?_
        simp only [kb_X6_makeSlope_74, w_ald_0, w_gf_8_5, tw_f, w_gf_8_7, w_ic, w_isub, w_ia, w_iax, w_ist6, tkl_n, tkl_i, tkl_l, tkl_r, w_ald_1, w_ild6, w_iv1, tfr_0, tfr_1, tfr_2, tfr_3, tfr_4, w_ist7, w_ild7, w_is2, w_ist8, w_ild8, w_if_ne, w_dupi, w_dupr, w_pf_8_7, w_goto, true_and, and_true, Nat.reduceAdd, Nat.reduceSub, eq_self, tsh_77, tyk_8, tcq_8, tyk_7, tcq_7, tsx_497, tsx_498, tyk_26, tcq_60, h7, t0, e497]
        repeat refine And.intro (by omega) ?_
        refine tc_i (D := 1) (fun d' hd' => z_scaleAt hr (by omega) hd') (by omega) ?_
        rintro z1 N1 ⟨rfl, rfl⟩
        rw [ec]
        try simp only [kb_X6_makeSlope_74, w_ald_0, w_gf_8_5, tw_f, w_gf_8_7, w_ic, w_isub, w_ia, w_iax, w_ist6, tkl_n, tkl_i, tkl_l, tkl_r, w_ald_1, w_ild6, w_iv1, tfr_0, tfr_1, tfr_2, tfr_3, tfr_4, w_ist7, w_ild7, w_is2, w_ist8, w_ild8, w_if_ne, w_dupi, w_dupr, w_pf_8_7, w_goto, true_and, and_true, Nat.reduceAdd, Nat.reduceSub, eq_self, tsh_77, tyk_8, tcq_8, tyk_7, tcq_7, tsx_497, tsx_498, tyk_26, tcq_60, h7, t0, e497]
        refine tc_i (D := 1) (fun d' hd' => z_actAt hr (by omega) f.1.1.1 hd') (by omega) ?_
        rintro z1 N2 ⟨rfl, rfl⟩
        rw [ea]
        try simp only [kb_X6_makeSlope_74, w_ald_0, w_gf_8_5, tw_f, w_gf_8_7, w_ic, w_isub, w_ia, w_iax, w_ist6, tkl_n, tkl_i, tkl_l, tkl_r, w_ald_1, w_ild6, w_iv1, tfr_0, tfr_1, tfr_2, tfr_3, tfr_4, w_ist7, w_ild7, w_is2, w_ist8, w_ild8, w_if_ne, w_dupi, w_dupr, w_pf_8_7, w_goto, true_and, and_true, Nat.reduceAdd, Nat.reduceSub, eq_self, tsh_77, tyk_8, tcq_8, tyk_7, tcq_7, tsx_497, tsx_498, tyk_26, tcq_60, h7, t0, e497]
        refine ⟨d - 1, by omega, _, z_recipe hl (by omega), ?_, ?_⟩
        rotate_left
        · rintro _ _ _ ⟨q1, -⟩
          cases q1
        rintro _ N3 n3 ⟨q1, e1, e2⟩
        cases q1
        rw [e1, e2]
        clear e1 e2 N3 n3
        try simp only [kb_X6_makeSlope_74, w_ald_0, w_gf_8_5, tw_f, w_gf_8_7, w_ic, w_isub, w_ia, w_iax, w_ist6, tkl_n, tkl_i, tkl_l, tkl_r, w_ald_1, w_ild6, w_iv1, tfr_0, tfr_1, tfr_2, tfr_3, tfr_4, w_ist7, w_ild7, w_is2, w_ist8, w_ild8, w_if_ne, w_dupi, w_dupr, w_pf_8_7, w_goto, true_and, and_true, Nat.reduceAdd, Nat.reduceSub, eq_self, tsh_77, tyk_8, tcq_8, tyk_7, tcq_7, tsx_497, tsx_498, tyk_26, tcq_60, h7, t0, e497, Option.toList, List.cons_append, List.nil_append]
        refine tc_i (D := 4) (fun d' hd' => z_next (j := rqN M r nd) hq h7 (by omega) e498 (by omega) hl hd') (by omega) ?_
        rintro z4 N4 ⟨hz4, hN4⟩
        have eD : ((D' + 1 : Nat) : Int) - 1 = (D' : Int) := by omega
        rw [eD] at hN4
        have c4 : CI N4 := by
          rw [hN4]
          exact CI_put f.1.1.1 tsx_498 (fun _ => by show -65536 ≤ (p : Int) + 1 ∧ (p : Int) + 1 ≤ 2147483647; omega)
        have p4 : pE 0 N2 N4 := by
          rw [hN4]
          exact pE_put (prt_a (t := 1) (by decide) ⟨by decide, by rw [tsx_498]; rfl, by omega, by rw [tsx_498]; show _ < (60 : Int); omega⟩ (by decide) (fun _ => rfl))
        have u4 : ∀ (k : Nat) (i : Int), k ≠ 498 → N4 k i = N2 k i := fun k i q => by rw [hN4]; exact tU_nk q
        have v4 : ∀ i : Int, i ≠ (D' : Int) → N4 498 i = N2 498 i := fun i q => by rw [hN4]; exact tU_ni q
        have w4 : N4 498 (D' : Int) = ((p + 1 : Nat) : Int) := by
          rw [hN4, tU_eq]
          omega
        clear hN4
        have s4 : SLF N2 N4 := ⟨⟨⟨c4, p4⟩, RO_u f.1.2 (u4 79 4 (by decide)) (u4 79 5 (by decide))⟩, fun k i q => u4 k i (by omega), u4 77 3 (by decide), u4 77 4 (by decide)⟩
        have f4 := SLF_tr f s4
        have h74 : N4 77 7 = ((D' + 1 : Nat) : Int) := (u4 77 7 (by decide)).trans h7
        have sk4 : SK N4 m B := SK_u sk (u4 77 2 (by decide)) hm (fun k i _ a _ => u4 k i a)
        have fr4 : FRS (rqN M r) c N4 D' h0 := FRS_u D' h0 (fun k hk => ⟨u4 _ _ (by decide), v4 _ (by omega)⟩) fr
        have hnd4 : N4 497 (D' : Int) = (nd : Int) := (u4 _ _ (by decide)).trans hnd.1
        have f0 := FRS_0 (fun k => rqN_r M r k) D' h0 fr
        rcases md with ⟨_, hmm, hm0⟩ | ⟨s', i', j', e1, e2, e3, _⟩
        rotate_left
        · omega
        have z4r : 0 ≤ z4 ∧ z4 ≤ 127 := by
          rcases Nat.lt_or_ge p (rl (rqN M r nd)) with q | q
          · have := sgV_at hq q
            omega
          · have := sgV_end hq (p := p) ⟨q, by omega⟩
            omega
        try simp only [kb_X6_makeSlope_74, w_ald_0, w_gf_8_5, tw_f, w_gf_8_7, w_ic, w_isub, w_ia, w_iax, w_ist6, tkl_n, tkl_i, tkl_l, tkl_r, w_ald_1, w_ild6, w_iv1, tfr_0, tfr_1, tfr_2, tfr_3, tfr_4, w_ist7, w_ild7, w_is2, w_ist8, w_ild8, w_if_ne, w_dupi, w_dupr, w_pf_8_7, w_goto, true_and, and_true, Nat.reduceAdd, Nat.reduceSub, eq_self, tsh_77, tyk_8, tcq_8, tyk_7, tcq_7, tsx_497, tsx_498, tyk_26, tcq_60, h74, t0, e497]
        repeat refine And.intro (by omega) ?_
        refine ⟨fun hz => ?_, fun hz => ?_⟩
        · -- a sign
          have hpl2 : p < rl (rqN M r nd) := by
            rcases Nat.lt_or_ge p (rl (rqN M r nd)) with q | q
            · exact q
            · have := sgV_end hq (p := p) ⟨q, by omega⟩
              omega
          have sg := sgV_at hq hpl2
          obtain ⟨op1, op2, op3⟩ := rc_op hw hst hnd.2 hpl2
          rw [← hz4] at sg op1 op2 op3
          have rr0 := rh_r (p := p) hq hpl
          have cell4 : ∀ (k : Nat) (i : Int), r ≤ k ∧ k ≤ r + 5 → N4 k i = M k i := fun k i g => f4.2.1 k i (by omega)
          have uN4 : N4 78 5 = M 78 5 := UN_78 f4.1.1.2
          have exr : -65536 ≤ M (r + 3) (nd : Int) ∧ M (r + 3) (nd : Int) ≤ 2147483647 := by
            have q := hC.1 (r + 3) (nd : Int) (by omega) (by omega)
            rw [t3] at q
            exact q
          -- a value begins
          have n164 : ∀ i : Nat, i < c → efS z4 = 1 → tT e d 2057 164 [some (.inr (.inr (.inl (77)))), some (.inr (.inr (.inl (r)))), some (.inl (0)), some (.inl (nx)), some (.inl (la)), some (.inl ((st : Int))), some (.inl ((nd : Int))), some (.inl (M (r + 3) (nd : Int))), some (.inl (z4))] [.inl (i : Int)] N4 n (tQi n (fun z M' => (0 ≤ z ∧ z ≤ 2) ∧ SLF M M' ∧ (z = 0 → ∃ (m : Nat) (B : Nat → Int × Int), (1 ≤ m ∧ m ≤ 128) ∧ SK M' m B))) := by
            intro i hi hef
            obtain ⟨s, s1, s2, s3, s5⟩ := hst i (by rw [hc]; omega)
            refine tb_X6_makeSlope_164 (c := false) ?_
            simp only [kb_X6_makeSlope_164, w_ist4, tkl_n, tkl_i, tkl_l, tkl_r, w_ald_1, w_ild4, w_iv1, tfr_0, tfr_1, tfr_2, tfr_3, tfr_4, w_ist_3, w_goto, true_and, and_true, Nat.reduceAdd, Nat.reduceSub, eq_self, tsh_77, tyk_8, tcq_8, tyk_7, tcq_7, tsx_497, tsx_498, tyk_26, tcq_60, t0]
            repeat refine And.intro (by omega) ?_
            refine tc_i (D := 1) (fun d' hd' => z_startOf hr (by omega) hd') (by omega) ?_
            rintro z5 N5 ⟨rfl, rfl⟩
            rw [cell4 (r + 4) _ (by omega), s1]
            try simp only [kb_X6_makeSlope_164, w_ist4, tkl_n, tkl_i, tkl_l, tkl_r, w_ald_1, w_ild4, w_iv1, tfr_0, tfr_1, tfr_2, tfr_3, tfr_4, w_ist_3, w_goto, true_and, and_true, Nat.reduceAdd, Nat.reduceSub, eq_self, tsh_77, tyk_8, tcq_8, tyk_7, tcq_7, tsx_497, tsx_498, tyk_26, tcq_60, t0]
            repeat refine And.intro (by omega) ?_
            exact n242 N5 0 (D' + 1) m B _ _ _ _ _ (by decide) f4 (fun _ => ⟨h74, hD, hm, sk4, by omega, by omega, Or.inr ⟨D', nd, p + 1, h0, rfl, fr4, ⟨hnd4, hnd.2⟩, w4, by omega, Or.inr ⟨s, i, s, rfl, rfl, ⟨Nat.le_refl _, s2⟩, hi, ⟨s3, s5⟩, ⟨by omega, by rw [Nat.add_sub_cancel, ← hz4]; exact hef⟩, by rw [Nat.add_sub_cancel]; omega, fun q => by have := hm0 q; omega⟩⟩⟩)
          -- a part is entered
          have n211 : ∀ i : Nat, i < c → efS z4 = 1 → tT e d 2057 211 [some (.inr (.inr (.inl (77)))), some (.inr (.inr (.inl (r)))), some (.inl (0)), some (.inl (nx)), some (.inl (la)), some (.inl ((st : Int))), some (.inl ((nd : Int))), some (.inl (M (r + 3) (nd : Int))), some (.inl (z4))] [.inl (i : Int), .inr (.inr (.inl 77))] N4 n (tQi n (fun z M' => (0 ≤ z ∧ z ≤ 2) ∧ SLF M M' ∧ (z = 0 → ∃ (m : Nat) (B : Nat → Int × Int), (1 ≤ m ∧ m ≤ 128) ∧ SK M' m B))) := by
            intro i hi hef
            refine tb_X6_makeSlope_211 (c := false) ?_
            simp only [kb_X6_makeSlope_211, w_iv1, tfr_0, tfr_1, tfr_2, tfr_3, tfr_4, w_ist_2, tkl_n, tkl_i, tkl_l, tkl_r, w_goto, true_and, and_true, Nat.reduceAdd, Nat.reduceSub, eq_self, tsh_77, tyk_8, tcq_8, tyk_7, tcq_7, tsx_497, tsx_498, tyk_26, tcq_60]
            refine tc_i (D := 0) (fun d' hd' => v_enter h74 hD (by omega) f4.1.2 f4.1.1.1) (by omega) ?_
            rintro z5 N5 q5
            rcases q5 with ⟨rfl, _, rfl⟩ | ⟨rfl, ⟨_, b0⟩, b1, b2, ⟨b3, b4⟩, b5, b6, b7⟩
            · try simp only [kb_X6_makeSlope_211, w_iv1, tfr_0, tfr_1, tfr_2, tfr_3, tfr_4, w_ist_2, tkl_n, tkl_i, tkl_l, tkl_r, w_goto, true_and, and_true, Nat.reduceAdd, Nat.reduceSub, eq_self, tsh_77, tyk_8, tcq_8, tyk_7, tcq_7, tsx_497, tsx_498, tyk_26, tcq_60]
              repeat refine And.intro (by omega) ?_
              exact n242 N5 2 0 0 B _ _ _ _ _ (by decide) f4 (fun q => absurd q (by decide))
            · try simp only [kb_X6_makeSlope_211, w_iv1, tfr_0, tfr_1, tfr_2, tfr_3, tfr_4, w_ist_2, tkl_n, tkl_i, tkl_l, tkl_r, w_goto, true_and, and_true, Nat.reduceAdd, Nat.reduceSub, eq_self, tsh_77, tyk_8, tcq_8, tyk_7, tcq_7, tsx_497, tsx_498, tyk_26, tcq_60]
              repeat refine And.intro (by omega) ?_
              have f5 := SLF_tr f4 b1
              refine n242 N5 0 (D' + 1 + 1) m B _ _ _ _ _ (by decide) f5 (fun _ => ⟨b2, by omega, hm, SK_u sk4 b7 hm b6, hla, hnx, Or.inr ⟨D' + 1, i, 0, h0 + rh (rqN M r nd) p, rfl, ?_, ⟨b3, hi⟩, b4, Nat.zero_le _, Or.inl ⟨by omega, ?_, fun q => by have := hm0 q; omega⟩⟩⟩)
              · refine ⟨nd, p, h0, FRS_u D' h0 (fun k hk => b5 k (by omega)) fr4, ⟨(b5 D' (by omega)).1.trans hnd4, hnd.2⟩, (b5 D' (by omega)).2.trans w4, hpl2, by rw [← hz4]; exact hef, rfl⟩
              · show (m : Int) = h0 + rh (rqN M r nd) p + 0
                omega
          -- an act of a recipe
          have sc0 := (hw.2.1 nd hnd.2).1
          have n218 : (z4 = 110 ∨ z4 = 48 ∨ z4 = 49 ∨ z4 = 50 ∨ z4 = 43 ∨ z4 = 45 ∨ z4 = 42 ∨ z4 = 47 ∨ z4 = 126 ∨ z4 = 114 ∨ z4 = 94 ∨ z4 = 113 ∨ z4 = 101) → tT e d 2057 218 [some (.inr (.inr (.inl (77)))), some (.inr (.inr (.inl (r)))), some (.inl (0)), some (.inl (nx)), some (.inl (la)), some (.inl ((st : Int))), some (.inl ((nd : Int))), some (.inl (M (r + 3) (nd : Int))), some (.inl (z4))] [] N4 n (tQi n (fun z M' => (0 ≤ z ∧ z ≤ 2) ∧ SLF M M' ∧ (z = 0 → ∃ (m : Nat) (B : Nat → Int × Int), (1 ≤ m ∧ m ≤ 128) ∧ SK M' m B))) := by
            intro hz5
            refine tb_X6_makeSlope_218 (c := false) ?_
            simp only [kb_X6_makeSlope_218, w_ald_0, w_ild8, w_is1, tfr_0, tfr_1, tfr_2, tfr_3, tfr_4, w_ild7, w_is2, w_iv3, w_ist_2, tkl_n, tkl_i, tkl_l, tkl_r, w_nil, true_and, and_true, Nat.reduceAdd, Nat.reduceSub, eq_self, tsh_77, tyk_8, tcq_8, tyk_7, tcq_7, tsx_497, tsx_498, tyk_26, tcq_60]
            repeat refine And.intro (by omega) ?_
            refine tc_i (D := 0) (fun d' hd' => z_actOf hz5) (by omega) ?_
            rintro a N5 ⟨ha5, rfl⟩
            try simp only [kb_X6_makeSlope_218, w_ald_0, w_ild8, w_is1, tfr_0, tfr_1, tfr_2, tfr_3, tfr_4, w_ild7, w_is2, w_iv3, w_ist_2, tkl_n, tkl_i, tkl_l, tkl_r, w_nil, true_and, and_true, Nat.reduceAdd, Nat.reduceSub, eq_self, tsh_77, tyk_8, tcq_8, tyk_7, tcq_7, tsx_497, tsx_498, tyk_26, tcq_60]
            refine tc_l (D := 0) (fun d' hd' => z_numOf (by omega) (by omega)) (by omega) ?_
            rintro num N6 ⟨hn6, rfl⟩
            try simp only [kb_X6_makeSlope_218, w_ald_0, w_ild8, w_is1, tfr_0, tfr_1, tfr_2, tfr_3, tfr_4, w_ild7, w_is2, w_iv3, w_ist_2, tkl_n, tkl_i, tkl_l, tkl_r, w_nil, true_and, and_true, Nat.reduceAdd, Nat.reduceSub, eq_self, tsh_77, tyk_8, tcq_8, tyk_7, tcq_7, tsx_497, tsx_498, tyk_26, tcq_60]
            refine tc_i (D := 0) (fun d' hd' => z_byOf (by omega) (by omega)) (by omega) ?_
            rintro by_ N7 ⟨hb7, rfl⟩
            obtain ⟨bN, rfl, hbN⟩ : ∃ k : Nat, by_ = (k : Int) ∧ AOK a num k m ∧ efA a = efS z4 := by
              have hef : efA a = efS z4 := by
                rw [ha5]
                unfold efA efS
                rcases hz5 with q | q | q | q | q | q | q | q | q | q | q | q | q <;> (rw [q]; decide)
              rcases sg with q | ⟨q, _⟩ | q | ⟨q, q2⟩ | ⟨q, q2⟩
              · omega
              · omega
              · rw [if_neg (by omega), if_neg (by omega)] at hb7
                rw [if_pos (by omega)] at ha5
                exact ⟨0, hb7, Or.inl ⟨ha5, by omega, by decide⟩, hef⟩
              · rw [if_neg (by omega), if_neg (by omega)] at hb7
                rw [if_neg (by omega), if_neg (by omega)] at ha5
                exact ⟨0, hb7, Or.inr (Or.inr (Or.inr (Or.inr (Or.inr (Or.inl ⟨by omega, by omega⟩))))), hef⟩
              · rw [if_neg (by omega)] at ha5
                rcases q with q | q | q | q | q
                · rw [if_neg (by omega), if_neg (by omega)] at hb7
                  rw [if_neg (by omega)] at ha5
                  exact ⟨0, hb7, Or.inr (Or.inr (Or.inr (Or.inr (Or.inr (Or.inr ⟨Or.inl (by omega), by omega⟩))))), hef⟩
                · rw [if_neg (by omega), if_pos (by omega)] at hb7
                  rw [if_neg (by omega)] at ha5
                  exact ⟨2, hb7, Or.inr (Or.inr (Or.inr (Or.inr (Or.inr (Or.inr ⟨Or.inr (Or.inr (by unfold OOK; omega)), by omega⟩))))), hef⟩
                · have o3 := op3 q
                  rw [if_pos q] at hb7
                  rw [if_neg (by omega)] at ha5
                  exact ⟨(M (r + 3) (nd : Int) - 1).toNat, by omega, Or.inr (Or.inr (Or.inr (Or.inr (Or.inr (Or.inr ⟨Or.inr (Or.inr (by unfold OOK; omega)), by omega⟩))))), hef⟩
                · rw [if_neg (by omega), if_pos (by omega)] at hb7
                  rw [if_pos q] at ha5
                  exact ⟨2, hb7, Or.inr (Or.inr (Or.inr (Or.inr (Or.inr (Or.inr ⟨Or.inr (Or.inr (by unfold OOK; omega)), by omega⟩))))), hef⟩
                · rw [if_neg (by omega), if_neg (by omega)] at hb7
                  rw [if_neg (by omega)] at ha5
                  exact ⟨0, hb7, Or.inr (Or.inr (Or.inr (Or.inr (Or.inr (Or.inr ⟨Or.inr (Or.inr (by unfold OOK; omega)), by omega⟩))))), hef⟩
            have ar : 0 ≤ a ∧ a ≤ 200 := by
              rw [ha5]
              split
              · decide
              · split <;> omega
            try simp only [kb_X6_makeSlope_218, w_ald_0, w_ild8, w_is1, tfr_0, tfr_1, tfr_2, tfr_3, tfr_4, w_ild7, w_is2, w_iv3, w_ist_2, tkl_n, tkl_i, tkl_l, tkl_r, w_nil, true_and, and_true, Nat.reduceAdd, Nat.reduceSub, eq_self, tsh_77, tyk_8, tcq_8, tyk_7, tcq_7, tsx_497, tsx_498, tyk_26, tcq_60]
            repeat refine And.intro (by omega) ?_
            refine tc_i (D := 7) (fun d' hd' => v_mk hbN.1 hm sk4 (AIM_s hAm hxy f4) (by rw [uN4]; exact hu) he f4.1.2 f4.1.1.1 hd') (by omega) ?_
            rintro z8 N8 ⟨hz8, ⟨m8, ro8⟩, v8⟩
            try simp only [kb_X6_makeSlope_218, w_ald_0, w_ild8, w_is1, tfr_0, tfr_1, tfr_2, tfr_3, tfr_4, w_ild7, w_is2, w_iv3, w_ist_2, tkl_n, tkl_i, tkl_l, tkl_r, w_nil, true_and, and_true, Nat.reduceAdd, Nat.reduceSub, eq_self, tsh_77, tyk_8, tcq_8, tyk_7, tcq_7, tsx_497, tsx_498, tyk_26, tcq_60]
            repeat refine And.intro (by omega) ?_
            have f8 := SLF_tr f4 (SLF_m m8 ro8)
            by_cases z0 : z8 = 0
            · obtain ⟨m', B', ⟨b1, b2⟩, b3⟩ := v8 z0
              have rs := rh_s (rqN M r nd) p
              rw [← hz4] at rs
              have r1 := rh_1 hq (p := p + 1) ⟨by omega, by omega⟩
              have he2 := hbN.2
              exact n242 N8 z8 (D' + 1) m' B' _ _ _ _ _ hz8 f8 (fun _ => ⟨(m8.2.1 7 (by decide)).trans h74, hD, b1, b3, hla, hnx, Or.inr ⟨D', nd, p + 1, h0, rfl, FRS_u D' h0 (fun k _ => ⟨m8.2.2 _ _ (by decide), m8.2.2 _ _ (by decide)⟩) fr4, ⟨(m8.2.2 _ _ (by decide)).trans hnd4, hnd.2⟩, (m8.2.2 _ _ (by decide)).trans w4, by omega, Or.inl ⟨by omega, by omega, fun q => by omega⟩⟩⟩)
            · exact n242 N8 z8 0 0 B _ _ _ _ _ hz8 f8 (fun q => absurd q z0)
          have n144 : (z4 = 117 ∨ z4 = 118) → tT e d 2057 144 [some (.inr (.inr (.inl (77)))), some (.inr (.inr (.inl (r)))), some (.inl (0)), some (.inl (nx)), some (.inl (la)), some (.inl ((st : Int))), some (.inl ((nd : Int))), some (.inl (M (r + 3) (nd : Int))), some (.inl (z4))] [] N4 n (tQi n (fun z M' => (0 ≤ z ∧ z ≤ 2) ∧ SLF M M' ∧ (z = 0 → ∃ (m : Nat) (B : Nat → Int × Int), (1 ≤ m ∧ m ≤ 128) ∧ SK M' m B))) := by
            intro hz5
            have hef : efS z4 = 1 := by
              unfold efS
              rw [if_neg (by omega), if_neg (by omega)]
            refine tb_X6_makeSlope_144 (c := false) ?_
            simp only [kb_X6_makeSlope_144, w_ild8, w_bi, w_ic_ne, w_ald_1, w_ild6, w_iv1, tfr_0, tfr_1, tfr_2, tfr_3, tfr_4, w_goto, true_and, and_true, Nat.reduceAdd, Nat.reduceSub, eq_self, tsh_77, tyk_8, tcq_8, tyk_7, tcq_7, tsx_497, tsx_498, tyk_26, tcq_60]
            repeat refine And.intro (by omega) ?_
            refine ⟨fun q => ?_, fun q => ?_⟩
            · have nd1 := op2 (by omega)
              refine tb_X6_makeSlope_160 (c := false) ?_
              simp only [kb_X6_makeSlope_160, w_ild6, w_ic, w_isub, w_nil, true_and, and_true, Nat.reduceAdd, Nat.reduceSub, eq_self]
              repeat refine And.intro (by omega) ?_
              rw [show (nd : Int) - 1 = ((nd - 1 : Nat) : Int) by omega]
              exact n164 (nd - 1) (by omega) hef
            · obtain ⟨nd1, s, s1, s2, s3⟩ := op1 (by omega)
              try simp only [kb_X6_makeSlope_144, w_ild8, w_bi, w_ic_ne, w_ald_1, w_ild6, w_iv1, tfr_0, tfr_1, tfr_2, tfr_3, tfr_4, w_goto, true_and, and_true, Nat.reduceAdd, Nat.reduceSub, eq_self, tsh_77, tyk_8, tcq_8, tyk_7, tcq_7, tsx_497, tsx_498, tyk_26, tcq_60, t0]
              repeat refine And.intro (by omega) ?_
              refine tc_i (D := 2) (fun d' hd' => z_leftOf (s := s) hr (by omega) (by rw [cell4 (r + 4) _ (by omega)]; exact s1) (by omega) f4.1.1.1 hd') (by omega) ?_
              rintro z5 N5 ⟨hz6, rfl⟩
              rw [cell4 (r + 1) _ (by omega)] at hz6
              try simp only [kb_X6_makeSlope_144, w_ild8, w_bi, w_ic_ne, w_ald_1, w_ild6, w_iv1, tfr_0, tfr_1, tfr_2, tfr_3, tfr_4, w_goto, true_and, and_true, Nat.reduceAdd, Nat.reduceSub, eq_self, tsh_77, tyk_8, tcq_8, tyk_7, tcq_7, tsx_497, tsx_498, tyk_26, tcq_60, t0]
              have : ∃ i : Nat, z5 = (i : Int) ∧ i < c := by
                split at hz6
                · rename_i q2
                  have := s3 q2
                  exact ⟨s - 1, by omega, by omega⟩
                · exact ⟨nd - 1, by omega, by omega⟩
              obtain ⟨i, rfl, hi⟩ := this
              exact n164 i hi hef
          have n190 : (z4 = 85 ∨ z4 = 86) → tT e d 2057 190 [some (.inr (.inr (.inl (77)))), some (.inr (.inr (.inl (r)))), some (.inl (0)), some (.inl (nx)), some (.inl (la)), some (.inl ((st : Int))), some (.inl ((nd : Int))), some (.inl (M (r + 3) (nd : Int))), some (.inl (z4))] [] N4 n (tQi n (fun z M' => (0 ≤ z ∧ z ≤ 2) ∧ SLF M M' ∧ (z = 0 → ∃ (m : Nat) (B : Nat → Int × Int), (1 ≤ m ∧ m ≤ 128) ∧ SK M' m B))) := by
            intro hz5
            have hef : efS z4 = 1 := by
              unfold efS
              rw [if_neg (by omega), if_neg (by omega)]
            refine tb_X6_makeSlope_190 (c := false) ?_
            simp only [kb_X6_makeSlope_190, w_ald_0, w_ild8, w_bi, w_ic_ne, w_ald_1, w_ild6, w_iv1, tfr_0, tfr_1, tfr_2, tfr_3, tfr_4, w_goto, true_and, and_true, Nat.reduceAdd, Nat.reduceSub, eq_self, tsh_77, tyk_8, tcq_8, tyk_7, tcq_7, tsx_497, tsx_498, tyk_26, tcq_60]
            repeat refine And.intro (by omega) ?_
            refine ⟨fun q => ?_, fun q => ?_⟩
            · have nd1 := op2 (by omega)
              refine tb_X6_makeSlope_207 (c := false) ?_
              simp only [kb_X6_makeSlope_207, w_ild6, w_ic, w_isub, w_nil, true_and, and_true, Nat.reduceAdd, Nat.reduceSub, eq_self]
              repeat refine And.intro (by omega) ?_
              rw [show (nd : Int) - 1 = ((nd - 1 : Nat) : Int) by omega]
              exact n211 (nd - 1) (by omega) hef
            · obtain ⟨nd1, s, s1, s2, s3⟩ := op1 (by omega)
              try simp only [kb_X6_makeSlope_190, w_ald_0, w_ild8, w_bi, w_ic_ne, w_ald_1, w_ild6, w_iv1, tfr_0, tfr_1, tfr_2, tfr_3, tfr_4, w_goto, true_and, and_true, Nat.reduceAdd, Nat.reduceSub, eq_self, tsh_77, tyk_8, tcq_8, tyk_7, tcq_7, tsx_497, tsx_498, tyk_26, tcq_60, t0]
              repeat refine And.intro (by omega) ?_
              refine tc_i (D := 2) (fun d' hd' => z_leftOf (s := s) hr (by omega) (by rw [cell4 (r + 4) _ (by omega)]; exact s1) (by omega) f4.1.1.1 hd') (by omega) ?_
              rintro z5 N5 ⟨hz6, rfl⟩
              rw [cell4 (r + 1) _ (by omega)] at hz6
              try simp only [kb_X6_makeSlope_190, w_ald_0, w_ild8, w_bi, w_ic_ne, w_ald_1, w_ild6, w_iv1, tfr_0, tfr_1, tfr_2, tfr_3, tfr_4, w_goto, true_and, and_true, Nat.reduceAdd, Nat.reduceSub, eq_self, tsh_77, tyk_8, tcq_8, tyk_7, tcq_7, tsx_497, tsx_498, tyk_26, tcq_60, t0]
              have : ∃ i : Nat, z5 = (i : Int) ∧ i < c := by
                split at hz6
                · rename_i q2
                  have := s3 q2
                  exact ⟨s - 1, by omega, by omega⟩
                · exact ⟨nd - 1, by omega, by omega⟩
              obtain ⟨i, rfl, hi⟩ := this
              exact n211 i hi hef
          refine tb_X6_makeSlope_130 (c := false) ?_
          simp only [kb_X6_makeSlope_130, w_ild8, w_bi, w_ic_eq, w_ic_ne, w_nil, true_and, and_true, Nat.reduceAdd, Nat.reduceSub, eq_self]
          repeat refine And.intro (by omega) ?_
          refine ⟨fun q => n144 (by omega), fun q => ?_⟩
          repeat refine And.intro (by omega) ?_
          refine ⟨fun q2 => ?_, fun q2 => n144 (by omega)⟩
          refine tb_X6_makeSlope_176 (c := false) ?_
          simp only [kb_X6_makeSlope_176, w_ild8, w_bi, w_ic_eq, w_ic_ne, w_nil, true_and, and_true, Nat.reduceAdd, Nat.reduceSub, eq_self]
          repeat refine And.intro (by omega) ?_
          refine ⟨fun q3 => n190 (by omega), fun q3 => ?_⟩
          repeat refine And.intro (by omega) ?_
          refine ⟨fun q4 => ?_, fun q4 => ?_⟩
          · exact n218 (by clear op1 op2 op3 n164 n211 n218 n144 n190; omega)
          · exact n190 (by clear op1 op2 op3 n164 n211 n218 n144 n190; omega)
        · -- the end of a part
          have pr : p = rl (rqN M r nd) := by
            rcases Nat.lt_or_ge p (rl (rqN M r nd)) with q | q
            · have := sgV_at hq q
              omega
            · omega
          have hm1 : (m : Int) = h0 + 1 := by rw [hmm, pr, hrl.2.2]
          have c5 : CI (tU N4 77 7 (D' : Int)) := CI_put c4 tsh_77 (fun _ => by show (0 : Int) ≤ (D' : Int) ∧ (D' : Int) ≤ 60; omega)
          have p5 : pE 0 N4 (tU N4 77 7 (D' : Int)) := pE_put (prt_f (a := 8) (f := 7) (Or.inl (by decide)) cl_77 (by decide) (fun _ _ => rfl) (by decide))
          have u5 : ∀ (k : Nat) (i : Int), k ≠ 77 → tU N4 77 7 (D' : Int) k i = N4 k i := fun k i q => tU_nk q
          have v5 : ∀ i : Int, i ≠ 7 → tU N4 77 7 (D' : Int) 77 i = N4 77 i := fun i q => tU_ni q
          have w5 : tU N4 77 7 (D' : Int) 77 7 = (D' : Int) := tU_eq ..
          try rw [eD]
          generalize tU N4 77 7 (D' : Int) = N5 at *
          have f5 : SLF M N5 := SLF_tr f4 ⟨⟨⟨c5, p5⟩, RO_u f4.1.2 (u5 79 4 (by decide)) (u5 79 5 (by decide))⟩, fun k i q => u5 k i (by omega), v5 3 (by decide), v5 4 (by decide)⟩
          refine n242 N5 0 D' m B _ _ _ _ _ (by decide) f5 (fun _ => ⟨w5, by omega, hm, SK_u sk4 (v5 2 (by decide)) hm (fun k i _ _ q => u5 k i q), hla, hnx, ?_⟩)
          cases D' with
          | zero =>
            have h00 : h0 = 0 := fr4
            exact Or.inl ⟨rfl, by omega, by omega⟩
          | succ D2 =>
            obtain ⟨nd2, p2, h2, g1, g2, g3, g4, g5, g6⟩ := fr4
            have rs := rh_s (rqN M r nd2) p2
            rw [g5] at rs
            exact Or.inr ⟨D2, nd2, p2 + 1, h2, rfl, FRS_u D2 h2 (fun k _ => ⟨u5 _ _ (by decide), u5 _ _ (by decide)⟩) g1, ⟨(u5 _ _ (by decide)).trans g2.1, g2.2⟩, (u5 _ _ (by decide)).trans g3, by omega, Or.inl ⟨by omega, by omega, fun q => by omega⟩⟩
      · -- an act of a value
        rcases md with ⟨q2, _⟩ | ⟨s, i, j, rfl, rfl, hj, hi, hsi, hp1, hmm, hm0⟩
        · omega
        have hq := rqN_r M r nd
        have f0 := FRS_0 (fun k => rqN_r M r k) D' h0 fr
        have r0 := rh_r (p := p - 1) hq (by omega)
        have ea : N (r + 1) (j : Int) = M (r + 1) (j : Int) := cell _ _ (by omega)
        have eb : N (r + 2) (j : Int) = M (r + 2) (j : Int) := cell _ _ (by omega)
        have ec : N (r + 3) (j : Int) = M (r + 3) (j : Int) := cell _ _ (by omega)
        have sc := (hw.2.1 j (by omega)).1
        obtain ⟨sN, hsN⟩ : ∃ k : Nat, M (r + 3) (j : Int) = (k : Int) := ⟨(M (r + 3) (j : Int)).toNat, by omega⟩
        have ak := stf_ar (m := m) hw hsi hi hj (by show hA (aV M r) j ≤ hA (aV M r) s + m; omega)
        rw [hsN, Int.toNat_natCast] at ak
        refine tc_i (D := 1) (fun d' hd' => z_actAt hr (by omega) f.1.1.1 hd') (by omega) ?_
        rintro z1 N1 ⟨rfl, rfl⟩
        rw [ea]
        try simp only [kb_X6_makeSlope_28, w_ild5, w_ldc, w_ic_ge, w_ald_0, w_gf_8_7, tw_f, w_if_le, w_ild_3, w_ild4, w_ic_gt, w_ald_1, w_iv1, tfr_0, tfr_1, tfr_2, tfr_3, tfr_4, w_iv3, w_ist_2, tkl_n, tkl_i, tkl_l, tkl_r, w_inc3, w_goto, true_and, and_true, Nat.reduceAdd, Nat.reduceSub, eq_self, tsh_77, tyk_8, tcq_8, tyk_7, tcq_7, tsx_497, tsx_498, tyk_26, tcq_60, h7, t0]
        refine tc_l (D := 1) (fun d' hd' => z_numberAt hr (by omega) hd') (by omega) ?_
        rintro z1 N2 ⟨rfl, rfl⟩
        rw [eb]
        try simp only [kb_X6_makeSlope_28, w_ild5, w_ldc, w_ic_ge, w_ald_0, w_gf_8_7, tw_f, w_if_le, w_ild_3, w_ild4, w_ic_gt, w_ald_1, w_iv1, tfr_0, tfr_1, tfr_2, tfr_3, tfr_4, w_iv3, w_ist_2, tkl_n, tkl_i, tkl_l, tkl_r, w_inc3, w_goto, true_and, and_true, Nat.reduceAdd, Nat.reduceSub, eq_self, tsh_77, tyk_8, tcq_8, tyk_7, tcq_7, tsx_497, tsx_498, tyk_26, tcq_60, h7, t0]
        refine tc_i (D := 1) (fun d' hd' => z_scaleAt hr (by omega) hd') (by omega) ?_
        rintro z1 N3 ⟨rfl, rfl⟩
        rw [ec, hsN]
        try simp only [kb_X6_makeSlope_28, w_ild5, w_ldc, w_ic_ge, w_ald_0, w_gf_8_7, tw_f, w_if_le, w_ild_3, w_ild4, w_ic_gt, w_ald_1, w_iv1, tfr_0, tfr_1, tfr_2, tfr_3, tfr_4, w_iv3, w_ist_2, tkl_n, tkl_i, tkl_l, tkl_r, w_inc3, w_goto, true_and, and_true, Nat.reduceAdd, Nat.reduceSub, eq_self, tsh_77, tyk_8, tcq_8, tyk_7, tcq_7, tsx_497, tsx_498, tyk_26, tcq_60, h7, t0]
        refine tc_i (D := 7) (fun d' hd' => v_mk ak hm sk (AIM_s hAm hxy f) (by rw [uN]; exact hu) he f.1.2 f.1.1.1 hd') (by omega) ?_
        rintro z N4 ⟨hz, ⟨m4, ro4⟩, v4⟩
        try simp only [kb_X6_makeSlope_28, w_ild5, w_ldc, w_ic_ge, w_ald_0, w_gf_8_7, tw_f, w_if_le, w_ild_3, w_ild4, w_ic_gt, w_ald_1, w_iv1, tfr_0, tfr_1, tfr_2, tfr_3, tfr_4, w_iv3, w_ist_2, tkl_n, tkl_i, tkl_l, tkl_r, w_inc3, w_goto, true_and, and_true, Nat.reduceAdd, Nat.reduceSub, eq_self, tsh_77, tyk_8, tcq_8, tyk_7, tcq_7, tsx_497, tsx_498, tyk_26, tcq_60, h7, t0]
        repeat refine And.intro (by omega) ?_
        have f4 := SLF_tr f (SLF_m m4 ro4)
        by_cases z0 : z = 0
        · obtain ⟨m', B', ⟨b1, b2⟩, b3⟩ := v4 z0
          have he1 := hA_e hw (show j < c by omega)
          rw [show ((j : Nat) : Int) + 1 = ((j + 1 : Nat) : Int) by omega]
          have n1 : hA (aV M r) s + 1 ≤ hA (aV M r) (j + 1) := by
            rcases Nat.lt_or_ge j i with g2 | g2
            · exact hsi.2 (j + 1) (by omega) (by omega)
            · rw [show j = i by omega]
              exact Nat.le_of_eq hsi.1
          refine n242 N4 z (D' + 1) m' B' _ _ _ _ _ hz f4 (fun _ => ⟨(m4.2.1 7 (by decide)).trans h7, hD, b1, b3, hla, by omega, Or.inr ⟨D', nd, p, h0, rfl, FRS_u D' h0 (fun k _ => ⟨m4.2.2 _ _ (by decide), m4.2.2 _ _ (by decide)⟩) fr, ⟨(m4.2.2 _ _ (by decide)).trans hnd.1, hnd.2⟩, (m4.2.2 _ _ (by decide)).trans hp, hpl, ?_⟩⟩)
          rcases Nat.lt_or_ge j i with g2 | g2
          · exact Or.inr ⟨s, i, j + 1, rfl, rfl, by omega, hi, hsi, hp1, by omega, fun q => by omega⟩
          · have hji : j = i := by omega
            subst hji
            have rs := rh_s (rqN M r nd) (p - 1)
            rw [show p - 1 + 1 = p by omega, hp1.2] at rs
            have r1 := rh_1 hq (p := p) ⟨by omega, hpl⟩
            have h1 := hsi.1
            exact Or.inl ⟨by omega, by omega, fun q => by omega⟩
        · exact n242 N4 z 0 0 B _ _ _ _ _ hz f4 (fun q => absurd q z0)
  refine tb_X6_makeSlope_0 (c := false) ?_
  simp only [kb_X6_makeSlope_0, w_ald_0, w_iv0, tfr_0, tfr_1, tfr_2, tfr_3, tfr_4, w_ic, w_pf_8_7, w_ald_1, w_gf_7_4, tw_f, w_isub, w_iv1, w_ist_2, tkl_n, tkl_i, tkl_l, tkl_r, w_ist_3, w_ist4, w_ist5, w_nil, true_and, and_true, Nat.reduceAdd, Nat.reduceSub, eq_self, tsh_77, tyk_8, tcq_8, tyk_7, tcq_7, tsx_497, tsx_498, tyk_26, tcq_60, t0]
  refine tc_n (D := 0) (fun d' hd' => z_clear (b := 0) (by decide) hC) (by omega) ?_
  rintro M1 ⟨b1, b2, b3, b4⟩
  try simp only [kb_X6_makeSlope_0, w_ald_0, w_iv0, tfr_0, tfr_1, tfr_2, tfr_3, tfr_4, w_ic, w_pf_8_7, w_ald_1, w_gf_7_4, tw_f, w_isub, w_iv1, w_ist_2, tkl_n, tkl_i, tkl_l, tkl_r, w_ist_3, w_ist4, w_ist5, w_nil, true_and, and_true, Nat.reduceAdd, Nat.reduceSub, eq_self, tsh_77, tyk_8, tcq_8, tyk_7, tcq_7, tsx_497, tsx_498, tyk_26, tcq_60, t0]
  have f1 := SLF_m b4 (RO_u hro (b3 79 4 (by decide)) (b3 79 5 (by decide)))
  have c2 : CI (tU M1 77 7 0) := CI_put b4.1.1 tsh_77 (fun _ => by show (0 : Int) ≤ 0 ∧ (0 : Int) ≤ 60; decide)
  have p2 : pE 0 M1 (tU M1 77 7 0) := pE_put (prt_f (a := 8) (f := 7) (Or.inl (by decide)) cl_77 (by decide) (fun _ _ => rfl) (by decide))
  have u2 : ∀ (k : Nat) (i : Int), k ≠ 77 → tU M1 77 7 0 k i = M1 k i := fun k i q => tU_nk q
  have v2 : ∀ i : Int, i ≠ 7 → tU M1 77 7 0 77 i = M1 77 i := fun i q => tU_ni q
  have w2 : tU M1 77 7 0 77 7 = 0 := tU_eq ..
  generalize tU M1 77 7 0 = N at *
  have f2 : SLF M N := SLF_tr f1 ⟨⟨⟨c2, p2⟩, RO_u f1.1.2 (u2 79 4 (by decide)) (u2 79 5 (by decide))⟩, fun k i q => u2 k i (by omega), v2 3 (by decide), v2 4 (by decide)⟩
  have ec : N r 4 = (c : Int) := (f2.2.1 r 4 (by omega)).trans hc
  rw [ec]
  repeat refine And.intro (by omega) ?_
  refine tc_i (D := 0) (fun d' hd' => v_enter (D := 0) w2 (by decide) (by omega) f2.1.2 c2) (by omega) ?_
  rintro z3 N3 q3
  rcases q3 with ⟨_, q4, _⟩ | ⟨rfl, _, g1, g2, ⟨g3, g4⟩, _, g6, g7⟩
  · exact absurd ⟨by omega, by decide⟩ q4
  try simp only [kb_X6_makeSlope_0, w_ald_0, w_iv0, tfr_0, tfr_1, tfr_2, tfr_3, tfr_4, w_ic, w_pf_8_7, w_ald_1, w_gf_7_4, tw_f, w_isub, w_iv1, w_ist_2, tkl_n, tkl_i, tkl_l, tkl_r, w_ist_3, w_ist4, w_ist5, w_nil, true_and, and_true, Nat.reduceAdd, Nat.reduceSub, eq_self, tsh_77, tyk_8, tcq_8, tyk_7, tcq_7, tsx_497, tsx_498, tyk_26, tcq_60, t0]
  have f3 := SLF_tr f2 g1
  refine n28 100000 0 N3 1 0 B00 0 (-1) _ _ _ rfl (by decide) f3 g2 (by decide) (by decide) (SK_0 (g7.trans ((v2 2 (by decide)).trans b1))) (by decide) (by decide) (Or.inr ⟨0, c - 1, 0, 0, rfl, rfl, ⟨g3.trans (by omega), by omega⟩, g4, Nat.zero_le _, Or.inl ⟨by decide, rfl, fun _ => by decide⟩⟩)
end HAND
