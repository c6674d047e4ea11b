/-! SLOPES: followed. -/
/-- the acts of a formula -/
def aV (M : tM) (r : Nat) : Nat → Int := fun k => M (r + 1) (k : Int)
/-- the recipe of a node -/
def rqN (M : tM) (r nd : Nat) : Nat := rcK (Int32.ofInt (M (r + 1) (nd : Int))) (Int32.ofInt (M (r + 3) (nd : Int)))
theorem rqN_r (M : tM) (r nd : Nat) : 4 ≤ rqN M r nd ∧ rqN M r nd < 16 := rcK_r _ _
/-- where the following of a slope stands -/
def SLP (M : tM) (r c st : Nat) (N : tM) (D m : Nat) (nx la : Int) : Prop := ((D = 0 ∧ m = 1 ∧ la < nx) ∨ (∃ (D' nd p : Nat) (h0 : Int), D = D' + 1 ∧ FRS (rqN M r) c N D' h0 ∧ (N 497 (D' : Int) = (nd : Int) ∧ nd < c) ∧ N 498 (D' : Int) = (p : Int) ∧ p ≤ rl (rqN M r nd) ∧ ((la < nx ∧ (m : Int) = h0 + rh (rqN M r nd) p ∧ (m = 0 → st + 1 ≤ D)) ∨ (∃ s i j : Nat, nx = (j : Int) ∧ la = (i : Int) ∧ (s ≤ j ∧ j ≤ i) ∧ i < c ∧ (hA (aV M r) s + 1 = hA (aV M r) (i + 1) ∧ ∀ j, s < j → j ≤ i → hA (aV M r) s + 1 ≤ hA (aV M r) j) ∧ (1 ≤ p ∧ efS (sgV (rqN M r nd) (p - 1)) = 1) ∧ (m : Int) + (hA (aV M r) s : Int) = h0 + rh (rqN M r nd) (p - 1) + (hA (aV M r) j : Int) ∧ (m = 0 → st ≤ D)))))
theorem hA_e {M : tM} {r c j : Nat} (hw : WFF M r c) (hj : j < c) : (hA (aV M r) (j + 1) : Int) = (hA (aV M r) j : Int) + efA (M (r + 1) (j : Int)) := by
  obtain ⟨_, h2, _⟩ := hw
  obtain ⟨_, a⟩ := h2 j hj
  have e := hA_s (fun k => M (r + 1) (k : Int)) j
  show ((hA (fun k => M (r + 1) (k : Int)) (j + 1) : Nat) : Int) = ((hA (fun k => M (r + 1) (k : Int)) j : Nat) : Int) + _
  generalize hA (fun k => M (r + 1) (k : Int)) (j + 1) = h1 at *
  generalize hA (fun k => M (r + 1) (k : Int)) j = h0 at *
  generalize M (r + 1) (j : Int) = act at *
  have e : h1 = if act = 35 ∨ act = 112 ∨ act = 69 ∨ act = 120 ∨ act = 121 then h0 + 1 else if act = 43 ∨ act = 45 ∨ act = 42 ∨ act = 47 then h0 - 1 else h0 := e
  unfold efA
  by_cases q0 : act = 35 ∨ act = 112 ∨ act = 69 ∨ act = 120 ∨ act = 121
  · rw [if_pos q0] at e ⊢
    omega
  · rw [if_neg q0] at e ⊢
    by_cases q1 : act = 43 ∨ act = 45 ∨ act = 42 ∨ act = 47
    · rw [if_pos q1] at e ⊢
      unfold AOK at a
      have hOO : OOK act (M (r + 3) (j : Int)).toNat → act = 94 ∨ act = 114 ∨ act = 101 ∨ act = 108 ∨ act = 97 := fun q => by unfold OOK at q; omega
      rcases a with q | q | q | q | q | ⟨_, q⟩ | ⟨q, _⟩
      · omega
      · omega
      · omega
      · omega
      · omega
      · omega
      · rcases q with q | q | q
        · omega
        · omega
        · have := hOO q
          omega
    · rw [if_neg q1] at e ⊢
      omega
section HAND
variable {e : tE} {d n : Nat} {M : tM}
theorem v_makeSlope {r c x y : Nat} {X Y : Int × Int} (hr : FMC r) (hw : WFF M r c) (hst : STF M r) (hAm : AIM M x y X Y) (hxy : (x + 2 < 77 ∨ 498 < x) ∧ (y + 2 < 77 ∨ 498 < y)) (hu : UU (M 78 5)) (he : EVr e) (hl : ESL e) (hro : RO M) (hC : CI M) (hd : 8 ≤ d) : tC e d 2057 [.inr (.inr (.inl 77)), .inr (.inr (.inl r))] M n (tQi n (fun z M' => (0 ≤ z ∧ z ≤ 2) ∧ SLF M M' ∧ (z = 0 → ∃ (m : Nat) (B : Nat → Int × Int), (1 ≤ m ∧ m ≤ 128) ∧ SK M' m B))) := by
  obtain ⟨t0, t1, t2, t3, t4, t5⟩ := FM_of hr
  have rr : 499 < r ∧ r + 6 < 531 := by unfold FMC at hr; omega
  have hc := hw.1.1
  have hc60 := hw.1.2
  have c1 : 1 ≤ c := by
    rcases Nat.eq_zero_or_pos c with h | h
    · have g := hw.2.2
      rw [h] at g
      have g : (0 : Nat) = 1 := g
      omega
    · exact h
  refine tst_X6_makeSlope ?_
  have n254 : ∀ (N : tM) (z i3 i4 i5 : Int) (w6 w7 w8 : Option tV), (0 ≤ z ∧ z ≤ 2) → SLF M N → (z = 0 → ∃ (m : Nat) (B : Nat → Int × Int), (1 ≤ m ∧ m ≤ 128) ∧ SK N m B) → tT e d 2057 254 [some (.inr (.inr (.inl (77)))), some (.inr (.inr (.inl (r)))), some (.inl (z)), some (.inl (i3)), some (.inl (i4)), some (.inl (i5)), w6, w7, w8] [] N n (tQi n (fun z M' => (0 ≤ z ∧ z ≤ 2) ∧ SLF M M' ∧ (z = 0 → ∃ (m : Nat) (B : Nat → Int × Int), (1 ≤ m ∧ m ≤ 128) ∧ SK M' m B))) := by
    intro N z i3 i4 i5 w6 w7 w8 hz f h
    refine tb_X6_makeSlope_254 (c := false) ?_
    simp only [kb_X6_makeSlope_254, w_ild_2, w_ire, trg, true_and, and_true, Nat.reduceAdd, Nat.reduceSub, eq_self]
    exact ⟨_, rfl, rfl, hz, f, h⟩
  -- what holds where the loop begins
  have n28 : ∀ (fu st : Nat) (N : tM) (D m : Nat) (B : Nat → Int × Int) (nx la : Int) (w6 w7 w8 : Option tV), 100000 - st = fu → st ≤ 100000 → SLF M N → N 77 7 = (D : Int) → D ≤ 60 → m ≤ 128 → SK N m B → (-1 ≤ la ∧ la < 60) → (0 ≤ nx ∧ nx ≤ 60) →
      SLP M r c st N D m nx la →
      tT e d 2057 28 [some (.inr (.inr (.inl (77)))), some (.inr (.inr (.inl (r)))), some (.inl (0)), some (.inl (nx)), some (.inl (la)), some (.inl ((st : Int))), w6, w7, w8] [] N n (tQi n (fun z M' => (0 ≤ z ∧ z ≤ 2) ∧ SLF M M' ∧ (z = 0 → ∃ (m : Nat) (B : Nat → Int × Int), (1 ≤ m ∧ m ≤ 128) ∧ SK M' m B))) := by
    intro fu
    induction fu with
    | zero =>
      intro st N D m B nx la w6 w7 w8 hf hs f h7 hD hm sk hla hnx hst2
      refine tb_X6_makeSlope_28 (c := false) ?_
      simp only [kb_X6_makeSlope_28, w_ild5, w_ldc, w_ic_ge, w_ald_0, w_gf_8_7, tw_f, w_if_le, w_ild_3, w_ild4, w_ic_gt, w_ald_1, w_iv1, tfr_0, tfr_1, tfr_2, tfr_3, tfr_4, w_iv3, w_ist_2, tkl_n, tkl_i, tkl_l, tkl_r, w_inc3, w_goto, true_and, and_true, Nat.reduceAdd, Nat.reduceSub, eq_self, tsh_77, tyk_8, tcq_8, tyk_7, tcq_7, tsx_497, tsx_498, tyk_26, tcq_60]
      repeat refine And.intro (by omega) ?_
      refine ⟨fun _ => n254 N 0 _ _ _ _ _ _ (by decide) f (fun _ => ⟨m, B, ⟨?_, hm⟩, sk⟩), fun q => absurd (by omega) q⟩
      unfold SLP at hst2
      rcases hst2 with ⟨_, q, _⟩ | ⟨D', nd, p, h0, q1, _, _, _, _, q | ⟨s, i, j, _, _, _, _, _, _, _, q⟩⟩
      · omega
      · have := q.2.2
        omega
      · omega
    | succ fu ih =>
      intro st N D m B nx la w6 w7 w8 hf hs f h7 hD hm sk hla hnx hst2
      -- the end of a step
      have n242 : ∀ (N1 : tM) (z : Int) (D m : Nat) (B : Nat → Int × Int) (nx la : Int) (w6 w7 w8 : Option tV), (0 ≤ z ∧ z ≤ 2) → SLF M N1 → (z = 0 → N1 77 7 = (D : Int) ∧ D ≤ 60 ∧ m ≤ 128 ∧ SK N1 m B ∧ (-1 ≤ la ∧ la < 60) ∧ (0 ≤ nx ∧ nx ≤ 60) ∧ SLP M r c (st + 1) N1 D m nx la) → tT e d 2057 242 [some (.inr (.inr (.inl (77)))), some (.inr (.inr (.inl (r)))), some (.inl (z)), some (.inl (nx)), some (.inl (la)), some (.inl ((st : Int))), w6, w7, w8] [] N1 n (tQi n (fun z M' => (0 ≤ z ∧ z ≤ 2) ∧ SLF M M' ∧ (z = 0 → ∃ (m : Nat) (B : Nat → Int × Int), (1 ≤ m ∧ m ≤ 128) ∧ SK M' m B))) := by
        intro N1 z D m B nx la w6 w7 w8 hz f1 h
        refine tb_X6_makeSlope_242 (c := false) ?_
        simp only [kb_X6_makeSlope_242, w_ild_2, w_if_eq, w_ire, trg, true_and, and_true, Nat.reduceAdd, Nat.reduceSub, eq_self]
        repeat refine And.intro (by omega) ?_
        refine ⟨fun q => ?_, fun q => ⟨_, rfl, rfl, hz, f1, fun q2 => absurd q2 (by omega)⟩⟩
        have z0 : z = 0 := by omega
        subst z0
        obtain ⟨a1, a2, a3, a4, a5, a6, a7⟩ := h rfl
        refine tb_X6_makeSlope_248 (c := false) ?_
        simp only [kb_X6_makeSlope_248, w_inc5, tkl_n, tkl_i, tkl_l, tkl_r, w_goto, true_and, and_true, Nat.reduceAdd, Nat.reduceSub, eq_self]
        repeat refine And.intro (by omega) ?_
        rw [show ((st : Nat) : Int) + 1 = ((st + 1 : Nat) : Int) by omega]
        exact ih (st + 1) N1 D m B nx la _ _ _ (by omega) (by omega) f1 a1 a2 a3 a4 a5 a6 a7
      refine tb_X6_makeSlope_28 (c := false) ?_
      simp only [kb_X6_makeSlope_28, w_ild5, w_ldc, w_ic_ge, w_ald_0, w_gf_8_7, tw_f, w_if_le, w_ild_3, w_ild4, w_ic_gt, w_ald_1, w_iv1, tfr_0, tfr_1, tfr_2, tfr_3, tfr_4, w_iv3, w_ist_2, tkl_n, tkl_i, tkl_l, tkl_r, w_inc3, w_goto, true_and, and_true, Nat.reduceAdd, Nat.reduceSub, eq_self, tsh_77, tyk_8, tcq_8, tyk_7, tcq_7, tsx_497, tsx_498, tyk_26, tcq_60, h7, t0]
      repeat refine And.intro (by omega) ?_
      first | refine ⟨fun q => absurd q (by omega), fun _ => ?_⟩ | refine fun _ => ?_
      repeat refine And.intro (by omega) ?_
      refine ⟨fun q => ?_, fun q => ?_⟩
      · refine n254 N 0 _ _ _ _ _ _ (by decide) f (fun _ => ⟨m, B, ⟨?_, hm⟩, sk⟩)
        unfold SLP at hst2
        rcases hst2 with ⟨_, q2, _⟩ | ⟨D', nd, p, h0, q1, _⟩
        · omega
        · omega
      have hst3 := hst2
      unfold SLP at hst3
      rcases hst3 with ⟨q2, _⟩ | ⟨D', nd, p, h0, rfl, fr, hnd, hp, hpl, md⟩
      · omega
      have uN : N 78 5 = M 78 5 := UN_78 f.1.1.2
      have cell : ∀ (k : Nat) (i : Int), r ≤ k ∧ k ≤ r + 5 → N k i = M k i := fun k i g => f.2.1 k i (by omega)
      repeat refine And.intro (by omega) ?_
      refine ⟨fun g => ?_, fun g => ?_⟩
      · sorry
      · -- an act of a value
        rcases md with ⟨q2, _⟩ | ⟨s, i, j, rfl, rfl, hj, hi, hsi, hp1, hmm, hm0⟩
        · omega
        have hq := rqN_r M r nd
        have f0 := FRS_0 (fun k => rqN_r M r k) D' h0 fr
        have r0 := rh_r (p := p - 1) hq (by omega)
        have ea : N (r + 1) (j : Int) = M (r + 1) (j : Int) := cell _ _ (by omega)
        have eb : N (r + 2) (j : Int) = M (r + 2) (j : Int) := cell _ _ (by omega)
        have ec : N (r + 3) (j : Int) = M (r + 3) (j : Int) := cell _ _ (by omega)
        have sc := (hw.2.1 j (by omega)).1
        obtain ⟨sN, hsN⟩ : ∃ k : Nat, M (r + 3) (j : Int) = (k : Int) := ⟨(M (r + 3) (j : Int)).toNat, by omega⟩
        have ak := stf_ar (m := m) hw hsi hi hj (by show hA (aV M r) j ≤ hA (aV M r) s + m; omega)
        rw [hsN, Int.toNat_natCast] at ak
        refine tc_i (D := 1) (fun d' hd' => z_actAt hr (by omega) f.1.1.1 hd') (by omega) ?_
        rintro z1 N1 ⟨rfl, rfl⟩
        rw [ea]
        try simp only [kb_X6_makeSlope_28, w_ild5, w_ldc, w_ic_ge, w_ald_0, w_gf_8_7, tw_f, w_if_le, w_ild_3, w_ild4, w_ic_gt, w_ald_1, w_iv1, tfr_0, tfr_1, tfr_2, tfr_3, tfr_4, w_iv3, w_ist_2, tkl_n, tkl_i, tkl_l, tkl_r, w_inc3, w_goto, true_and, and_true, Nat.reduceAdd, Nat.reduceSub, eq_self, tsh_77, tyk_8, tcq_8, tyk_7, tcq_7, tsx_497, tsx_498, tyk_26, tcq_60, h7, t0]
        refine tc_l (D := 1) (fun d' hd' => z_numberAt hr (by omega) hd') (by omega) ?_
        rintro z1 N2 ⟨rfl, rfl⟩
        rw [eb]
        try simp only [kb_X6_makeSlope_28, w_ild5, w_ldc, w_ic_ge, w_ald_0, w_gf_8_7, tw_f, w_if_le, w_ild_3, w_ild4, w_ic_gt, w_ald_1, w_iv1, tfr_0, tfr_1, tfr_2, tfr_3, tfr_4, w_iv3, w_ist_2, tkl_n, tkl_i, tkl_l, tkl_r, w_inc3, w_goto, true_and, and_true, Nat.reduceAdd, Nat.reduceSub, eq_self, tsh_77, tyk_8, tcq_8, tyk_7, tcq_7, tsx_497, tsx_498, tyk_26, tcq_60, h7, t0]
        refine tc_i (D := 1) (fun d' hd' => z_scaleAt hr (by omega) hd') (by omega) ?_
        rintro z1 N3 ⟨rfl, rfl⟩
        rw [ec, hsN]
        try simp only [kb_X6_makeSlope_28, w_ild5, w_ldc, w_ic_ge, w_ald_0, w_gf_8_7, tw_f, w_if_le, w_ild_3, w_ild4, w_ic_gt, w_ald_1, w_iv1, tfr_0, tfr_1, tfr_2, tfr_3, tfr_4, w_iv3, w_ist_2, tkl_n, tkl_i, tkl_l, tkl_r, w_inc3, w_goto, true_and, and_true, Nat.reduceAdd, Nat.reduceSub, eq_self, tsh_77, tyk_8, tcq_8, tyk_7, tcq_7, tsx_497, tsx_498, tyk_26, tcq_60, h7, t0]
        refine tc_i (D := 7) (fun d' hd' => v_mk ak hm sk (AIM_s hAm hxy f) (by rw [uN]; exact hu) he f.1.2 f.1.1.1 hd') (by omega) ?_
        rintro z N4 ⟨hz, ⟨m4, ro4⟩, v4⟩
        try simp only [kb_X6_makeSlope_28, w_ild5, w_ldc, w_ic_ge, w_ald_0, w_gf_8_7, tw_f, w_if_le, w_ild_3, w_ild4, w_ic_gt, w_ald_1, w_iv1, tfr_0, tfr_1, tfr_2, tfr_3, tfr_4, w_iv3, w_ist_2, tkl_n, tkl_i, tkl_l, tkl_r, w_inc3, w_goto, true_and, and_true, Nat.reduceAdd, Nat.reduceSub, eq_self, tsh_77, tyk_8, tcq_8, tyk_7, tcq_7, tsx_497, tsx_498, tyk_26, tcq_60, h7, t0]
        repeat refine And.intro (by omega) ?_
        have f4 := SLF_tr f (SLF_m m4 ro4)
        by_cases z0 : z = 0
        · obtain ⟨m', B', ⟨b1, b2⟩, b3⟩ := v4 z0
          have he1 := hA_e hw (show j < c by omega)
          rw [show ((j : Nat) : Int) + 1 = ((j + 1 : Nat) : Int) by omega]
          have n1 : hA (aV M r) s + 1 ≤ hA (aV M r) (j + 1) := by
            rcases Nat.lt_or_ge j i with g2 | g2
            · exact hsi.2 (j + 1) (by omega) (by omega)
            · rw [show j = i by omega]
              exact Nat.le_of_eq hsi.1
          refine n242 N4 z (D' + 1) m' B' _ _ _ _ _ hz f4 (fun _ => ⟨(m4.2.1 7 (by decide)).trans h7, hD, b1, b3, hla, by omega, Or.inr ⟨D', nd, p, h0, rfl, FRS_u D' h0 (fun k _ => ⟨m4.2.2 _ _ (by decide), m4.2.2 _ _ (by decide)⟩) fr, ⟨(m4.2.2 _ _ (by decide)).trans hnd.1, hnd.2⟩, (m4.2.2 _ _ (by decide)).trans hp, hpl, ?_⟩⟩)
          rcases Nat.lt_or_ge j i with g2 | g2
          · exact Or.inr ⟨s, i, j + 1, rfl, rfl, by omega, hi, hsi, hp1, by omega, fun q => by omega⟩
          · have hji : j = i := by omega
            subst hji
            have rs := rh_s (rqN M r nd) (p - 1)
            rw [show p - 1 + 1 = p by omega, hp1.2] at rs
            have r1 := rh_1 hq (p := p) ⟨by omega, hpl⟩
            have h1 := hsi.1
            exact Or.inl ⟨by omega, by omega, fun q => by omega⟩
        · exact n242 N4 z 0 0 B _ _ _ _ _ hz f4 (fun q => absurd q z0)
  sorry
end HAND
