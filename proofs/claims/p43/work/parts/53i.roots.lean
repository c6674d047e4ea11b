/-! THE MODEL: roots and numbers. -/
theorem rtv_ex : ∃ f : Nat → Nat → Nat, ∀ b x, b ≠ 0 → f b x ≤ 100000000000000000 ∧ f b x ^ b ≤ x ∧ ∀ s, s ≤ 100000000000000000 → s ^ b ≤ x → s ≤ f b x := by
  have one : ∀ b x : Nat, ∃ t : Nat, b ≠ 0 → t ≤ 100000000000000000 ∧ t ^ b ≤ x ∧ ∀ s, s ≤ 100000000000000000 → s ^ b ≤ x → s ≤ t := by
    intro b x
    have ind : ∀ N : Nat, ∃ t : Nat, b ≠ 0 → t ≤ N ∧ t ^ b ≤ x ∧ ∀ s, s ≤ N → s ^ b ≤ x → s ≤ t := by
      intro N
      induction N with
      | zero => exact ⟨0, fun hb => ⟨Nat.le_refl _, by rw [Nat.zero_pow (Nat.pos_of_ne_zero hb)]; exact Nat.zero_le _, fun s hs _ => hs⟩⟩
      | succ N ih =>
        obtain ⟨t, ht⟩ := ih
        by_cases h : (N + 1) ^ b ≤ x
        · exact ⟨N + 1, fun _ => ⟨Nat.le_refl _, h, fun s hs _ => hs⟩⟩
        · refine ⟨t, fun hb => ⟨Nat.le_succ_of_le (ht hb).1, (ht hb).2.1, fun s hs hx => (ht hb).2.2 s ?_ hx⟩⟩
          rcases Nat.lt_or_ge s (N + 1) with q | q
          · exact Nat.le_of_lt_succ q
          · have : s = N + 1 := Nat.le_antisymm hs q
            subst this
            exact absurd hx h
    exact ind _
  exact ⟨fun b x => Classical.choose (one b x), fun b x => Classical.choose_spec (one b x)⟩
noncomputable def rtv : Nat → Nat → Nat := Classical.choose rtv_ex
theorem rtv_sp (b x : Nat) (hb : b ≠ 0) : rtv b x ≤ 100000000000000000 ∧ rtv b x ^ b ≤ x ∧ ∀ s, s ≤ 100000000000000000 → s ^ b ≤ x → s ≤ rtv b x := Classical.choose_spec rtv_ex b x hb
/-- The number whose root is taken, and whether something was cut off. -/
noncomputable def rxv (D b a : Nat) : Nat := if 10 ≤ b * D then a * tn (b * D - 10) else a / tn (10 - b * D)
noncomputable def rxf (D b a : Nat) : Int := if 10 ≤ b * D then 0 else if a % tn (10 - b * D) = 0 then 0 else 1
noncomputable def rth (D b a : Nat) : Int := if rxf D b a = 0 ∧ rtv b (rxv D b a) ^ b = rxv D b a then 0 else 1
noncomputable def rtb (up : Int) (D b a : Nat) : Int := ((tlu (rtv b (rxv D b a)) (rth D b a) 0 up * tn (10 - D) : Nat) : Int)
def rRt : Int → Prop := fun r => r = 4 ∨ r = 5 ∨ r = 7 ∨ r = 8 ∨ r = 9 ∨ r = 14
theorem tn_lt {a b : Nat} (h : a < b) : tn a < tn b := by rw [tn_def, tn_def]; exact Nat.pow_lt_pow_right (show 1 < 10 by decide) h
theorem tn_pw {k j : Nat} (h : k < 9 * j) : tn k < pw j := by rw [pw_tn]; exact tn_lt h
theorem tn_17 : tn 17 = 100000000000000000 := (tn_def 17).trans (by decide)
theorem tn_23 : tn 23 = 100000000000000000000000 := (tn_def 23).trans (by decide)
theorem pow17 {m : Nat} (h : m ≤ 100000000000000000) (i : Nat) : m ^ i ≤ tn (17 * i) := by
  rw [tn_def, Nat.pow_mul, ← tn_def, tn_17]
  exact Nat.pow_le_pow_left h i
theorem rtv_lt {b x m : Nat} (hb : b ≠ 0) (hm : m ≤ 100000000000000000) (h : x < m ^ b) : rtv b x < m := by
  rcases Nat.lt_or_ge (rtv b x) m with q | q
  · exact q
  · have := Nat.pow_le_pow_left q b
    have h2 := (rtv_sp b x hb).2.1
    exact absurd (Nat.lt_of_lt_of_le h (Nat.le_trans this h2)) (Nat.lt_irrefl _)
section MODEL
variable {e : tE} {d n : Nat} {M : tM}
theorem c_roots {u l up : Int} {b D : Nat} (hdg : M 664 2 = (D : Int)) (hD : D ≤ 10) (hl : 0 ≤ l ∧ l < 1000000000) (hz : 0 ≤ u * 1000000000 + l ∧ u * 1000000000 + l ≤ 30000000000000000000000) (hb : 2 ≤ b ∧ b ≤ 9) (hup : up = 0 ∨ up = 1) (hd : 4 ≤ d) :
    tC e d 3696 [.inr (.inr (.inl 664)), .inr (.inl u), .inr (.inl l), .inl (b : Int), .inl up] M n (tQi n (fun z M' => (z = 1 ∧ zb M' = rtb up D b (u * 1000000000 + l).toNat ∧ rtb up D b (u * 1000000000 + l).toNat < 10000000000000000000000 ∧ cb M' ∨ z = 0) ∧ rU rRt M M')) := by
  obtain ⟨a, ha⟩ : ∃ a : Nat, a = (u * 1000000000 + l).toNat := ⟨_, rfl⟩
  rw [← ha]
  have ha2 : (u * 1000000000 + l).natAbs = a := by omega
  have ha3 : a < tn 23 := by rw [tn_23]; omega
  clear ha
  generalize hx : rxv D b a = x
  generalize ht : rtv b x = t
  have hb0 : b ≠ 0 := by omega
  obtain ⟨t1, t2, t3⟩ := rtv_sp b x hb0
  rw [ht] at t1 t2 t3
  have hR : ∀ {S : Int → Prop} {M1 M2 : tM}, rE S M1 M2 → (∀ r, S r → rRt r) → rU rRt M M1 → rU rRt M M2 := fun q1 q2 q3 => rU_tr q3 (rU_rm q1 q2)
  -- the last call
  have n206 : ∀ (M1 : tM) (f7 : Int) (v8 v10 v12 v13 v14 : Option tV), Vr M1 9 t → rU rRt M M1 →
      tT e d 3696 206 [some (.inr (.inr (.inl 664))), some (.inr (.inl u)), none, some (.inr (.inl l)), none, some (.inl (b : Int)), some (.inl up), some (.inl f7), v8, none, v10, none, v12, v13, v14] [.inl (rth D b a), .inl 9, .inr (.inr (.inl 664))] M1 n (tQi n (fun z M' => (z = 1 ∧ zb M' = rtb up D b a ∧ rtb up D b a < 10000000000000000000000 ∧ cb M' ∨ z = 0) ∧ rU rRt M M')) := by
    intro M1 f7 v8 v10 v12 v13 v14 q1 q2
    have hh : rth D b a = 0 ∨ rth D b a = 1 := by
      unfold rth
      split
      · exact Or.inl rfl
      · exact Or.inr rfl
    have hs : (t + 1) * tn 10 < pw 60 := by
      have := pw_60b
      rw [tn_10]
      omega
    have hr : rtb up D b a = ((tlu t (rth D b a) 0 up * tn (10 - D) : Nat) : Int) := by
      unfold rtb
      rw [hx, ht]
    rw [hr]
    refine tb_X12_roots_206 (c := false) ?_
    simp only [kb_X12_roots_206, w_ic, w_ild6, w_iv4, tfr_0, tfr_1, tfr_2, tfr_3, tfr_4, w_ire, trg, true_and, and_true, Nat.reduceAdd, Nat.reduceSub, eq_self, tshm_14, tshm_31, tshm_32, tykm_31, tykm_32, tykm_14, tci_14, tci_15, tci_960, tshm_667, tshm_668, tshm_669, tshm_670, tykm_33, tci_700]
    refine tc_i (D := 3) (fun d' hd' => c_tells (t := t) (D := D) (by omega) q1 ((rU_d q2).trans hdg) hD hh (Or.inl rfl) hup hs hd') (by omega) ?_
    rintro z M2 ⟨p1, p2⟩
    try simp only [kb_X12_roots_206, w_ic, w_ild6, w_iv4, tfr_0, tfr_1, tfr_2, tfr_3, tfr_4, w_ire, trg, true_and, and_true, Nat.reduceAdd, Nat.reduceSub, eq_self, tshm_14, tshm_31, tshm_32, tykm_31, tykm_32, tykm_14, tci_14, tci_15, tci_960, tshm_667, tshm_668, tshm_669, tshm_670, tykm_33, tci_700]
    refine ⟨by omega, _, rfl, rfl, ?_, rU_tr q2 (rU_mono p2 ?_)⟩
    · rcases p1 with ⟨p3, p4, p5, p6⟩ | ⟨p3, -⟩
      · rw [if_neg (by omega)] at p5
        exact Or.inl ⟨p3, p5, by omega, p6⟩
      · exact Or.inr p3
    · intro r hr
      unfold rRt
      omega
  have hf : rxf D b a = 0 ∨ rxf D b a = 1 := by
    unfold rxf
    split
    · exact Or.inl rfl
    · split
      · exact Or.inl rfl
      · exact Or.inr rfl
  -- the power of the root, and whether it is exact
  have n182 : ∀ (M1 : tM) (v8 v10 v12 v13 v14 : Option tV), Vr M1 9 t → Vr M1 8 x → Vr M1 7 (t ^ b) → rU rRt M M1 →
      tT e d 3696 182 [some (.inr (.inr (.inl 664))), some (.inr (.inl u)), none, some (.inr (.inl l)), none, some (.inl (b : Int)), some (.inl up), some (.inl (rxf D b a)), v8, none, v10, none, v12, v13, v14] [] M1 n (tQi n (fun z M' => (z = 1 ∧ zb M' = rtb up D b a ∧ rtb up D b a < 10000000000000000000000 ∧ cb M' ∨ z = 0) ∧ rU rRt M M')) := by
    intro M1 v8 v10 v12 v13 v14 q1 q2 q3 q4
    refine tb_X12_roots_182 (c := false) ?_
    simp only [kb_X12_roots_182, w_ald_0, w_bi, w_ild7, w_if_ne, w_iv2, tfr_0, tfr_1, tfr_2, tfr_3, tfr_4, w_if_eq, w_nil, true_and, and_true, Nat.reduceAdd, Nat.reduceSub, eq_self, tshm_14, tshm_31, tshm_32, tykm_31, tykm_32, tykm_14, tci_14, tci_15, tci_960, tshm_667, tshm_668, tshm_669, tshm_670, tykm_33, tci_700]
    refine ⟨by omega, fun h => ?_, fun h => ?_⟩
    · have hh : rth D b a = 1 := by
        unfold rth
        rw [if_neg (fun q => h q.1)]
      have := n206 M1 (rxf D b a) v8 v10 v12 v13 v14 q1 q4
      rw [hh] at this
      refine tb_X12_roots_201 (c := false) ?_
      simp only [kb_X12_roots_201, w_ic, w_goto, true_and, and_true, Nat.reduceAdd, Nat.reduceSub, eq_self]
      exact this
    · have hf0 : rxf D b a = 0 := by omega
      refine tc_i (D := 1) (fun d' hd' => c_compares (by omega) (by omega) q3 q2 hd') (by omega) ?_
      rintro z _ ⟨rfl, rfl⟩
      try simp only [kb_X12_roots_182, w_ald_0, w_bi, w_ild7, w_if_ne, w_iv2, tfr_0, tfr_1, tfr_2, tfr_3, tfr_4, w_if_eq, w_nil, true_and, and_true, Nat.reduceAdd, Nat.reduceSub, eq_self, tshm_14, tshm_31, tshm_32, tykm_31, tykm_32, tykm_14, tci_14, tci_15, tci_960, tshm_667, tshm_668, tshm_669, tshm_670, tykm_33, tci_700]
      have hc : cmpv (t ^ b) x = 0 ∧ t ^ b = x ∨ cmpv (t ^ b) x ≠ 0 ∧ -1 ≤ cmpv (t ^ b) x ∧ cmpv (t ^ b) x ≤ 1 ∧ t ^ b ≠ x := by
        unfold cmpv
        split
        · right; omega
        · split
          · left; omega
          · right; omega
      refine ⟨by omega, fun h => ?_, fun h => ?_⟩
      · have hh : rth D b a = 0 := by
          unfold rth
          rw [hx, ht, if_pos ⟨hf0, by omega⟩]
        have := n206 M1 (rxf D b a) v8 v10 v12 v13 v14 q1 q4
        rw [hh] at this
        refine tb_X12_roots_205 (c := false) ?_
        simp only [kb_X12_roots_205, w_ic, w_nil, true_and, and_true, Nat.reduceAdd, Nat.reduceSub, eq_self]
        exact this
      · have hh : rth D b a = 1 := by
          unfold rth
          rw [hx, ht, if_neg (by omega)]
        have := n206 M1 (rxf D b a) v8 v10 v12 v13 v14 q1 q4
        rw [hh] at this
        refine tb_X12_roots_201 (c := false) ?_
        simp only [kb_X12_roots_201, w_ic, w_goto, true_and, and_true, Nat.reduceAdd, Nat.reduceSub, eq_self]
        exact this
  -- powers of a number up to 10^17
  have hpw : ∀ (m i : Nat), m ≤ 100000000000000000 → i < b → m ^ i * m < pw 61 := by
    intro m i hm hi
    rw [← Nat.pow_succ]
    exact Nat.lt_of_le_of_lt (pow17 hm _) (tn_pw (by omega))
  have l161 : ∀ (j i : Nat) (M1 : tM) (v8 v10 v13 v14 : Option tV), j + i = b → 1 ≤ i → Vr M1 9 t → Vr M1 8 x → Vr M1 7 (t ^ i) → rU rRt M M1 →
      tT e d 3696 161 [some (.inr (.inr (.inl 664))), some (.inr (.inl u)), none, some (.inr (.inl l)), none, some (.inl (b : Int)), some (.inl up), some (.inl (rxf D b a)), v8, none, v10, none, some (.inl (i : Int)), v13, v14] [] M1 n (tQi n (fun z M' => (z = 1 ∧ zb M' = rtb up D b a ∧ rtb up D b a < 10000000000000000000000 ∧ cb M' ∨ z = 0) ∧ rU rRt M M')) := by
    intro j
    induction j with
    | zero =>
      intro i M1 v8 v10 v13 v14 hi h1 q1 q2 q3 q4
      have : i = b := by omega
      subst this
      refine tb_X12_roots_161 (c := false) ?_
      simp only [kb_X12_roots_161, w_ild12, w_ild5, w_ic_ge, w_ald_0, w_bi, w_iv2, tfr_0, tfr_1, tfr_2, tfr_3, tfr_4, w_inc12, tkl_n, tkl_i, tkl_l, tkl_r, w_goto, true_and, and_true, Nat.reduceAdd, Nat.reduceSub, eq_self, tshm_14, tshm_31, tshm_32, tykm_31, tykm_32, tykm_14, tci_14, tci_15, tci_960, tshm_667, tshm_668, tshm_669, tshm_670, tykm_33, tci_700]
      refine ⟨by omega, fun _ => ?_, fun h => by omega⟩
      exact n182 M1 _ _ _ _ _ q1 q2 q3 q4
    | succ j ih =>
      intro i M1 v8 v10 v13 v14 hi h1 q1 q2 q3 q4
      refine tb_X12_roots_161 (c := false) ?_
      simp only [kb_X12_roots_161, w_ild12, w_ild5, w_ic_ge, w_ald_0, w_bi, w_iv2, tfr_0, tfr_1, tfr_2, tfr_3, tfr_4, w_inc12, tkl_n, tkl_i, tkl_l, tkl_r, w_goto, true_and, and_true, Nat.reduceAdd, Nat.reduceSub, eq_self, tshm_14, tshm_31, tshm_32, tykm_31, tykm_32, tykm_14, tci_14, tci_15, tci_960, tshm_667, tshm_668, tshm_669, tshm_670, tykm_33, tci_700]
      refine ⟨by omega, fun h => by omega, fun _ => ?_⟩
      refine tc_n (D := 2) (fun d' hd' => c_times (by omega) (by omega) (by omega) (by omega) q3 q1 (hpw t i t1 (by omega)) hd') (by omega) ?_
      rintro M2 ⟨p1, p2⟩
      try simp only [kb_X12_roots_161, w_ild12, w_ild5, w_ic_ge, w_ald_0, w_bi, w_iv2, tfr_0, tfr_1, tfr_2, tfr_3, tfr_4, w_inc12, tkl_n, tkl_i, tkl_l, tkl_r, w_goto, true_and, and_true, Nat.reduceAdd, Nat.reduceSub, eq_self, tshm_14, tshm_31, tshm_32, tykm_31, tykm_32, tykm_14, tci_14, tci_15, tci_960, tshm_667, tshm_668, tshm_669, tshm_670, tykm_33, tci_700]
      rw [← Nat.pow_succ] at p1
      have := ih (i + 1) M2 v8 v10 v13 v14 (by omega) (by omega) (Vr_E q1 p2 (by omega)) (Vr_E q2 p2 (by omega)) p1 (hR p2 (fun r hr => by unfold rRt; omega) q4)
      exact this
  -- the search is over
  have n132 : ∀ (M1 : tM) (v10 v12 v13 v14 : Option tV), Vr M1 8 x → rU rRt M M1 →
      tT e d 3696 132 [some (.inr (.inr (.inl 664))), some (.inr (.inl u)), none, some (.inr (.inl l)), none, some (.inl (b : Int)), some (.inl up), some (.inl (rxf D b a)), some (.inr (.inl (t : Int))), none, v10, none, v12, v13, v14] [] M1 n (tQi n (fun z M' => (z = 1 ∧ zb M' = rtb up D b a ∧ rtb up D b a < 10000000000000000000000 ∧ cb M' ∨ z = 0) ∧ rU rRt M M')) := by
    intro M1 v10 v12 v13 v14 q2 q4
    refine tb_X12_roots_132 (c := false) ?_
    simp only [kb_X12_roots_132, w_ald_0, w_bi, w_lld8, w_ld2, w_ldiv, tw_f, w_lrem, w_iv3, tfr_0, tfr_1, tfr_2, tfr_3, tfr_4, w_iv2, w_ic, w_ist12, tkl_n, tkl_i, tkl_l, tkl_r, w_nil, true_and, and_true, Nat.reduceAdd, Nat.reduceSub, eq_self, tshm_14, tshm_31, tshm_32, tykm_31, tykm_32, tykm_14, tci_14, tci_15, tci_960, tshm_667, tshm_668, tshm_669, tshm_670, tykm_33, tci_700, tdiv_N, tmod_N]
    refine ⟨by omega, by omega, ?_⟩
    refine tc_n (D := 1) (fun d' hd' => c_sets (row := 9) (u := t / 1000000000) (l := t % 1000000000) (by omega) (by omega) (by omega) hd') (by omega) ?_
    rintro M2 ⟨p1, p2⟩
    rw [Nat.div_add_mod'] at p1
    try simp only [kb_X12_roots_132, w_ald_0, w_bi, w_lld8, w_ld2, w_ldiv, tw_f, w_lrem, w_iv3, tfr_0, tfr_1, tfr_2, tfr_3, tfr_4, w_iv2, w_ic, w_ist12, tkl_n, tkl_i, tkl_l, tkl_r, w_nil, true_and, and_true, Nat.reduceAdd, Nat.reduceSub, eq_self, tshm_14, tshm_31, tshm_32, tykm_31, tykm_32, tykm_14, tci_14, tci_15, tci_960, tshm_667, tshm_668, tshm_669, tshm_670, tykm_33, tci_700]
    refine tc_n (D := 1) (fun d' hd' => c_copies (a := 9) (b := 7) (x := t) (by omega) (by omega) (by omega) p1 hd') (by omega) ?_
    rintro M3 ⟨p3, p4⟩
    try simp only [kb_X12_roots_132, w_ald_0, w_bi, w_lld8, w_ld2, w_ldiv, tw_f, w_lrem, w_iv3, tfr_0, tfr_1, tfr_2, tfr_3, tfr_4, w_iv2, w_ic, w_ist12, tkl_n, tkl_i, tkl_l, tkl_r, w_nil, true_and, and_true, Nat.reduceAdd, Nat.reduceSub, eq_self, tshm_14, tshm_31, tshm_32, tykm_31, tykm_32, tykm_14, tci_14, tci_15, tci_960, tshm_667, tshm_668, tshm_669, tshm_670, tykm_33, tci_700]
    refine l161 (b - 1) 1 M3 _ _ _ _ (by omega) (by omega) (Vr_E p1 p4 (by omega)) (Vr_E (Vr_E q2 p2 (by omega)) p4 (by omega)) ?_ (hR p4 (fun r hr => by unfold rRt; omega) (hR p2 (fun r hr => by unfold rRt; omega) q4))
    rw [Nat.pow_one]
    exact p3
  -- the search
  have n34 : ∀ (j lo hi : Nat) (M1 : tM) (v12 v13 v14 : Option tV), hi ≤ lo + j → lo ≤ t → t ≤ hi → hi ≤ 100000000000000000 → Vr M1 8 x → rU rRt M M1 →
      tT e d 3696 34 [some (.inr (.inr (.inl 664))), some (.inr (.inl u)), none, some (.inr (.inl l)), none, some (.inl (b : Int)), some (.inl up), some (.inl (rxf D b a)), some (.inr (.inl (lo : Int))), none, some (.inr (.inl (hi : Int))), none, v12, v13, v14] [] M1 n (tQi n (fun z M' => (z = 1 ∧ zb M' = rtb up D b a ∧ rtb up D b a < 10000000000000000000000 ∧ cb M' ∨ z = 0) ∧ rU rRt M M')) := by
    intro j
    induction j with
    | zero =>
      intro lo hi M1 v12 v13 v14 h1 h2 h3 h4 q1 q2
      have e1 : lo = t := by omega
      have e2 : hi = t := by omega
      subst e1
      subst e2
      refine tb_X12_roots_34 (c := false) ?_
      simp only [kb_X12_roots_34, w_lld8, w_lld10, w_lcmp, ne_eq, tlc_r, tlc_eq, tlc_lt, tlc_ge, tlc_gt, tlc_le, w_if_ge, w_ladd, tw_f, w_lc1, w_ld2, w_ldiv, w_lst12, tkl_n, tkl_i, tkl_l, tkl_r, w_ald_0, w_bi, w_lld12, w_lrem, w_iv3, tfr_0, tfr_1, tfr_2, tfr_3, tfr_4, w_iv2, w_ic, w_ist14, w_nil, true_and, and_true, Nat.reduceAdd, Nat.reduceSub, eq_self, tshm_14, tshm_31, tshm_32, tykm_31, tykm_32, tykm_14, tci_14, tci_15, tci_960, tshm_667, tshm_668, tshm_669, tshm_670, tykm_33, tci_700]
      refine ⟨by omega, fun _ => ?_, fun h => by omega⟩
      exact n132 M1 _ _ _ _ q1 q2
    | succ j ih =>
      intro lo hi M1 v12 v13 v14 h1 h2 h3 h4 q1 q2
      by_cases h5 : lo < hi
      · obtain ⟨m, hm⟩ : ∃ m : Nat, m = (lo + hi + 1) / 2 := ⟨_, rfl⟩
        have em : ((lo : Int) + (hi : Int) + 1).tdiv 2 = (m : Int) := by
          rw [show (lo : Int) + (hi : Int) + 1 = ((lo + hi + 1 : Nat) : Int) from rfl, hm]
          exact tdiv_n
        refine tb_X12_roots_34 (c := false) ?_
        simp only [kb_X12_roots_34, w_lld8, w_lld10, w_lcmp, ne_eq, tlc_r, tlc_eq, tlc_lt, tlc_ge, tlc_gt, tlc_le, w_if_ge, w_ladd, tw_f, w_lc1, w_ld2, w_ldiv, w_lst12, tkl_n, tkl_i, tkl_l, tkl_r, w_ald_0, w_bi, w_lld12, w_lrem, w_iv3, tfr_0, tfr_1, tfr_2, tfr_3, tfr_4, w_iv2, w_ic, w_ist14, w_nil, true_and, and_true, Nat.reduceAdd, Nat.reduceSub, eq_self, tshm_14, tshm_31, tshm_32, tykm_31, tykm_32, tykm_14, tci_14, tci_15, tci_960, tshm_667, tshm_668, tshm_669, tshm_670, tykm_33, tci_700, em, tdiv_N, tmod_N]
        refine ⟨by omega, fun h => by omega, fun _ => ?_⟩
        refine ⟨by omega, by omega, by omega, ?_⟩
        refine tc_n (D := 1) (fun d' hd' => c_sets (row := 9) (u := m / 1000000000) (l := m % 1000000000) (by omega) (by omega) (by omega) hd') (by omega) ?_
        rintro M2 ⟨p1, p2⟩
        rw [Nat.div_add_mod'] at p1
        try simp only [kb_X12_roots_34, w_lld8, w_lld10, w_lcmp, ne_eq, tlc_r, tlc_eq, tlc_lt, tlc_ge, tlc_gt, tlc_le, w_if_ge, w_ladd, tw_f, w_lc1, w_ld2, w_ldiv, w_lst12, tkl_n, tkl_i, tkl_l, tkl_r, w_ald_0, w_bi, w_lld12, w_lrem, w_iv3, tfr_0, tfr_1, tfr_2, tfr_3, tfr_4, w_iv2, w_ic, w_ist14, w_nil, true_and, and_true, Nat.reduceAdd, Nat.reduceSub, eq_self, tshm_14, tshm_31, tshm_32, tykm_31, tykm_32, tykm_14, tci_14, tci_15, tci_960, tshm_667, tshm_668, tshm_669, tshm_670, tykm_33, tci_700]
        refine tc_n (D := 1) (fun d' hd' => c_copies (a := 9) (b := 7) (x := m) (by omega) (by omega) (by omega) p1 hd') (by omega) ?_
        rintro M3 ⟨p3, p4⟩
        try simp only [kb_X12_roots_34, w_lld8, w_lld10, w_lcmp, ne_eq, tlc_r, tlc_eq, tlc_lt, tlc_ge, tlc_gt, tlc_le, w_if_ge, w_ladd, tw_f, w_lc1, w_ld2, w_ldiv, w_lst12, tkl_n, tkl_i, tkl_l, tkl_r, w_ald_0, w_bi, w_lld12, w_lrem, w_iv3, tfr_0, tfr_1, tfr_2, tfr_3, tfr_4, w_iv2, w_ic, w_ist14, w_nil, true_and, and_true, Nat.reduceAdd, Nat.reduceSub, eq_self, tshm_14, tshm_31, tshm_32, tykm_31, tykm_32, tykm_14, tci_14, tci_15, tci_960, tshm_667, tshm_668, tshm_669, tshm_670, tykm_33, tci_700]
        have hm1 : m ≤ 100000000000000000 := by omega
        have l84 : ∀ (j2 i : Nat) (M1 : tM), j2 + i = b → 1 ≤ i → Vr M1 9 m → Vr M1 8 x → Vr M1 7 (m ^ i) → rU rRt M M1 →
            tT e d 3696 84 [some (.inr (.inr (.inl 664))), some (.inr (.inl u)), none, some (.inr (.inl l)), none, some (.inl (b : Int)), some (.inl up), some (.inl (rxf D b a)), some (.inr (.inl (lo : Int))), none, some (.inr (.inl (hi : Int))), none, some (.inr (.inl (m : Int))), none, some (.inl (i : Int))] [] M1 n (tQi n (fun z M' => (z = 1 ∧ zb M' = rtb up D b a ∧ rtb up D b a < 10000000000000000000000 ∧ cb M' ∨ z = 0) ∧ rU rRt M M')) := by
          intro j2
          induction j2 with
          | zero =>
            intro i M1 hj h1 q1 q2 q3 q4
            have : i = b := by omega
            subst this
            refine tb_X12_roots_84 (c := false) ?_
            simp only [kb_X12_roots_84, w_ild14, w_ild5, w_ic_ge, w_ald_0, w_bi, w_iv2, tfr_0, tfr_1, tfr_2, tfr_3, tfr_4, w_inc14, tkl_n, tkl_i, tkl_l, tkl_r, w_goto, true_and, and_true, Nat.reduceAdd, Nat.reduceSub, eq_self, tshm_14, tshm_31, tshm_32, tykm_31, tykm_32, tykm_14, tci_14, tci_15, tci_960, tshm_667, tshm_668, tshm_669, tshm_670, tykm_33, tci_700]
            refine ⟨by omega, fun _ => ?_, fun h => by omega⟩
            refine tb_X12_roots_105 (c := false) ?_
            simp only [kb_X12_roots_105, w_ald_0, w_bi, w_iv2, tfr_0, tfr_1, tfr_2, tfr_3, tfr_4, w_if_gt, w_lld12, w_lst8, tkl_n, tkl_i, tkl_l, tkl_r, w_goto, true_and, and_true, Nat.reduceAdd, Nat.reduceSub, eq_self, tshm_14, tshm_31, tshm_32, tykm_31, tykm_32, tykm_14, tci_14, tci_15, tci_960, tshm_667, tshm_668, tshm_669, tshm_670, tykm_33, tci_700]
            refine tc_i (D := 1) (fun d' hd' => c_compares (by omega) (by omega) q3 q2 hd') (by omega) ?_
            rintro z _ ⟨rfl, rfl⟩
            try simp only [kb_X12_roots_105, w_ald_0, w_bi, w_iv2, tfr_0, tfr_1, tfr_2, tfr_3, tfr_4, w_if_gt, w_lld12, w_lst8, tkl_n, tkl_i, tkl_l, tkl_r, w_goto, true_and, and_true, Nat.reduceAdd, Nat.reduceSub, eq_self, tshm_14, tshm_31, tshm_32, tykm_31, tykm_32, tykm_14, tci_14, tci_15, tci_960, tshm_667, tshm_668, tshm_669, tshm_670, tykm_33, tci_700]
            have hc : 0 < cmpv (m ^ i) x ∧ cmpv (m ^ i) x ≤ 1 ∧ x < m ^ i ∨ cmpv (m ^ i) x ≤ 0 ∧ -1 ≤ cmpv (m ^ i) x ∧ m ^ i ≤ x := by
              unfold cmpv
              split
              · right; omega
              · split
                · right; omega
                · left; omega
            refine ⟨by omega, fun h => ?_, fun h => ?_⟩
            · have h9 : t < m := by
                rw [← ht]
                exact rtv_lt hb0 hm1 (by omega)
              refine tb_X12_roots_123 (c := false) ?_
              simp only [kb_X12_roots_123, w_lld12, w_lc1, w_lsub, tw_f, w_lst10, tkl_n, tkl_i, tkl_l, tkl_r, w_nil, true_and, and_true, Nat.reduceAdd, Nat.reduceSub, eq_self]
              rw [show (m : Int) - 1 = ((m - 1 : Nat) : Int) from by omega]
              refine tb_X12_roots_129 (c := false) ?_
              simp only [kb_X12_roots_129, w_goto, true_and, and_true, Nat.reduceAdd, Nat.reduceSub, eq_self]
              exact ih lo (m - 1) M1 _ _ _ (by omega) h2 (by omega) (by omega) q2 q4
            · have h9 : m ≤ t := t3 m hm1 (by omega)
              refine tb_X12_roots_129 (c := false) ?_
              simp only [kb_X12_roots_129, w_goto, true_and, and_true, Nat.reduceAdd, Nat.reduceSub, eq_self]
              exact ih m hi M1 _ _ _ (by omega) h9 h3 h4 q2 q4
          | succ j2 ih2 =>
            intro i M1 hj h1 q1 q2 q3 q4
            refine tb_X12_roots_84 (c := false) ?_
            simp only [kb_X12_roots_84, w_ild14, w_ild5, w_ic_ge, w_ald_0, w_bi, w_iv2, tfr_0, tfr_1, tfr_2, tfr_3, tfr_4, w_inc14, tkl_n, tkl_i, tkl_l, tkl_r, w_goto, true_and, and_true, Nat.reduceAdd, Nat.reduceSub, eq_self, tshm_14, tshm_31, tshm_32, tykm_31, tykm_32, tykm_14, tci_14, tci_15, tci_960, tshm_667, tshm_668, tshm_669, tshm_670, tykm_33, tci_700]
            refine ⟨by omega, fun h => by omega, fun _ => ?_⟩
            refine tc_n (D := 2) (fun d' hd' => c_times (by omega) (by omega) (by omega) (by omega) q3 q1 (hpw m i hm1 (by omega)) hd') (by omega) ?_
            rintro M2 ⟨p1, p2⟩
            try simp only [kb_X12_roots_84, w_ild14, w_ild5, w_ic_ge, w_ald_0, w_bi, w_iv2, tfr_0, tfr_1, tfr_2, tfr_3, tfr_4, w_inc14, tkl_n, tkl_i, tkl_l, tkl_r, w_goto, true_and, and_true, Nat.reduceAdd, Nat.reduceSub, eq_self, tshm_14, tshm_31, tshm_32, tykm_31, tykm_32, tykm_14, tci_14, tci_15, tci_960, tshm_667, tshm_668, tshm_669, tshm_670, tykm_33, tci_700]
            rw [← Nat.pow_succ] at p1
            exact ih2 (i + 1) M2 (by omega) (by omega) (Vr_E q1 p2 (by omega)) (Vr_E q2 p2 (by omega)) p1 (hR p2 (fun r hr => by unfold rRt; omega) q4)
        refine l84 (b - 1) 1 M3 (by omega) (by omega) (Vr_E p1 p4 (by omega)) (Vr_E (Vr_E q1 p2 (by omega)) p4 (by omega)) ?_ (hR p4 (fun r hr => by unfold rRt; omega) (hR p2 (fun r hr => by unfold rRt; omega) q2))
        rw [Nat.pow_one]
        exact p3
      · have e1 : lo = t := by omega
        have e2 : hi = t := by omega
        subst e1
        subst e2
        refine tb_X12_roots_34 (c := false) ?_
        simp only [kb_X12_roots_34, w_lld8, w_lld10, w_lcmp, ne_eq, tlc_r, tlc_eq, tlc_lt, tlc_ge, tlc_gt, tlc_le, w_if_ge, w_ladd, tw_f, w_lc1, w_ld2, w_ldiv, w_lst12, tkl_n, tkl_i, tkl_l, tkl_r, w_ald_0, w_bi, w_lld12, w_lrem, w_iv3, tfr_0, tfr_1, tfr_2, tfr_3, tfr_4, w_iv2, w_ic, w_ist14, w_nil, true_and, and_true, Nat.reduceAdd, Nat.reduceSub, eq_self, tshm_14, tshm_31, tshm_32, tykm_31, tykm_32, tykm_14, tci_14, tci_15, tci_960, tshm_667, tshm_668, tshm_669, tshm_670, tykm_33, tci_700]
        refine ⟨by omega, fun _ => ?_, fun h => by omega⟩
        exact n132 M1 _ _ _ _ q1 q2
  obtain ⟨P, hP⟩ : ∃ P : Nat, P = b * D := ⟨_, rfl⟩
  have hPi : (b : Int) * (D : Int) = (P : Int) := by rw [hP, Int.natCast_mul]
  have hP2 : P ≤ 90 := by
    rw [hP]
    exact Nat.mul_le_mul hb.2 hD
  have go : ∀ M1 : tM, Vr M1 8 x → rU rRt M M1 →
      tT e d 3696 34 [some (.inr (.inr (.inl 664))), some (.inr (.inl u)), none, some (.inr (.inl l)), none, some (.inl (b : Int)), some (.inl up), some (.inl (rxf D b a)), some (.inr (.inl 0)), none, some (.inr (.inl 100000000000000000)), none, none, none, none] [] M1 n (tQi n (fun z M' => (z = 1 ∧ zb M' = rtb up D b a ∧ rtb up D b a < 10000000000000000000000 ∧ cb M' ∨ z = 0) ∧ rU rRt M M')) :=
    fun M1 q1 q2 => n34 100000000000000000 0 100000000000000000 M1 _ _ _ (by omega) (by omega) t1 (by omega) q1 q2
  refine tst_X12_roots ?_
  refine tb_X12_roots_0 (c := false) ?_
  simp only [kb_X12_roots_0, w_ald_0, w_bi, w_lld_1, w_lld_3, w_iv3, tfr_0, tfr_1, tfr_2, tfr_3, tfr_4, w_ild5, w_gf_14_2, tw_f, w_imul, w_isub, w_iv2, w_ist7, tkl_n, tkl_i, tkl_l, tkl_r, w_lc0, w_lst8, w_ld2, w_lst10, w_nil, true_and, and_true, Nat.reduceAdd, Nat.reduceSub, eq_self, tshm_14, tshm_31, tshm_32, tykm_31, tykm_32, tykm_14, tci_14, tci_15, tci_960, tshm_667, tshm_668, tshm_669, tshm_670, tykm_33, tci_700]
  refine tc_n (D := 2) (fun d' hd' => c_size (by omega) hl (by omega) hd') (by omega) ?_
  rintro M1 ⟨p1, p2⟩
  rw [ha2] at p1
  have hdg1 : M1 664 2 = (D : Int) := (rE_d p2).trans hdg
  try simp only [kb_X12_roots_0, w_ald_0, w_bi, w_lld_1, w_lld_3, w_iv3, tfr_0, tfr_1, tfr_2, tfr_3, tfr_4, w_ild5, w_gf_14_2, tw_f, w_imul, w_isub, w_iv2, w_ist7, tkl_n, tkl_i, tkl_l, tkl_r, w_lc0, w_lst8, w_ld2, w_lst10, w_nil, true_and, and_true, Nat.reduceAdd, Nat.reduceSub, eq_self, tshm_14, tshm_31, tshm_32, tykm_31, tykm_32, tykm_14, tci_14, tci_15, tci_960, tshm_667, tshm_668, tshm_669, tshm_670, tykm_33, tci_700, hdg1, hPi]
  have hS1 : rU rRt M M1 := rU_rm p2 (fun r hr => by unfold rRt; omega)
  by_cases h10 : 10 ≤ b * D
  · have e1 : (P : Int) - 10 = ((P - 10 : Nat) : Int) := by omega
    have hx1 : a * tn (P - 10) = x := by
      rw [← hx]
      unfold rxv
      rw [if_pos h10, ← hP]
    have hx2 : a * tn (P - 10) < pw 62 := by
      have h3 : a * tn (P - 10) ≤ tn 23 * tn 80 := Nat.mul_le_mul (Nat.le_of_lt ha3) (tn_mono (by omega))
      rw [← tn_add] at h3
      exact Nat.lt_of_le_of_lt h3 (tn_pw (by omega))
    have hf1 : rxf D b a = 0 := by
      unfold rxf
      rw [if_pos h10]
    rw [e1]
    refine tc_i (D := 2) (fun d' hd' => c_tens (by omega) p1 (by omega) hx2 hd') (by omega) ?_
    rintro z M2 ⟨rfl, q1, q2⟩
    try simp only [kb_X12_roots_0, w_ald_0, w_bi, w_lld_1, w_lld_3, w_iv3, tfr_0, tfr_1, tfr_2, tfr_3, tfr_4, w_ild5, w_gf_14_2, tw_f, w_imul, w_isub, w_iv2, w_ist7, tkl_n, tkl_i, tkl_l, tkl_r, w_lc0, w_lst8, w_ld2, w_lst10, w_nil, true_and, and_true, Nat.reduceAdd, Nat.reduceSub, eq_self, tshm_14, tshm_31, tshm_32, tykm_31, tykm_32, tykm_14, tci_14, tci_15, tci_960, tshm_667, tshm_668, tshm_669, tshm_670, tykm_33, tci_700]
    rw [hx1] at q1
    have := go M2 q1 (hR q2 (fun r hr => by unfold rRt; omega) hS1)
    rw [hf1] at this
    exact this
  · have e1 : (P : Int) - 10 = -((10 - P : Nat) : Int) := by omega
    have hx1 : a / tn (10 - P) = x := by
      rw [← hx]
      unfold rxv
      rw [if_neg h10, ← hP]
    have hf1 : rxf D b a = if a % tn (10 - P) = 0 then 0 else 1 := by
      unfold rxf
      rw [if_neg h10, ← hP]
    rw [e1]
    refine tc_i (D := 2) (fun d' hd' => c_tensd (by omega) p1 (by omega) hd') (by omega) ?_
    rintro z M2 ⟨rfl, q1, q2⟩
    try simp only [kb_X12_roots_0, w_ald_0, w_bi, w_lld_1, w_lld_3, w_iv3, tfr_0, tfr_1, tfr_2, tfr_3, tfr_4, w_ild5, w_gf_14_2, tw_f, w_imul, w_isub, w_iv2, w_ist7, tkl_n, tkl_i, tkl_l, tkl_r, w_lc0, w_lst8, w_ld2, w_lst10, w_nil, true_and, and_true, Nat.reduceAdd, Nat.reduceSub, eq_self, tshm_14, tshm_31, tshm_32, tykm_31, tykm_32, tykm_14, tci_14, tci_15, tci_960, tshm_667, tshm_668, tshm_669, tshm_670, tykm_33, tci_700]
    rw [hx1] at q1
    have := go M2 q1 (hR q2 (fun r hr => by unfold rRt; omega) hS1)
    rw [hf1] at this
    exact this
end MODEL
