/-! THE MODEL: rows of limbs: comparing, adding, taking away, small factors. -/
theorem Dr_lt {M : tM} {r : Int} {m x k : Nat} (h : Dr M r m x) (hz : m = 0 ∨ pw (m - 1) ≤ x) (hx : x < pw k) : m ≤ k := by
  rcases hz with rfl | hz
  · exact Nat.zero_le _
  · have := pw_le_iff hx hz
    omega
theorem pw_half {x m : Nat} (h : m = 0 ∨ pw (m - 1) ≤ x) (h0 : m ≠ 0) : pw (m - 1) ≤ x := by
  rcases h with h | h
  · exact absurd h h0
  · exact h
section MODEL
variable {e : tE} {d n : Nat} {M : tM}
theorem c_compares {a b : Int} {x y : Nat} (ha : 0 ≤ a ∧ a < 15) (hb : 0 ≤ b ∧ b < 15) (hx : Vr M a x) (hy : Vr M b y) (hd : 1 ≤ d) : tC e d 3599 [.inr (.inr (.inl 664)), .inl a, .inl b] M n (tQi n (fun z M' => z = cmpv x y ∧ M = M')) := by
  obtain ⟨m, hD, hz⟩ := hx
  obtain ⟨m2, hD2, hz2⟩ := hy
  have h1 := hD.1
  have h2 := hD2.1
  have h3 := hD.2.1
  have h4 := hD2.2.1
  have loop : ∀ (k : Nat), k ≤ 62 → x / pw k = y / pw k → tT e d 3599 45 [some (.inr (.inr (.inl 664))), some (.inl a), some (.inl b), some (.inl ((k : Int) - 1))] [] M n (tQi n (fun z M' => z = cmpv x y ∧ M = M')) := by
    intro k
    induction k with
    | zero =>
      intro hk hq
      rw [pw_0, Nat.div_one, Nat.div_one] at hq
      refine tb_X12_compares_45 (c := false) ?_
      simp only [kb_X12_compares_45, w_ild_3, w_if_lt, w_ald_0, w_ild_1, w_iv2, tfr_0, tfr_1, tfr_2, tfr_3, tfr_4, w_ild_2, w_lcmp, ne_eq, tlc_r, tlc_eq, tlc_lt, tlc_ge, tlc_gt, tlc_le, w_if_eq, w_if_ge, w_ic, w_goto, true_and, and_true, Nat.reduceAdd, Nat.reduceSub, eq_self, tshm_14, tshm_31, tshm_32, tykm_31, tykm_32, tykm_14, tci_14, tci_15, tci_960]
      refine ⟨by omega, fun _ => ?_, fun h => absurd (show ((0 : Nat) : Int) - 1 < 0 by omega) h⟩
      refine tb_X12_compares_93 (c := false) ?_
      simp only [kb_X12_compares_93, w_ic, w_ire, trg, true_and, and_true, Nat.reduceAdd, Nat.reduceSub, eq_self]
      refine ⟨_, rfl, rfl, ?_, rfl⟩
      unfold cmpv
      rw [if_neg (by omega), if_pos hq]
    | succ k ih =>
      intro hk hq
      obtain ⟨q1, q2, q3⟩ := cmp_top hq
      have g1 := dg_lt x k
      have g2 := dg_lt y k
      rw [show (((k + 1 : Nat) : Int) - 1) = (k : Int) by omega]
      refine tb_X12_compares_45 (c := false) ?_
      simp only [kb_X12_compares_45, w_ild_3, w_if_lt, w_ald_0, w_ild_1, w_iv2, tfr_0, tfr_1, tfr_2, tfr_3, tfr_4, w_ild_2, w_lcmp, ne_eq, tlc_r, tlc_eq, tlc_lt, tlc_ge, tlc_gt, tlc_le, w_if_eq, w_if_ge, w_ic, w_goto, true_and, and_true, Nat.reduceAdd, Nat.reduceSub, eq_self, tshm_14, tshm_31, tshm_32, tykm_31, tykm_32, tykm_14, tci_14, tci_15, tci_960]
      refine ⟨by omega, fun h => by omega, fun _ => ?_⟩
      refine tc_l (D := 0) (fun d' _ => c_limb (k := k) ha hD (by omega)) (by omega) ?_
      rintro _ _ ⟨rfl, rfl⟩
      simp only [kb_X12_compares_45, w_ild_3, w_if_lt, w_ald_0, w_ild_1, w_iv2, tfr_0, tfr_1, tfr_2, tfr_3, tfr_4, w_ild_2, w_lcmp, ne_eq, tlc_r, tlc_eq, tlc_lt, tlc_ge, tlc_gt, tlc_le, w_if_eq, w_if_ge, w_ic, w_goto, true_and, and_true, Nat.reduceAdd, Nat.reduceSub, eq_self, tshm_14, tshm_31, tshm_32, tykm_31, tykm_32, tykm_14, tci_14, tci_15, tci_960]
      refine tc_l (D := 0) (fun d' _ => c_limb (k := k) hb hD2 (by omega)) (by omega) ?_
      rintro _ _ ⟨rfl, rfl⟩
      simp only [kb_X12_compares_45, w_ild_3, w_if_lt, w_ald_0, w_ild_1, w_iv2, tfr_0, tfr_1, tfr_2, tfr_3, tfr_4, w_ild_2, w_lcmp, ne_eq, tlc_r, tlc_eq, tlc_lt, tlc_ge, tlc_gt, tlc_le, w_if_eq, w_if_ge, w_ic, w_goto, true_and, and_true, Nat.reduceAdd, Nat.reduceSub, eq_self, tshm_14, tshm_31, tshm_32, tykm_31, tykm_32, tykm_14, tci_14, tci_15, tci_960]
      refine ⟨by omega, fun h => ?_, fun h => ?_⟩
      · refine tb_X12_compares_87 (c := false) ?_
        simp only [kb_X12_compares_87, w_inc3, tkl_n, tkl_i, tkl_l, tkl_r, w_goto, true_and, and_true, Nat.reduceAdd, Nat.reduceSub, eq_self]
        rw [show (k : Int) + -1 = (k : Int) - 1 by omega]
        exact ih (by omega) (q3 (by omega))
      · refine tc_l (D := 0) (fun d' _ => c_limb (k := k) ha hD (by omega)) (by omega) ?_
        rintro _ _ ⟨rfl, rfl⟩
        simp only [kb_X12_compares_45, w_ild_3, w_if_lt, w_ald_0, w_ild_1, w_iv2, tfr_0, tfr_1, tfr_2, tfr_3, tfr_4, w_ild_2, w_lcmp, ne_eq, tlc_r, tlc_eq, tlc_lt, tlc_ge, tlc_gt, tlc_le, w_if_eq, w_if_ge, w_ic, w_goto, true_and, and_true, Nat.reduceAdd, Nat.reduceSub, eq_self, tshm_14, tshm_31, tshm_32, tykm_31, tykm_32, tykm_14, tci_14, tci_15, tci_960]
        refine tc_l (D := 0) (fun d' _ => c_limb (k := k) hb hD2 (by omega)) (by omega) ?_
        rintro _ _ ⟨rfl, rfl⟩
        simp only [kb_X12_compares_45, w_ild_3, w_if_lt, w_ald_0, w_ild_1, w_iv2, tfr_0, tfr_1, tfr_2, tfr_3, tfr_4, w_ild_2, w_lcmp, ne_eq, tlc_r, tlc_eq, tlc_lt, tlc_ge, tlc_gt, tlc_le, w_if_eq, w_if_ge, w_ic, w_goto, true_and, and_true, Nat.reduceAdd, Nat.reduceSub, eq_self, tshm_14, tshm_31, tshm_32, tykm_31, tykm_32, tykm_14, tci_14, tci_15, tci_960]
        refine ⟨by omega, fun h5 => ?_, fun h5 => ?_⟩
        · refine tb_X12_compares_85 (c := false) ?_
          simp only [kb_X12_compares_85, w_ic, w_nil, true_and, and_true, Nat.reduceAdd, Nat.reduceSub, eq_self]
          refine tb_X12_compares_86 (c := false) ?_
          simp only [kb_X12_compares_86, w_ire, trg, true_and, and_true, Nat.reduceAdd, Nat.reduceSub, eq_self]
          have := q2 (by omega)
          refine ⟨_, rfl, rfl, ?_, rfl⟩
          unfold cmpv
          rw [if_neg (by omega), if_neg (by omega)]
        · refine tb_X12_compares_86 (c := false) ?_
          simp only [kb_X12_compares_86, w_ire, trg, true_and, and_true, Nat.reduceAdd, Nat.reduceSub, eq_self]
          have := q1 (by omega)
          refine ⟨_, rfl, rfl, ?_, rfl⟩
          unfold cmpv
          rw [if_pos (by omega)]
  refine tst_X12_compares ?_
  refine tb_X12_compares_0 (c := false) ?_
  simp only [kb_X12_compares_0, w_ald_0, w_gf_14_1, tw_f, w_ild_1, w_ia, w_iax, w_ild_2, w_ic_eq, w_ic_ge, w_ic, w_goto, true_and, and_true, Nat.reduceAdd, Nat.reduceSub, eq_self, tshm_14, tshm_31, tshm_32, tykm_31, tykm_32, tykm_14, tci_14, tci_15, tci_960]
  refine ⟨by omega, by omega, by omega, fun h => ?_, fun h => ⟨by omega, by omega, by omega, fun h5 => ?_, fun h5 => ?_⟩⟩
  · refine tb_X12_compares_36 (c := false) ?_
    simp only [kb_X12_compares_36, w_ald_0, w_gf_14_1, tw_f, w_ild_1, w_ia, w_iax, w_ic, w_isub, w_ist_3, tkl_n, tkl_i, tkl_l, tkl_r, w_nil, true_and, and_true, Nat.reduceAdd, Nat.reduceSub, eq_self, tshm_14, tshm_31, tshm_32, tykm_31, tykm_32, tykm_14, tci_14, tci_15, tci_960]
    refine ⟨by omega, ?_⟩
    rw [h1]
    refine loop m (by omega) ?_
    rw [Nat.div_eq_of_lt hD.2.2.1, Nat.div_eq_of_lt (by have := hD2.2.2.1; rwa [show m2 = m by omega] at this)]
  · refine tb_X12_compares_34 (c := false) ?_
    simp only [kb_X12_compares_34, w_ic, w_nil, true_and, and_true, Nat.reduceAdd, Nat.reduceSub, eq_self]
    refine tb_X12_compares_35 (c := false) ?_
    simp only [kb_X12_compares_35, w_ire, trg, true_and, and_true, Nat.reduceAdd, Nat.reduceSub, eq_self]
    refine ⟨_, rfl, rfl, ?_, rfl⟩
    have h6 := pw_half hz (by omega)
    have h7 := hD2.2.2.1
    have h8 := pw_mono (show m2 ≤ m - 1 by omega)
    unfold cmpv
    rw [if_neg (by omega), if_neg (by omega)]
  · refine tb_X12_compares_35 (c := false) ?_
    simp only [kb_X12_compares_35, w_ire, trg, true_and, and_true, Nat.reduceAdd, Nat.reduceSub, eq_self]
    refine ⟨_, rfl, rfl, ?_, rfl⟩
    have h6 := pw_half hz2 (by omega)
    have h7 := hD.2.2.1
    have h8 := pw_mono (show m ≤ m2 - 1 by omega)
    unfold cmpv
    rw [if_pos (by omega)]
theorem c_plus {a b : Int} {x y : Nat} (ha : 0 ≤ a ∧ a < 15) (hb : 0 ≤ b ∧ b < 15) (hab : a ≠ b) (hx : Vr M a x) (hy : Vr M b y) (hs : x + y < pw 62) (hd : 1 ≤ d) : tC e d 3679 [.inr (.inr (.inl 664)), .inl a, .inl b] M n (tQn n (fun M' => Vr M' a (x + y) ∧ rE (fun r => r = a) M M')) := by
  obtain ⟨m, hD, hz⟩ := hx
  obtain ⟨m2, hD2, hz2⟩ := hy
  have h1 := hD.1
  have h2 := hD2.1
  have h3 := hD.2.1
  have h4 := hD2.2.1
  have h5 := hD.2.2.1
  have h6 := hD2.2.2.1
  have hN : ∀ k, cy x 1 y k ≤ 1 := fun k => cy_le x 1 y k
  have loop : ∀ (j k : Nat) (M1 : tM), j + k = (if m ≤ m2 then m2 else m) + 1 → rE (fun r => r = a) M M1 → ((k ≤ m ∧ M1 666 a = (m : Int)) ∨ (m < k ∧ M1 666 a = (k : Int))) → (∀ i : Nat, i < k → M1 665 (64 * a + (i : Int)) = ((dg (x + y) i : Nat) : Int)) → (∀ i : Nat, k ≤ i → i < m → M1 665 (64 * a + (i : Int)) = ((dg x i : Nat) : Int)) → (j = 0 → cy x 1 y k = 0) → (k = (if m ≤ m2 then m2 else m) + 1 → cy x 1 y (if m ≤ m2 then m2 else m) = 1) →
      tT e d 3679 37 [some (.inr (.inr (.inl 664))), some (.inl a), some (.inl b), some (.inl (((if m ≤ m2 then m2 else m) : Nat) : Int)), some (.inr (.inl ((cy x 1 y k : Nat) : Int))), none, some (.inl (k : Int)), none, none] [] M1 n (tQn n (fun M' => Vr M' a (x + y) ∧ rE (fun r => r = a) M M')) := by
    generalize hM : (if m ≤ m2 then m2 else m) = most
    have hm1 : m ≤ most := by rw [← hM]; split <;> omega
    have hm2 : m2 ≤ most := by rw [← hM]; split <;> omega
    have hm3 : most = m ∨ most = m2 := by rw [← hM]; split <;> omega
    have fin : ∀ (k : Nat) (M1 : tM), most ≤ k → k ≤ most + 1 → cy x 1 y k = 0 → (k = most + 1 → cy x 1 y most = 1) → rE (fun r => r = a) M M1 → M1 666 a = (k : Int) → (∀ i : Nat, i < k → M1 665 (64 * a + (i : Int)) = ((dg (x + y) i : Nat) : Int)) → Vr M1 a (x + y) := by
      intro k M1 hk1 hk2 hc hc1 hE hm hl
      have q1 : x < pw k := Nat.lt_of_lt_of_le h5 (pw_mono (by omega))
      have q2 : y < pw k := Nat.lt_of_lt_of_le h6 (pw_mono (by omega))
      have q3 : x + y < pw k := by
        rw [cy_end (m := 0) q1 q2, Nat.one_mul] at hc
        rcases Nat.lt_or_ge (x + y) (pw k) with q | q
        · exact q
        · have := Nat.div_pos q (pw_pos k)
          omega
      have q4 : k = 0 ∨ pw (k - 1) ≤ x + y := by
        rcases Nat.eq_or_lt_of_le hk1 with q5 | q5
        · rcases Nat.eq_zero_or_pos k with q6 | q6
          · exact Or.inl q6
          · right
            rcases hm3 with q7 | q7
            · have := pw_half hz (by omega)
              rw [show k - 1 = m - 1 by omega]
              omega
            · have := pw_half hz2 (by omega)
              rw [show k - 1 = m2 - 1 by omega]
              omega
        · right
          have q8 := hc1 (by omega)
          rw [cy_end (m := 0) (Nat.lt_of_lt_of_le h5 (pw_mono hm1)) (Nat.lt_of_lt_of_le h6 (pw_mono hm2)), Nat.one_mul] at q8
          rw [show k - 1 = most by omega]
          rcases Nat.lt_or_ge (x + y) (pw most) with q | q
          · rw [Nat.div_eq_of_lt q] at q8
            omega
          · exact q
      have q9 : k ≤ 62 := by
        rcases q4 with q | q
        · omega
        · have := pw_le_iff hs q
          omega
      exact ⟨k, ⟨hm, q9, q3, hl⟩, q4⟩
    have out : ∀ (k : Nat) (M1 : tM) (v7 : Option tV), most ≤ k → k ≤ most + 1 → cy x 1 y k = 0 → (k = most + 1 → cy x 1 y most = 1) → rE (fun r => r = a) M M1 → M1 666 a = (k : Int) → (∀ i : Nat, i < k → M1 665 (64 * a + (i : Int)) = ((dg (x + y) i : Nat) : Int)) → tT e d 3679 118 [some (.inr (.inr (.inl 664))), some (.inl a), some (.inl b), some (.inl (most : Int)), some (.inr (.inl ((cy x 1 y k : Nat) : Int))), none, some (.inl (k : Int)), v7, none] [] M1 n (tQn n (fun M' => Vr M' a (x + y) ∧ rE (fun r => r = a) M M')) := by
      intro k M1 v7 g1 g2 g3 g4 g5 g6 g7
      refine tb_X12_plus_118 (c := false) ?_
      simp only [kb_X12_plus_118, w_re, true_and, and_true, Nat.reduceAdd, Nat.reduceSub, eq_self]
      exact ⟨rfl, rfl, fin k M1 g1 g2 g3 g4 g5 g6 g7, g5⟩
    have body : ∀ (k : Nat) (M1 : tM) (v7 : Option tV), k ≤ most → rE (fun r => r = a) M M1 → ((k ≤ m ∧ M1 666 a = (m : Int)) ∨ (m < k ∧ M1 666 a = (k : Int))) → (∀ i : Nat, i < k → M1 665 (64 * a + (i : Int)) = ((dg (x + y) i : Nat) : Int)) → (∀ i : Nat, k ≤ i → i < m → M1 665 (64 * a + (i : Int)) = ((dg x i : Nat) : Int)) →
        (∀ (M2 : tM) (v7 : Option tV), rE (fun r => r = a) M M2 → ((k + 1 ≤ m ∧ M2 666 a = (m : Int)) ∨ (m < k + 1 ∧ M2 666 a = ((k + 1 : Nat) : Int))) → (∀ i : Nat, i < k + 1 → M2 665 (64 * a + (i : Int)) = ((dg (x + y) i : Nat) : Int)) → (∀ i : Nat, k + 1 ≤ i → i < m → M2 665 (64 * a + (i : Int)) = ((dg x i : Nat) : Int)) → tT e d 3679 37 [some (.inr (.inr (.inl 664))), some (.inl a), some (.inl b), some (.inl (most : Int)), some (.inr (.inl ((cy x 1 y (k + 1) : Nat) : Int))), none, some (.inl ((k + 1 : Nat) : Int)), v7, none] [] M2 n (tQn n (fun M' => Vr M' a (x + y) ∧ rE (fun r => r = a) M M'))) →
        tT e d 3679 50 [some (.inr (.inr (.inl 664))), some (.inl a), some (.inl b), some (.inl (most : Int)), some (.inr (.inl ((cy x 1 y k : Nat) : Int))), none, some (.inl (k : Int)), v7, none] [] M1 n (tQn n (fun M' => Vr M' a (x + y) ∧ rE (fun r => r = a) M M')) := by
      intro k M1 v7 hk hE hm hl hu next
      have e1 : (if (k : Int) < M1 666 a then M1 665 (64 * a + (k : Int)) else 0) = ((dg x k : Nat) : Int) := by
        by_cases hkm : k < m
        · rw [if_pos (by omega), hu k (Nat.le_refl _) hkm]
        · rw [if_neg (by omega), dg_ge h5 (by omega)]
          rfl
      have g1 := dg_lt x k
      have g2 := dg_lt y k
      have g3 := hN k
      have ev : ((dg x k : Nat) : Int) + ((dg y k : Nat) : Int) + ((cy x 1 y k : Nat) : Int) = ((dg x k + 1 * dg y k + cy x 1 y k : Nat) : Int) := by omega
      refine tb_X12_plus_50 (c := false) ?_
      simp only [kb_X12_plus_50, w_ald_0, w_ild_1, w_ild6, w_iv2, tfr_0, tfr_1, tfr_2, tfr_3, tfr_4, w_ild_2, w_ladd, tw_f, w_lld4, w_lst7, tkl_n, tkl_i, tkl_l, tkl_r, w_lld7, w_ld2, w_ldiv, w_lst4, w_gf_14_1, w_ia, w_iax, w_ic_lt, w_ic, w_iadd, w_ias, ne_eq, eq_self, not_true_eq_false, false_implies, w_nil, true_and, and_true, Nat.reduceAdd, Nat.reduceSub, eq_self, tshm_14, tshm_31, tshm_32, tykm_31, tykm_32, tykm_14, tci_14, tci_15, tci_960]
      refine tc_l (D := 0) (fun d' _ => c_limb0 (k := k) ha (by omega) (by omega)) (by omega) ?_
      rintro _ _ ⟨rfl, rfl⟩
      simp only [kb_X12_plus_50, w_ald_0, w_ild_1, w_ild6, w_iv2, tfr_0, tfr_1, tfr_2, tfr_3, tfr_4, w_ild_2, w_ladd, tw_f, w_lld4, w_lst7, tkl_n, tkl_i, tkl_l, tkl_r, w_lld7, w_ld2, w_ldiv, w_lst4, w_gf_14_1, w_ia, w_iax, w_ic_lt, w_ic, w_iadd, w_ias, ne_eq, eq_self, not_true_eq_false, false_implies, w_nil, true_and, and_true, Nat.reduceAdd, Nat.reduceSub, eq_self, tshm_14, tshm_31, tshm_32, tykm_31, tykm_32, tykm_14, tci_14, tci_15, tci_960]
      refine tc_l (D := 0) (fun d' _ => c_limb (k := k) hb (Dr_E hD2 hE (fun q => hab q.symm)) (by omega)) (by omega) ?_
      rintro _ _ ⟨rfl, rfl⟩
      rw [e1]
      simp only [kb_X12_plus_50, w_ald_0, w_ild_1, w_ild6, w_iv2, tfr_0, tfr_1, tfr_2, tfr_3, tfr_4, w_ild_2, w_ladd, tw_f, w_lld4, w_lst7, tkl_n, tkl_i, tkl_l, tkl_r, w_lld7, w_ld2, w_ldiv, w_lst4, w_gf_14_1, w_ia, w_iax, w_ic_lt, w_ic, w_iadd, w_ias, ne_eq, eq_self, not_true_eq_false, false_implies, w_nil, true_and, and_true, Nat.reduceAdd, Nat.reduceSub, eq_self, tshm_14, tshm_31, tshm_32, tykm_31, tykm_32, tykm_14, tci_14, tci_15, tci_960]
      rw [ev, tdiv_N, fma_cy]
      have h99 : ∀ (M2 : tM), rE (fun r => r = a) M M2 → ((k + 1 ≤ m ∧ M2 666 a = (m : Int)) ∨ (m < k + 1 ∧ M2 666 a = ((k + 1 : Nat) : Int))) → (∀ i, M2 665 i = M1 665 i) → tT e d 3679 99 [some (.inr (.inr (.inl 664))), some (.inl a), some (.inl b), some (.inl (most : Int)), some (.inr (.inl ((cy x 1 y (k + 1) : Nat) : Int))), none, some (.inl (k : Int)), some (.inr (.inl ((dg x k + 1 * dg y k + cy x 1 y k : Nat) : Int))), none] [] M2 n (tQn n (fun M' => Vr M' a (x + y) ∧ rE (fun r => r = a) M M')) := by
        intro M2 q1 q2 q3
        refine tb_X12_plus_99 (c := false) ?_
        simp only [kb_X12_plus_99, w_ald_0, w_ild_1, w_ild6, w_lld7, w_ld2, w_lrem, w_iv3, tfr_0, tfr_1, tfr_2, tfr_3, tfr_4, w_inc6, tkl_n, tkl_i, tkl_l, tkl_r, w_goto, true_and, and_true, Nat.reduceAdd, Nat.reduceSub, eq_self, tshm_14, tshm_31, tshm_32, tykm_31, tykm_32, tykm_14, tci_14, tci_15, tci_960]
        rw [tmod_N, fma_dg, Nat.one_mul y]
        refine ⟨by omega, ?_⟩
        refine tc_n (D := 0) (fun d' _ => c_lets (k := k) ha (by omega)) (by omega) ?_
        rintro _ rfl
        simp only [kb_X12_plus_99, w_ald_0, w_ild_1, w_ild6, w_lld7, w_ld2, w_lrem, w_iv3, tfr_0, tfr_1, tfr_2, tfr_3, tfr_4, w_inc6, tkl_n, tkl_i, tkl_l, tkl_r, w_goto, true_and, and_true, Nat.reduceAdd, Nat.reduceSub, eq_self, tshm_14, tshm_31, tshm_32, tykm_31, tykm_32, tykm_14, tci_14, tci_15, tci_960]
        refine next _ _ (rE_tr q1 (rE_l rfl (by omega))) (by rw [tU_nk (by decide)]; exact q2) (fun i hi => ?_) (fun i hi1 hi2 => ?_)
        · rw [tU_if]
          by_cases hik : i = k
          · rw [if_pos (by omega), hik]
          · rw [if_neg (by omega), q3]
            exact hl i (by omega)
        · rw [tU_ni (by omega), q3]
          exact hu i (by omega) hi2
      refine ⟨by omega, by omega, by omega, fun h => ?_, fun h => ⟨by omega, ?_⟩⟩
      · exact h99 M1 hE (by omega) (fun _ => rfl)
      · refine h99 _ (rE_tr hE (rE_m rfl)) ?_ (fun i => tU_nk (by decide))
        rw [tU_eq]
        omega
    intro j
    induction j with
    | zero =>
      intro k M1 hk hE hm hl hu hc hc1
      have hc := hc rfl
      have g4 := hN k
      refine tb_X12_plus_37 (c := false) ?_
      simp only [kb_X12_plus_37, w_ild6, w_ild_3, w_ic_lt, w_lld4, w_lc0, w_lcmp, ne_eq, tlc_r, tlc_eq, tlc_lt, tlc_ge, tlc_gt, tlc_le, w_if_le, w_nil, true_and, and_true, Nat.reduceAdd, Nat.reduceSub, eq_self]
      refine ⟨by omega, fun h => by omega, fun _ => ⟨by omega, fun _ => ?_, fun h => by omega⟩⟩
      exact out k M1 none (by omega) (by omega) hc hc1 hE (by omega) hl
    | succ j ih =>
      intro k M1 hk hE hm hl hu hc hc1
      have g4 := hN k
      have b1 : (k < most ∨ cy x 1 y k = 1) → _ := fun hb1 => body k M1 none (by omega) hE hm hl hu (fun M2 v7 q1 q2 q3 q4 => by
        have q5 := hN (k + 1)
        refine tT_fg [true, true, true, true, true, true, true, false, true] ?_
        refine ih (k + 1) M2 (by omega) q1 q2 q3 q4 (fun q6 => ?_) (fun q6 => ?_)
        · have q7 : x < pw (k + 1) := Nat.lt_of_lt_of_le h5 (pw_mono (by omega))
          have q8 : y < pw (k + 1) := Nat.lt_of_lt_of_le h6 (pw_mono (by omega))
          have q9 : x < pw k := Nat.lt_of_lt_of_le h5 (pw_mono (by omega))
          have q10 : y < pw k := Nat.lt_of_lt_of_le h6 (pw_mono (by omega))
          rw [cy_end (m := 0) q7 q8]
          refine Nat.div_eq_of_lt ?_
          rw [pw_s]
          omega
        · rw [show most = k by omega]
          omega)
      refine tb_X12_plus_37 (c := false) ?_
      simp only [kb_X12_plus_37, w_ild6, w_ild_3, w_ic_lt, w_lld4, w_lc0, w_lcmp, ne_eq, tlc_r, tlc_eq, tlc_lt, tlc_ge, tlc_gt, tlc_le, w_if_le, w_nil, true_and, and_true, Nat.reduceAdd, Nat.reduceSub, eq_self]
      refine ⟨by omega, fun h => b1 (Or.inl (by omega)), fun h => ⟨by omega, fun h6 => ?_, fun h6 => b1 (Or.inr (by omega))⟩⟩
      exact out k M1 none (by omega) (by omega) (by omega) (fun h7 => by omega) hE (by omega) hl
  have start : tT e d 3679 30 [some (.inr (.inr (.inl 664))), some (.inl a), some (.inl b), none, none, none, none, none, none] [.inl (((if m ≤ m2 then m2 else m) : Nat) : Int)] M n (tQn n (fun M' => Vr M' a (x + y) ∧ rE (fun r => r = a) M M')) := by
    have l0 := loop ((if m ≤ m2 then m2 else m) + 1) 0 M (by omega) rE_refl (Or.inl ⟨by omega, h1⟩) (fun i hi => absurd hi (Nat.not_lt_zero _)) (fun i _ hi => hD.2.2.2 i hi) (fun q => by omega) (fun q => by omega)
    rw [cy_0] at l0
    refine tb_X12_plus_30 (c := false) ?_
    simp only [kb_X12_plus_30, w_ist_3, tkl_n, tkl_i, tkl_l, tkl_r, w_lc0, w_lst4, w_ic, w_ist6, w_nil, true_and, and_true, Nat.reduceAdd, Nat.reduceSub, eq_self]
    exact l0
  refine tst_X12_plus ?_
  refine tb_X12_plus_0 (c := false) ?_
  simp only [kb_X12_plus_0, w_ald_0, w_gf_14_1, tw_f, w_ild_1, w_ia, w_iax, w_ild_2, w_ic_le, w_goto, true_and, and_true, Nat.reduceAdd, Nat.reduceSub, eq_self, tshm_14, tshm_31, tshm_32, tykm_31, tykm_32, tykm_14, tci_14, tci_15, tci_960]
  refine ⟨by omega, by omega, by omega, fun h => ?_, fun h => ⟨by omega, ?_⟩⟩
  · refine tb_X12_plus_24 (c := false) ?_
    simp only [kb_X12_plus_24, w_ald_0, w_gf_14_1, tw_f, w_ild_2, w_ia, w_iax, w_nil, true_and, and_true, Nat.reduceAdd, Nat.reduceSub, eq_self, tshm_14, tshm_31, tshm_32, tykm_31, tykm_32, tykm_14, tci_14, tci_15, tci_960]
    refine ⟨by omega, ?_⟩
    rw [if_pos (by omega)] at start
    rw [h2]
    exact start
  · rw [if_neg (by omega)] at start
    rw [h1]
    exact start
end MODEL
