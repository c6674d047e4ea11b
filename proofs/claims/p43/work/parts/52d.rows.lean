/-! THE MODEL: rows of limbs: taking away, small factors, small divisors. -/
section MODEL
variable {e : tE} {d n : Nat} {M : tM}
theorem c_less {a b : Int} {x y : Nat} (ha : 0 ≤ a ∧ a < 15) (hb : 0 ≤ b ∧ b < 15) (hab : a ≠ b) (hx : Vr M a x) (hy : Vr M b y) (hs : y ≤ x) (hd : 1 ≤ d) : tC e d 3643 [.inr (.inr (.inl 664)), .inl a, .inl b] M n (tQn n (fun M' => Vr M' a (x - y) ∧ rE (fun r => r = a) M M')) := by
  obtain ⟨m, hD, hz⟩ := hx
  obtain ⟨m2, hD2, hz2⟩ := hy
  have h1 := hD.1
  have h2 := hD2.1
  have h3 := hD.2.1
  have h4 := hD2.2.1
  have h5 := hD.2.2.1
  have hN : ∀ k, cy y 1 (x - y) k ≤ 1 := fun k => cy_le y 1 (x - y) k
  have loop : ∀ (j k : Nat) (M1 : tM) (v6 : Option tV), j + k = m → rE (fun r => r = a) M M1 → M1 666 a = (m : Int) → (∀ i : Nat, i < k → M1 665 (64 * a + (i : Int)) = ((dg (x - y) i : Nat) : Int)) → (∀ i : Nat, k ≤ i → i < m → M1 665 (64 * a + (i : Int)) = ((dg x i : Nat) : Int)) →
      tT e d 3643 5 [some (.inr (.inr (.inl 664))), some (.inl a), some (.inl b), some (.inr (.inl ((cy y 1 (x - y) k : Nat) : Int))), none, some (.inl (k : Int)), v6, none] [] M1 n (tQn n (fun M' => Vr M' a (x - y) ∧ rE (fun r => r = a) M M')) := by
    intro j
    induction j with
    | zero =>
      intro k M1 v6 hk hE hm hl hu
      refine tb_X12_less_5 (c := false) ?_
      simp only [kb_X12_less_5, w_ild5, w_ald_0, w_gf_14_1, tw_f, w_ild_1, w_ia, w_iax, w_ic_ge, w_iv2, tfr_0, tfr_1, tfr_2, tfr_3, tfr_4, w_ild_2, w_lsub, w_lld_3, w_lst6, tkl_n, tkl_i, tkl_l, tkl_r, w_lld6, w_lc0, w_lcmp, ne_eq, tlc_r, tlc_eq, tlc_lt, tlc_ge, tlc_gt, tlc_le, w_if_ge, w_lc1, w_goto, true_and, and_true, Nat.reduceAdd, Nat.reduceSub, eq_self, tshm_14, tshm_31, tshm_32, tykm_31, tykm_32, tykm_14, tci_14, tci_15, tci_960]
      refine ⟨by omega, by omega, fun _ => ?_, fun h => by omega⟩
      refine tb_X12_less_79 (c := false) ?_
      simp only [kb_X12_less_79, w_ald_0, w_ild_1, w_iv1, tfr_0, tfr_1, tfr_2, tfr_3, tfr_4, w_re, true_and, and_true, Nat.reduceAdd, Nat.reduceSub, eq_self, tshm_14, tshm_31, tshm_32, tykm_31, tykm_32, tykm_14, tci_14, tci_15, tci_960]
      refine tc_n (D := 0) (fun d' _ => c_trims ha (m := m) (x := x - y) ⟨hm, h3, by omega, fun i hi => hl i (by omega)⟩) (by omega) ?_
      rintro M' ⟨q1, q2⟩
      simp only [kb_X12_less_79, w_ald_0, w_ild_1, w_iv1, tfr_0, tfr_1, tfr_2, tfr_3, tfr_4, w_re, true_and, and_true, Nat.reduceAdd, Nat.reduceSub, eq_self, tshm_14, tshm_31, tshm_32, tykm_31, tykm_32, tykm_14, tci_14, tci_15, tci_960]
      exact ⟨rfl, rfl, q1, rE_tr hE q2⟩
    | succ j ih =>
      intro k M1 v6 hk hE hm hl hu
      have g1 := dg_lt x k
      have g2 := dg_lt y k
      have g3 := hN k
      have g4 := sub_dg (k := k) hs
      have g5 := fma_cy y 1 (x - y) k
      have g6 := dg_lt (x - y) k
      rw [Nat.one_mul] at g5
      have e1 : (if (k : Int) < M1 666 a then M1 665 (64 * a + (k : Int)) else 0) = ((dg x k : Nat) : Int) := by
        rw [if_pos (by omega), hu k (Nat.le_refl _) (by omega)]
      refine tb_X12_less_5 (c := false) ?_
      simp only [kb_X12_less_5, w_ild5, w_ald_0, w_gf_14_1, tw_f, w_ild_1, w_ia, w_iax, w_ic_ge, w_iv2, tfr_0, tfr_1, tfr_2, tfr_3, tfr_4, w_ild_2, w_lsub, w_lld_3, w_lst6, tkl_n, tkl_i, tkl_l, tkl_r, w_lld6, w_lc0, w_lcmp, ne_eq, tlc_r, tlc_eq, tlc_lt, tlc_ge, tlc_gt, tlc_le, w_if_ge, w_lc1, w_goto, true_and, and_true, Nat.reduceAdd, Nat.reduceSub, eq_self, tshm_14, tshm_31, tshm_32, tykm_31, tykm_32, tykm_14, tci_14, tci_15, tci_960]
      refine ⟨by omega, by omega, fun h => by omega, fun _ => ?_⟩
      refine tc_l (D := 0) (fun d' _ => c_limb0 (k := k) ha (by omega) (by omega)) (by omega) ?_
      rintro _ _ ⟨rfl, rfl⟩
      simp only [kb_X12_less_5, w_ild5, w_ald_0, w_gf_14_1, tw_f, w_ild_1, w_ia, w_iax, w_ic_ge, w_iv2, tfr_0, tfr_1, tfr_2, tfr_3, tfr_4, w_ild_2, w_lsub, w_lld_3, w_lst6, tkl_n, tkl_i, tkl_l, tkl_r, w_lld6, w_lc0, w_lcmp, ne_eq, tlc_r, tlc_eq, tlc_lt, tlc_ge, tlc_gt, tlc_le, w_if_ge, w_lc1, w_goto, true_and, and_true, Nat.reduceAdd, Nat.reduceSub, eq_self, tshm_14, tshm_31, tshm_32, tykm_31, tykm_32, tykm_14, tci_14, tci_15, tci_960]
      refine tc_l (D := 0) (fun d' _ => c_limb (k := k) hb (Dr_E hD2 hE (fun q => hab q.symm)) (by omega)) (by omega) ?_
      rintro _ _ ⟨rfl, rfl⟩
      rw [e1]
      simp only [kb_X12_less_5, w_ild5, w_ald_0, w_gf_14_1, tw_f, w_ild_1, w_ia, w_iax, w_ic_ge, w_iv2, tfr_0, tfr_1, tfr_2, tfr_3, tfr_4, w_ild_2, w_lsub, w_lld_3, w_lst6, tkl_n, tkl_i, tkl_l, tkl_r, w_lld6, w_lc0, w_lcmp, ne_eq, tlc_r, tlc_eq, tlc_lt, tlc_ge, tlc_gt, tlc_le, w_if_ge, w_lc1, w_goto, true_and, and_true, Nat.reduceAdd, Nat.reduceSub, eq_self, tshm_14, tshm_31, tshm_32, tykm_31, tykm_32, tykm_14, tci_14, tci_15, tci_960]
      have nx : ∀ (v : Int), v = ((dg x k : Nat) : Int) - ((dg y k : Nat) : Int) - ((cy y 1 (x - y) k : Nat) : Int) → tT e d 3643 47 [some (.inr (.inr (.inl 664))), some (.inl a), some (.inl b), some (.inr (.inl ((cy y 1 (x - y) k : Nat) : Int))), none, some (.inl (k : Int)), some (.inr (.inl v)), none] [.inr (.inl ((cy y 1 (x - y) (k + 1) : Nat) : Int))] M1 n (tQn n (fun M' => Vr M' a (x - y) ∧ rE (fun r => r = a) M M')) := by
        intro v hv
        have n2 : ∀ u : Int, u = ((dg (x - y) k : Nat) : Int) → tT e d 3643 70 [some (.inr (.inr (.inl 664))), some (.inl a), some (.inl b), some (.inr (.inl ((cy y 1 (x - y) (k + 1) : Nat) : Int))), none, some (.inl (k : Int)), some (.inr (.inl v)), none] [.inr (.inl u), .inl (k : Int), .inl a, .inr (.inr (.inl 664))] M1 n (tQn n (fun M' => Vr M' a (x - y) ∧ rE (fun r => r = a) M M')) := by
          rintro _ rfl
          refine tb_X12_less_70 (c := false) ?_
          simp only [kb_X12_less_70, w_iv3, tfr_0, tfr_1, tfr_2, tfr_3, tfr_4, w_inc5, tkl_n, tkl_i, tkl_l, tkl_r, w_goto, true_and, and_true, Nat.reduceAdd, Nat.reduceSub, eq_self, tshm_14, tshm_31, tshm_32, tykm_31, tykm_32, tykm_14, tci_14, tci_15, tci_960]
          refine tc_n (D := 0) (fun d' _ => c_lets (k := k) ha (by omega)) (by omega) ?_
          rintro _ rfl
          simp only [kb_X12_less_70, w_iv3, tfr_0, tfr_1, tfr_2, tfr_3, tfr_4, w_inc5, tkl_n, tkl_i, tkl_l, tkl_r, w_goto, true_and, and_true, Nat.reduceAdd, Nat.reduceSub, eq_self, tshm_14, tshm_31, tshm_32, tykm_31, tykm_32, tykm_14, tci_14, tci_15, tci_960]
          refine ih (k + 1) _ _ (by omega) (rE_tr hE (rE_l rfl (by omega))) (by rw [tU_nk (by decide)]; exact hm) (fun i hi => ?_) (fun i hi1 hi2 => ?_)
          · rw [tU_if]
            by_cases hik : i = k
            · rw [if_pos (by omega), hik]
            · rw [if_neg (by omega)]
              exact hl i (by omega)
          · rw [tU_ni (by omega)]
            exact hu i (by omega) hi2
        refine tb_X12_less_47 (c := false) ?_
        simp only [kb_X12_less_47, w_lst_3, tkl_n, tkl_i, tkl_l, tkl_r, w_ald_0, w_ild_1, w_ild5, w_lld6, w_lc0, w_lcmp, ne_eq, tlc_r, tlc_eq, tlc_lt, tlc_ge, tlc_gt, tlc_le, w_if_ge, w_ld2, w_ladd, tw_f, w_goto, true_and, and_true, Nat.reduceAdd, Nat.reduceSub, eq_self]
        refine ⟨by omega, fun h => ?_, fun h => ?_⟩
        · refine tb_X12_less_68 (c := false) ?_
          simp only [kb_X12_less_68, w_lld6, w_nil, true_and, and_true, Nat.reduceAdd, Nat.reduceSub, eq_self]
          exact n2 v (by omega)
        · exact n2 _ (by omega)
      refine ⟨by omega, fun h => ?_, fun h => ?_⟩
      · refine tb_X12_less_46 (c := false) ?_
        simp only [kb_X12_less_46, w_lc0, w_nil, true_and, and_true, Nat.reduceAdd, Nat.reduceSub, eq_self]
        have : cy y 1 (x - y) (k + 1) = 0 := by omega
        rw [this] at nx
        exact nx _ rfl
      · have : cy y 1 (x - y) (k + 1) = 1 := by omega
        rw [this] at nx
        exact nx _ rfl
  refine tst_X12_less ?_
  have l0 := loop m 0 M none (by omega) rE_refl h1 (fun i hi => absurd hi (Nat.not_lt_zero _)) (fun i _ hi => hD.2.2.2 i hi)
  rw [cy_0] at l0
  refine tb_X12_less_0 (c := false) ?_
  simp only [kb_X12_less_0, w_lc0, w_lst_3, tkl_n, tkl_i, tkl_l, tkl_r, w_ic, w_ist5, w_nil, true_and, and_true, Nat.reduceAdd, Nat.reduceSub, eq_self]
  exact l0
/-- times a number of at most a thousand million -/
theorem c_scales {a : Int} {x b : Nat} (ha : 0 ≤ a ∧ a < 15) (hx : Vr M a x) (hb : b ≤ 1000000000) (hs : x * b < pw 62) (hd : 1 ≤ d) : tC e d 3699 [.inr (.inr (.inl 664)), .inl a, .inr (.inl (b : Int))] M n (tQn n (fun M' => Vr M' a (x * b) ∧ rE (fun r => r = a) M M')) := by
  obtain ⟨m, hD, hz⟩ := hx
  have h1 := hD.1
  have h3 := hD.2.1
  have h5 := hD.2.2.1
  have hN : ∀ k, cy 0 b x k ≤ b := fun k => cy_le 0 b x k
  have cN : ∀ k, m ≤ k → cy 0 b x k = x * b / pw k := fun k hk => by
    rw [cy_end (m := 0) (pw_pos k) (Nat.lt_of_lt_of_le h5 (pw_mono hk)), Nat.zero_add, Nat.mul_comm]
  have cM : ∀ k, m < k → cy 0 b x k = 0 := fun k hk => by
    rw [cN k (by omega)]
    refine Nat.div_eq_of_lt ?_
    have q1 := pw_mono (show m + 1 ≤ k from hk)
    rw [pw_s] at q1
    have q2 : x * b ≤ x * 1000000000 := Nat.mul_le_mul_left _ hb
    omega
  have loop : ∀ (j k : Nat) (M1 : tM) (v8 : Option tV), j + k = m + 1 → rE (fun r => r = a) M M1 → ((k ≤ m ∧ M1 666 a = (m : Int)) ∨ (m < k ∧ M1 666 a = (k : Int) ∧ cy 0 b x m ≠ 0)) → (∀ i : Nat, i < k → M1 665 (64 * a + (i : Int)) = ((dg (x * b) i : Nat) : Int)) → (∀ i : Nat, k ≤ i → i < m → M1 665 (64 * a + (i : Int)) = ((dg x i : Nat) : Int)) →
      tT e d 3699 14 [some (.inr (.inr (.inl 664))), some (.inl a), some (.inr (.inl (b : Int))), none, some (.inr (.inl ((cy 0 b x k : Nat) : Int))), none, some (.inl (m : Int)), some (.inl (k : Int)), v8, none] [] M1 n (tQn n (fun M' => Vr M' a (x * b) ∧ rE (fun r => r = a) M M')) := by
    have out : ∀ (k : Nat) (M1 : tM) (v8 : Option tV), m ≤ k → cy 0 b x k = 0 → rE (fun r => r = a) M M1 → ((k ≤ m ∧ M1 666 a = (m : Int)) ∨ (m < k ∧ M1 666 a = (k : Int) ∧ cy 0 b x m ≠ 0)) → k ≤ m + 1 → (∀ i : Nat, i < k → M1 665 (64 * a + (i : Int)) = ((dg (x * b) i : Nat) : Int)) → tT e d 3699 90 [some (.inr (.inr (.inl 664))), some (.inl a), some (.inr (.inl (b : Int))), none, some (.inr (.inl ((cy 0 b x k : Nat) : Int))), none, some (.inl (m : Int)), some (.inl (k : Int)), v8, none] [] M1 n (tQn n (fun M' => Vr M' a (x * b) ∧ rE (fun r => r = a) M M')) := by
      intro k M1 v8 hk hc hE hm hk2 hl
      have q1 : x * b < pw k := by
        rw [cN k hk] at hc
        rcases Nat.lt_or_ge (x * b) (pw k) with q | q
        · exact q
        · have := Nat.div_pos q (pw_pos k)
          omega
      have q2 : k ≤ 62 := by
        rcases hm with ⟨q, -⟩ | ⟨q, -, q3⟩
        · omega
        · rw [cN m (Nat.le_refl _)] at q3
          have q4 : pw m ≤ x * b := by
            rcases Nat.lt_or_ge (x * b) (pw m) with q | q
            · exact absurd (Nat.div_eq_of_lt q) q3
            · exact q
          have := pw_le_iff hs q4
          omega
      refine tb_X12_scales_90 (c := false) ?_
      simp only [kb_X12_scales_90, w_ald_0, w_ild_1, w_iv1, tfr_0, tfr_1, tfr_2, tfr_3, tfr_4, w_re, true_and, and_true, Nat.reduceAdd, Nat.reduceSub, eq_self, tshm_14, tshm_31, tshm_32, tykm_31, tykm_32, tykm_14, tci_14, tci_15, tci_960]
      refine tc_n (D := 0) (fun d' _ => c_trims ha (m := k) (x := x * b) ⟨by omega, q2, q1, hl⟩) (by omega) ?_
      rintro M' ⟨q3, q4⟩
      simp only [kb_X12_scales_90, w_ald_0, w_ild_1, w_iv1, tfr_0, tfr_1, tfr_2, tfr_3, tfr_4, w_re, true_and, and_true, Nat.reduceAdd, Nat.reduceSub, eq_self, tshm_14, tshm_31, tshm_32, tykm_31, tykm_32, tykm_14, tci_14, tci_15, tci_960]
      exact ⟨rfl, rfl, q3, rE_tr hE q4⟩
    intro j
    induction j with
    | zero =>
      intro k M1 v8 hk hE hm hl hu
      have hc := cM k (by omega)
      refine tb_X12_scales_14 (c := false) ?_
      simp only [kb_X12_scales_14, w_ild7, w_ild6, w_ic_lt, w_lld4, w_lc0, w_lcmp, ne_eq, tlc_r, tlc_eq, tlc_lt, tlc_ge, tlc_gt, tlc_le, w_if_le, w_nil, true_and, and_true, Nat.reduceAdd, Nat.reduceSub, eq_self]
      refine ⟨by omega, fun h => by omega, fun _ => ⟨by omega, fun _ => ?_, fun h => by omega⟩⟩
      exact out k M1 v8 (by omega) hc hE hm (by omega) hl
    | succ j ih =>
      intro k M1 v8 hk hE hm hl hu
      have g1 := dg_lt x k
      have g3 := hN k
      have g5 := fma_cy 0 b x k
      have g6 := fma_dg 0 b x k
      have g7 : dg 0 k = 0 := dg_big (pw_pos k)
      rw [g7, Nat.zero_add] at g5 g6
      rw [Nat.zero_add, Nat.mul_comm b x] at g6
      have g8 : b * dg x k ≤ 1000000000 * 999999999 := Nat.mul_le_mul hb (by omega)
      have e1 : (if (k : Int) < M1 666 a then M1 665 (64 * a + (k : Int)) else 0) = ((dg x k : Nat) : Int) := by
        by_cases hkm : k < m
        · rw [if_pos (by omega), hu k (Nat.le_refl _) hkm]
        · rw [if_neg (by omega), dg_ge h5 (by omega)]
          rfl
      have ev : ((dg x k : Nat) : Int) * (b : Int) + ((cy 0 b x k : Nat) : Int) = ((b * dg x k + cy 0 b x k : Nat) : Int) := by
        rw [Int.natCast_add, Int.natCast_mul, Int.mul_comm]
      have body : (k < m ∨ cy 0 b x k ≠ 0) → tT e d 3699 28 [some (.inr (.inr (.inl 664))), some (.inl a), some (.inr (.inl (b : Int))), none, some (.inr (.inl ((cy 0 b x k : Nat) : Int))), none, some (.inl (m : Int)), some (.inl (k : Int)), v8, none] [] M1 n (tQn n (fun M' => Vr M' a (x * b) ∧ rE (fun r => r = a) M M')) := by
        intro hb1
        refine tb_X12_scales_28 (c := false) ?_
        simp only [kb_X12_scales_28, w_ald_0, w_ild_1, w_ild7, w_iv2, tfr_0, tfr_1, tfr_2, tfr_3, tfr_4, w_lld_2, w_lmul, tw_f, w_lld4, w_ladd, w_lst8, tkl_n, tkl_i, tkl_l, tkl_r, w_lld8, w_ld2, w_ldiv, w_lst4, w_gf_14_1, w_ia, w_iax, w_ic_lt, w_ic, w_iadd, w_ias, ne_eq, eq_self, not_true_eq_false, false_implies, w_nil, true_and, and_true, Nat.reduceAdd, Nat.reduceSub, eq_self, tshm_14, tshm_31, tshm_32, tykm_31, tykm_32, tykm_14, tci_14, tci_15, tci_960]
        refine tc_l (D := 0) (fun d' _ => c_limb0 (k := k) ha (by omega) (by omega)) (by omega) ?_
        rintro _ _ ⟨rfl, rfl⟩
        rw [e1]
        simp only [kb_X12_scales_28, w_ald_0, w_ild_1, w_ild7, w_iv2, tfr_0, tfr_1, tfr_2, tfr_3, tfr_4, w_lld_2, w_lmul, tw_f, w_lld4, w_ladd, w_lst8, tkl_n, tkl_i, tkl_l, tkl_r, w_lld8, w_ld2, w_ldiv, w_lst4, w_gf_14_1, w_ia, w_iax, w_ic_lt, w_ic, w_iadd, w_ias, ne_eq, eq_self, not_true_eq_false, false_implies, w_nil, true_and, and_true, Nat.reduceAdd, Nat.reduceSub, eq_self, tshm_14, tshm_31, tshm_32, tykm_31, tykm_32, tykm_14, tci_14, tci_15, tci_960]
        rw [ev, tdiv_N, g5]
        have n1 : ∀ (M2 : tM), rE (fun r => r = a) M M2 → ((k + 1 ≤ m ∧ M2 666 a = (m : Int)) ∨ (m < k + 1 ∧ M2 666 a = ((k + 1 : Nat) : Int) ∧ cy 0 b x m ≠ 0)) → (∀ i, M2 665 i = M1 665 i) → tT e d 3699 71 [some (.inr (.inr (.inl 664))), some (.inl a), some (.inr (.inl (b : Int))), none, some (.inr (.inl ((cy 0 b x (k + 1) : Nat) : Int))), none, some (.inl (m : Int)), some (.inl (k : Int)), some (.inr (.inl ((b * dg x k + cy 0 b x k : Nat) : Int))), none] [] M2 n (tQn n (fun M' => Vr M' a (x * b) ∧ rE (fun r => r = a) M M')) := by
          intro M2 q1 q2 q3
          refine tb_X12_scales_71 (c := false) ?_
          simp only [kb_X12_scales_71, w_ald_0, w_ild_1, w_ild7, w_lld8, w_ld2, w_lrem, w_iv3, tfr_0, tfr_1, tfr_2, tfr_3, tfr_4, w_inc7, tkl_n, tkl_i, tkl_l, tkl_r, w_goto, true_and, and_true, Nat.reduceAdd, Nat.reduceSub, eq_self, tshm_14, tshm_31, tshm_32, tykm_31, tykm_32, tykm_14, tci_14, tci_15, tci_960]
          rw [tmod_N, g6]
          refine ⟨by omega, ?_⟩
          refine tc_n (D := 0) (fun d' _ => c_lets (k := k) ha (by omega)) (by omega) ?_
          rintro _ rfl
          simp only [kb_X12_scales_71, w_ald_0, w_ild_1, w_ild7, w_lld8, w_ld2, w_lrem, w_iv3, tfr_0, tfr_1, tfr_2, tfr_3, tfr_4, w_inc7, tkl_n, tkl_i, tkl_l, tkl_r, w_goto, true_and, and_true, Nat.reduceAdd, Nat.reduceSub, eq_self, tshm_14, tshm_31, tshm_32, tykm_31, tykm_32, tykm_14, tci_14, tci_15, tci_960]
          refine ih (k + 1) _ _ (by omega) (rE_tr q1 (rE_l rfl (by omega))) (by rw [tU_nk (by decide)]; exact q2) (fun i hi => ?_) (fun i hi1 hi2 => ?_)
          · rw [tU_if]
            by_cases hik : i = k
            · rw [if_pos (by omega), hik]
            · rw [if_neg (by omega), q3]
              exact hl i (by omega)
          · rw [tU_ni (by omega), q3]
            exact hu i (by omega) hi2
        refine ⟨by omega, by omega, by omega, fun h => ?_, fun h => ⟨by omega, ?_⟩⟩
        · exact n1 M1 hE (by omega) (fun _ => rfl)
        · refine n1 _ (rE_tr hE (rE_m rfl)) (Or.inr ⟨by omega, ?_, ?_⟩) (fun i => tU_nk (by decide))
          · rw [tU_eq]
            omega
          · have : k = m := by omega
            rw [← this]
            omega
      refine tb_X12_scales_14 (c := false) ?_
      simp only [kb_X12_scales_14, w_ild7, w_ild6, w_ic_lt, w_lld4, w_lc0, w_lcmp, ne_eq, tlc_r, tlc_eq, tlc_lt, tlc_ge, tlc_gt, tlc_le, w_if_le, w_nil, true_and, and_true, Nat.reduceAdd, Nat.reduceSub, eq_self]
      refine ⟨by omega, fun h => body (Or.inl (by omega)), fun h => ⟨by omega, fun h6 => ?_, fun h6 => body (Or.inr (by omega))⟩⟩
      exact out k M1 v8 (by omega) (by omega) hE hm (by omega) hl
  refine tst_X12_scales ?_
  have l0 := loop (m + 1) 0 M none (by omega) rE_refl (Or.inl ⟨by omega, h1⟩) (fun i hi => absurd hi (Nat.not_lt_zero _)) (fun i _ hi => hD.2.2.2 i hi)
  rw [cy_0] at l0
  refine tb_X12_scales_0 (c := false) ?_
  simp only [kb_X12_scales_0, w_lc0, w_lst4, tkl_n, tkl_i, tkl_l, tkl_r, w_ald_0, w_gf_14_1, tw_f, w_ild_1, w_ia, w_iax, w_ist6, w_ic, w_ist7, w_nil, true_and, and_true, Nat.reduceAdd, Nat.reduceSub, eq_self, tshm_14, tshm_31, tshm_32, tykm_31, tykm_32, tykm_14, tci_14, tci_15, tci_960]
  rw [h1]
  exact ⟨by omega, l0⟩
/-- divided by a number of at most a thousand million -/
theorem c_parts {a : Int} {x b : Nat} (ha : 0 ≤ a ∧ a < 15) (hx : Vr M a x) (hb : 0 < b ∧ b ≤ 1000000000) (hd : 1 ≤ d) : tC e d 3676 [.inr (.inr (.inl 664)), .inl a, .inr (.inl (b : Int))] M n (tQl n (fun z M' => z = ((x % b : Nat) : Int) ∧ Vr M' a (x / b) ∧ rE (fun r => r = a) M M')) := by
  obtain ⟨m, hD, hz⟩ := hx
  have h1 := hD.1
  have h3 := hD.2.1
  have h5 := hD.2.2.1
  have loop : ∀ (k : Nat) (M1 : tM) (v7 : Option tV), k ≤ m → rE (fun r => r = a) M M1 → M1 666 a = (m : Int) → (∀ i : Nat, k ≤ i → i < m → M1 665 (64 * a + (i : Int)) = ((dg (x / b) i : Nat) : Int)) → (∀ i : Nat, i < k → M1 665 (64 * a + (i : Int)) = ((dg x i : Nat) : Int)) →
      tT e d 3676 13 [some (.inr (.inr (.inl 664))), some (.inl a), some (.inr (.inl (b : Int))), none, some (.inr (.inl (((x / pw k) % b : Nat) : Int))), none, some (.inl ((k : Int) - 1)), v7, none] [] M1 n (tQl n (fun z M' => z = ((x % b : Nat) : Int) ∧ Vr M' a (x / b) ∧ rE (fun r => r = a) M M')) := by
    intro k
    induction k with
    | zero =>
      intro M1 v7 hk hE hm hl hu
      rw [pw_0, Nat.div_one]
      refine tb_X12_parts_13 (c := false) ?_
      simp only [kb_X12_parts_13, w_ild6, w_if_lt, w_lld4, w_ld2, w_lmul, tw_f, w_ald_0, w_ild_1, w_iv2, tfr_0, tfr_1, tfr_2, tfr_3, tfr_4, w_ladd, w_lst7, tkl_n, tkl_i, tkl_l, tkl_r, w_lld7, w_lld_2, w_ldiv, w_iv3, w_lrem, w_lst4, w_inc6, w_goto, true_and, and_true, Nat.reduceAdd, Nat.reduceSub, eq_self, tshm_14, tshm_31, tshm_32, tykm_31, tykm_32, tykm_14, tci_14, tci_15, tci_960]
      refine ⟨by omega, fun _ => ?_, fun h => by omega⟩
      refine tb_X12_parts_57 (c := false) ?_
      simp only [kb_X12_parts_57, w_ald_0, w_ild_1, w_iv1, tfr_0, tfr_1, tfr_2, tfr_3, tfr_4, w_lld4, w_lre, true_and, and_true, Nat.reduceAdd, Nat.reduceSub, eq_self, tshm_14, tshm_31, tshm_32, tykm_31, tykm_32, tykm_14, tci_14, tci_15, tci_960]
      refine tc_n (D := 0) (fun d' _ => c_trims ha (m := m) (x := x / b) ⟨hm, h3, Nat.lt_of_le_of_lt (Nat.div_le_self _ _) h5, fun i hi => hl i (Nat.zero_le _) hi⟩) (by omega) ?_
      rintro M' ⟨q3, q4⟩
      simp only [kb_X12_parts_57, w_ald_0, w_ild_1, w_iv1, tfr_0, tfr_1, tfr_2, tfr_3, tfr_4, w_lld4, w_lre, true_and, and_true, Nat.reduceAdd, Nat.reduceSub, eq_self, tshm_14, tshm_31, tshm_32, tykm_31, tykm_32, tykm_14, tci_14, tci_15, tci_960]
      exact ⟨_, rfl, rfl, rfl, q3, rE_tr hE q4⟩
    | succ k ih =>
      intro M1 v7 hk hE hm hl hu
      have g1 := dg_lt x k
      have g2 := Nat.mod_lt (x / pw (k + 1)) hb.1
      obtain ⟨g3, g4⟩ := parts_dg (x := x) (b := b) (k := k) hb.1
      have e1 : (if (k : Int) < M1 666 a then M1 665 (64 * a + (k : Int)) else 0) = ((dg x k : Nat) : Int) := by
        rw [if_pos (by omega), hu k (by omega)]
      have ev : ((x / pw (k + 1) % b : Nat) : Int) * 1000000000 + ((dg x k : Nat) : Int) = ((x / pw (k + 1) % b * 1000000000 + dg x k : Nat) : Int) := by omega
      rw [show (((k + 1 : Nat) : Int) - 1) = (k : Int) by omega]
      refine tb_X12_parts_13 (c := false) ?_
      simp only [kb_X12_parts_13, w_ild6, w_if_lt, w_lld4, w_ld2, w_lmul, tw_f, w_ald_0, w_ild_1, w_iv2, tfr_0, tfr_1, tfr_2, tfr_3, tfr_4, w_ladd, w_lst7, tkl_n, tkl_i, tkl_l, tkl_r, w_lld7, w_lld_2, w_ldiv, w_iv3, w_lrem, w_lst4, w_inc6, w_goto, true_and, and_true, Nat.reduceAdd, Nat.reduceSub, eq_self, tshm_14, tshm_31, tshm_32, tykm_31, tykm_32, tykm_14, tci_14, tci_15, tci_960]
      refine ⟨by omega, fun h => by omega, fun _ => ?_⟩
      refine tc_l (D := 0) (fun d' _ => c_limb0 (k := k) ha (by omega) (by omega)) (by omega) ?_
      rintro _ _ ⟨rfl, rfl⟩
      rw [e1]
      simp only [kb_X12_parts_13, w_ild6, w_if_lt, w_lld4, w_ld2, w_lmul, tw_f, w_ald_0, w_ild_1, w_iv2, tfr_0, tfr_1, tfr_2, tfr_3, tfr_4, w_ladd, w_lst7, tkl_n, tkl_i, tkl_l, tkl_r, w_lld7, w_lld_2, w_ldiv, w_iv3, w_lrem, w_lst4, w_inc6, w_goto, true_and, and_true, Nat.reduceAdd, Nat.reduceSub, eq_self, tshm_14, tshm_31, tshm_32, tykm_31, tykm_32, tykm_14, tci_14, tci_15, tci_960]
      rw [ev, tdiv_n, g3]
      refine ⟨by omega, ?_⟩
      refine tc_n (D := 0) (fun d' _ => c_lets (k := k) ha (by omega)) (by omega) ?_
      rintro _ rfl
      simp only [kb_X12_parts_13, w_ild6, w_if_lt, w_lld4, w_ld2, w_lmul, tw_f, w_ald_0, w_ild_1, w_iv2, tfr_0, tfr_1, tfr_2, tfr_3, tfr_4, w_ladd, w_lst7, tkl_n, tkl_i, tkl_l, tkl_r, w_lld7, w_lld_2, w_ldiv, w_iv3, w_lrem, w_lst4, w_inc6, w_goto, true_and, and_true, Nat.reduceAdd, Nat.reduceSub, eq_self, tshm_14, tshm_31, tshm_32, tykm_31, tykm_32, tykm_14, tci_14, tci_15, tci_960]
      rw [tmod_n, g4, show (k : Int) + -1 = (k : Int) - 1 by omega]
      refine ⟨by omega, ?_⟩
      refine ih _ _ (by omega) (rE_tr hE (rE_l rfl (by omega))) (by rw [tU_nk (by decide)]; exact hm) (fun i hi1 hi2 => ?_) (fun i hi => ?_)
      · rw [tU_if]
        by_cases hik : i = k
        · rw [if_pos (by omega), hik]
        · rw [if_neg (by omega)]
          exact hl i (by omega) hi2
      · rw [tU_ni (by omega)]
        exact hu i (by omega)
  refine tst_X12_parts ?_
  have l0 := loop m M none (Nat.le_refl _) rE_refl h1 (fun i hi1 hi2 => by omega) (fun i hi => hD.2.2.2 i hi)
  rw [Nat.div_eq_of_lt h5, Nat.zero_mod] at l0
  refine tb_X12_parts_0 (c := false) ?_
  simp only [kb_X12_parts_0, w_lc0, w_lst4, tkl_n, tkl_i, tkl_l, tkl_r, w_ald_0, w_gf_14_1, tw_f, w_ild_1, w_ia, w_iax, w_ic, w_isub, w_ist6, w_nil, true_and, and_true, Nat.reduceAdd, Nat.reduceSub, eq_self, tshm_14, tshm_31, tshm_32, tykm_31, tykm_32, tykm_14, tci_14, tci_15, tci_960]
  rw [h1]
  exact ⟨by omega, l0⟩
end MODEL
