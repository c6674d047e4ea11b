/-! THE MODEL: rows of limbs: long division. -/
theorem cmpv_le (x y : Nat) : (cmpv x y ≤ 0) ↔ x ≤ y := by
  unfold cmpv
  split
  · omega
  · split <;> omega
theorem cmpv_r (x y : Nat) : -1 ≤ cmpv x y ∧ cmpv x y ≤ 1 := by
  unfold cmpv
  split
  · omega
  · split <;> omega
theorem cmpv_ge (x y : Nat) : (0 ≤ cmpv x y) ↔ y ≤ x := by
  unfold cmpv
  split
  · omega
  · split <;> omega
theorem cmpv_gt (x y : Nat) : (0 < cmpv x y) ↔ y < x := by
  unfold cmpv
  split
  · omega
  · split <;> omega
theorem cmpv_lt (x y : Nat) : (cmpv x y < 0) ↔ x < y := by
  unfold cmpv
  split
  · omega
  · split <;> omega
theorem cmpv_eq (x y : Nat) : (cmpv x y = 0) ↔ x = y := by
  unfold cmpv
  split
  · omega
  · split <;> omega
theorem tdiv_2 {a : Nat} : ((a : Int)).tdiv 2 = ((a / 2 : Nat) : Int) := tdiv_n
theorem dg_a0 {O D : Nat} (h : D < 1000000000) : dg (O * 1000000000 + D) 0 = D := by
  simp only [dg_def]
  rw [pw_0, Nat.div_one]
  omega
theorem dg_a1 {O D w : Nat} (h : D < 1000000000) : dg (O * 1000000000 + D) (w + 1) = dg O w := by
  simp only [dg_def]
  rw [pw_s, Nat.mul_comm (pw w), ← Nat.div_div_eq_div_mul]
  have : (O * 1000000000 + D) / 1000000000 = O := by omega
  rw [this]
theorem dg_a2 {O w : Nat} : dg (O * 1000000000) (w + 1) = dg O w := by
  simp only [dg_def]
  rw [pw_s, Nat.mul_comm (pw w), ← Nat.div_div_eq_div_mul, Nat.mul_div_cancel _ (by decide)]
theorem row_lem {O D R : Nat} (h : O * 1000000000 + D = R) (hd : D < 1000000000) : R < (O + 1) * 1000000000 := by omega
abbrev r234 : Int → Prop := fun r => r = 2 ∨ r = 3 ∨ r = 4
section MODEL
variable {e : tE} {d n : Nat} {M : tM}
set_option maxRecDepth 8000 in
theorem c_divides {X Y : Nat} (hx : Vr M 0 X) (hy : Vr M 1 Y) (hY : 0 < Y) (hY2 : Y < pw 61) (hd : 2 ≤ d) : tC e d 3610 [.inr (.inr (.inl 664))] M n (tQn n (fun M' => Vr M' 2 (X / Y) ∧ Vr M' 3 (X % Y) ∧ rE r234 M M')) := by
  obtain ⟨m, hD, hz⟩ := hx
  have h1 := hD.1
  have h3 := hD.2.1
  have h5 := hD.2.2.1
  have loop : ∀ (k : Nat) (M1 : tM) (v2 v3 v4 v5 v6 v7 : Option tV), k ≤ m → rE r234 M M1 → M1 666 2 = (m : Int) → Vr M1 3 (X / pw k % Y) → (∀ i : Nat, k ≤ i → i < m → M1 665 (128 + (i : Int)) = ((dg (X / Y) i : Nat) : Int)) → tT e d 3610 28 [some (.inr (.inr (.inl 664))), some (.inl ((k : Int) - 1)), v2, v3, v4, v5, v6, v7] [] M1 n (tQn n (fun M' => Vr M' 2 (X / Y) ∧ Vr M' 3 (X % Y) ∧ rE r234 M M')) := by
    intro k
    induction k with
    | zero =>
      intro M1 v2 v3 v4 v5 v6 v7 hk hE hm hV hl
      rw [pw_0, Nat.div_one] at hV
      have hT : Dr M1 2 m (X / Y) := ⟨hm, h3, Nat.lt_of_le_of_lt (Nat.div_le_self _ _) h5, fun i hi => hl i (Nat.zero_le _) hi⟩
      refine tb_X12_divides_28 (c := false) ?_
      simp only [kb_X12_divides_28, w_ild_1, w_if_lt, w_ald_0, w_ic, w_iv2, tfr_0, tfr_1, tfr_2, tfr_3, tfr_4, w_gf_14_1, tw_f, w_ia, w_iax, w_if_ne, w_ias, ne_eq, eq_self, not_true_eq_false, false_implies, w_nil, true_and, and_true, Nat.reduceAdd, Nat.reduceSub, eq_self, tshm_14, tshm_31, tshm_32, tykm_31, tykm_32, tykm_14, tci_14, tci_15, tci_960]
      refine ⟨by omega, fun _ => ?_, fun h => by omega⟩
      refine tb_X12_divides_171 (c := false) ?_
      simp only [kb_X12_divides_171, w_ald_0, w_ic, w_iv1, tfr_0, tfr_1, tfr_2, tfr_3, tfr_4, w_re, true_and, and_true, Nat.reduceAdd, Nat.reduceSub, eq_self, tshm_14, tshm_31, tshm_32, tykm_31, tykm_32, tykm_14, tci_14, tci_15, tci_960]
      refine tc_n (D := 0) (fun d' _ => c_trims (row := 2) (by omega) hT) (by omega) ?_
      rintro M2 ⟨q1, q2⟩
      simp only [kb_X12_divides_171, w_ald_0, w_ic, w_iv1, tfr_0, tfr_1, tfr_2, tfr_3, tfr_4, w_re, true_and, and_true, Nat.reduceAdd, Nat.reduceSub, eq_self, tshm_14, tshm_31, tshm_32, tykm_31, tykm_32, tykm_14, tci_14, tci_15, tci_960]
      exact ⟨rfl, rfl, q1, Vr_E hV q2 (by decide), rE_tr hE (rE_mono q2 (fun r hr => Or.inl hr))⟩
    | succ k ih =>
      intro M1 v2 v3 v4 v5 v6 v7 hk hE hm hV hl
      generalize hO : X / pw (k + 1) % Y = O at hV
      have hOl : O < Y := by rw [← hO]; exact Nat.mod_lt _ hY
      have hdg := dg_lt X k
      obtain ⟨g3, g4⟩ := parts_dg (x := X) (b := Y) (k := k) hY
      rw [hO] at g3 g4
      generalize hR : O * 1000000000 + dg X k = R at g3 g4
      have hpw1 : pw 1 = 1000000000 := pw_1
      have hpw62 : pw 62 = pw 61 * 1000000000 := pw_s 61
      have q4 : R < (O + 1) * 1000000000 := row_lem hR hdg
      have hRl : R < Y * 1000000000 := Nat.lt_of_lt_of_le q4 (Nat.mul_le_mul_right _ hOl)
      have hYp : Y * 1000000000 ≤ pw 62 := by
        rw [hpw62]
        exact Nat.mul_le_mul_right _ (Nat.le_of_lt hY2)
      have hYq : Y * 1000000000 < pw 62 := by
        rw [hpw62]
        exact Nat.mul_lt_mul_of_pos_right hY2 (by decide)
      have hRp : R < pw 62 := Nat.lt_of_lt_of_le hRl hYp
      have hOq : O * pw 1 < pw 62 := by
        rw [hpw1]
        exact Nat.lt_of_le_of_lt (Nat.mul_le_mul_right _ (Nat.le_of_lt hOl)) hYq
      clear hpw62 hYp
      -- from the row R on
      have st2 : ∀ (M2 : tM), rE r234 M M2 → M2 666 2 = (m : Int) → Vr M2 3 R → (∀ i : Nat, k + 1 ≤ i → i < m → M2 665 (128 + (i : Int)) = ((dg (X / Y) i : Nat) : Int)) → ∀ (j lo hi : Nat) (M3 : tM) (v6 v7 : Option tV), hi - lo ≤ j → lo ≤ hi → hi ≤ 999999999 → Y * lo ≤ R → R < Y * (hi + 1) → rE (fun r => r = 4) M2 M3 → tT e d 3610 78 [some (.inr (.inr (.inl 664))), some (.inl (k : Int)), some (.inr (.inl (lo : Int))), none, some (.inr (.inl (hi : Int))), none, v6, v7] [] M3 n (tQn n (fun M' => Vr M' 2 (X / Y) ∧ Vr M' 3 (X % Y) ∧ rE r234 M M')) := by
        intro M2 hE2 hm2 hV2 hl2 j
        have fin : ∀ (lo : Nat) (M3 : tM) (v4 v5 v6 v7 : Option tV), lo ≤ 999999999 → Y * lo ≤ R → R < Y * (lo + 1) → rE (fun r => r = 4) M2 M3 → tT e d 3610 134 [some (.inr (.inr (.inl 664))), some (.inl (k : Int)), some (.inr (.inl (lo : Int))), none, v4, v5, v6, v7] [] M3 n (tQn n (fun M' => Vr M' 2 (X / Y) ∧ Vr M' 3 (X % Y) ∧ rE r234 M M')) := by
          intro lo M3 v4 v5 v6 v7 q1 q2 q3 hE3
          have hq : R / Y = lo := by
            refine Nat.div_eq_of_lt_le ?_ ?_
            · rw [Nat.mul_comm]
              exact q2
            · rw [Nat.mul_comm]
              exact q3
          have hq2 : R % Y = R - Y * lo := by
            have := Nat.div_add_mod R Y
            rw [hq] at this
            omega
          have hY3 := Vr_E (Vr_E hy hE2 (by decide)) hE3 (by decide)
          have hR3 := Vr_E hV2 hE3 (by decide)
          have st5 : ∀ (M5 : tM), rE (fun r => r = 3 ∨ r = 4) M2 M5 → Vr M5 3 (R % Y) → tT e d 3610 158 [some (.inr (.inr (.inl 664))), some (.inl (k : Int)), some (.inr (.inl (lo : Int))), none, v4, v5, v6, v7] [] M5 n (tQn n (fun M' => Vr M' 2 (X / Y) ∧ Vr M' 3 (X % Y) ∧ rE r234 M M')) := by
            intro M5 hE5 hV5
            refine tb_X12_divides_158 (c := false) ?_
            simp only [kb_X12_divides_158, w_ald_0, w_ic, w_ild_1, w_lld_2, w_iv3, tfr_0, tfr_1, tfr_2, tfr_3, tfr_4, w_inc1, tkl_n, tkl_i, tkl_l, tkl_r, w_goto, true_and, and_true, Nat.reduceAdd, Nat.reduceSub, eq_self, tshm_14, tshm_31, tshm_32, tykm_31, tykm_32, tykm_14, tci_14, tci_15, tci_960]
            refine tc_n (D := 0) (fun d' _ => c_lets (row := 2) (k := k) (by omega) (by omega)) (by omega) ?_
            rintro _ rfl
            simp only [kb_X12_divides_158, w_ald_0, w_ic, w_ild_1, w_lld_2, w_iv3, tfr_0, tfr_1, tfr_2, tfr_3, tfr_4, w_inc1, tkl_n, tkl_i, tkl_l, tkl_r, w_goto, true_and, and_true, Nat.reduceAdd, Nat.reduceSub, eq_self, tshm_14, tshm_31, tshm_32, tykm_31, tykm_32, tykm_14, tci_14, tci_15, tci_960]
            rw [show (k : Int) + -1 = (k : Int) - 1 by omega]
            have hE6 : rE (fun r => r = 2) M5 (tU M5 665 (64 * 2 + (k : Int)) (lo : Int)) := rE_l rfl (by omega)
            refine ih _ _ _ _ _ _ _ (by omega) (rE_tr (rE_tr hE2 (rE_mono hE5 (fun r hr => Or.inr hr))) (rE_mono hE6 (fun r hr => Or.inl hr))) ?_ ?_ (fun i hi1 hi2 => ?_)
            · rw [tU_nk (by decide), hE5.2.1 2 (by decide)]
              exact hm2
            · rw [← g4]
              exact Vr_E hV5 hE6 (by decide)
            · rw [tU_if]
              by_cases hik : i = k
              · rw [if_pos (by omega), hik, ← g3, hq]
              · rw [if_neg (by omega)]
                have := hE5.2.2 2 (i : Int) (by decide) (by omega) (by omega)
                rw [show 64 * 2 + (i : Int) = 128 + (i : Int) by omega] at this
                rw [this]
                exact hl2 i (by omega) hi2
          refine tb_X12_divides_134 (c := false) ?_
          simp only [kb_X12_divides_134, w_ald_0, w_ic, w_iv2, tfr_0, tfr_1, tfr_2, tfr_3, tfr_4, w_lld_2, w_lc0, w_lcmp, ne_eq, tlc_r, tlc_eq, tlc_lt, tlc_ge, tlc_gt, tlc_le, w_if_le, w_nil, true_and, and_true, Nat.reduceAdd, Nat.reduceSub, eq_self, tshm_14, tshm_31, tshm_32, tykm_31, tykm_32, tykm_14, tci_14, tci_15, tci_960]
          refine tc_n (D := 1) (fun d' hd' => c_copies (a := 1) (b := 4) (by omega) (by omega) (by omega) hY3 hd') (by omega) ?_
          rintro M4 ⟨p1, p2⟩
          simp only [kb_X12_divides_134, w_ald_0, w_ic, w_iv2, tfr_0, tfr_1, tfr_2, tfr_3, tfr_4, w_lld_2, w_lc0, w_lcmp, ne_eq, tlc_r, tlc_eq, tlc_lt, tlc_ge, tlc_gt, tlc_le, w_if_le, w_nil, true_and, and_true, Nat.reduceAdd, Nat.reduceSub, eq_self, tshm_14, tshm_31, tshm_32, tykm_31, tykm_32, tykm_14, tci_14, tci_15, tci_960]
          refine tc_n (D := 1) (fun d' hd' => c_scales (a := 4) (b := lo) (by omega) p1 (by omega) (by omega) hd') (by omega) ?_
          rintro M5 ⟨p3, p4⟩
          simp only [kb_X12_divides_134, w_ald_0, w_ic, w_iv2, tfr_0, tfr_1, tfr_2, tfr_3, tfr_4, w_lld_2, w_lc0, w_lcmp, ne_eq, tlc_r, tlc_eq, tlc_lt, tlc_ge, tlc_gt, tlc_le, w_if_le, w_nil, true_and, and_true, Nat.reduceAdd, Nat.reduceSub, eq_self, tshm_14, tshm_31, tshm_32, tykm_31, tykm_32, tykm_14, tci_14, tci_15, tci_960]
          have hE45 := rE_tr hE3 (rE_tr p2 p4)
          refine ⟨by omega, fun h => ?_, fun h => ?_⟩
          · have h0 : lo = 0 := by omega
            rw [h0, Nat.mul_zero, Nat.sub_zero] at hq2
            refine st5 M5 (rE_mono hE45 (fun r hr => Or.inr hr)) ?_
            rw [hq2]
            exact Vr_E hV2 hE45 (by decide)
          · refine tc_n (D := 1) (fun d' hd' => c_less (a := 3) (b := 4) (by omega) (by omega) (by omega) (Vr_E hV2 hE45 (by decide)) p3 q2 hd') (by omega) ?_
            rintro M6 ⟨p5, p6⟩
            refine st5 M6 (rE_tr (rE_mono hE45 (fun r hr => Or.inr hr)) (rE_mono p6 (fun r hr => Or.inl hr))) ?_
            rw [hq2]
            exact p5
        induction j with
        | zero =>
          intro lo hi M3 v6 v7 q1 q2 q3 q4 q5 hE3
          refine tb_X12_divides_78 (c := false) ?_
          simp only [kb_X12_divides_78, w_lld_2, w_lld4, w_lcmp, ne_eq, tlc_r, tlc_eq, tlc_lt, tlc_ge, tlc_gt, tlc_le, w_if_ge, w_ladd, tw_f, w_lc1, w_ld2, w_ldiv, w_lst6, tkl_n, tkl_i, tkl_l, tkl_r, w_ald_0, w_ic, w_iv2, tfr_0, tfr_1, tfr_2, tfr_3, tfr_4, w_lld6, w_if_gt, w_lst_2, w_goto, true_and, and_true, Nat.reduceAdd, Nat.reduceSub, eq_self, tshm_14, tshm_31, tshm_32, tykm_31, tykm_32, tykm_14, tci_14, tci_15, tci_960]
          refine ⟨by omega, fun _ => ?_, fun h => by omega⟩
          rw [show hi = lo by omega] at q5 ⊢
          exact fin lo M3 _ _ _ _ (by omega) q4 q5 hE3
        | succ j ih2 =>
          intro lo hi M3 v6 v7 q1 q2 q3 q4 q5 hE3
          refine tb_X12_divides_78 (c := false) ?_
          simp only [kb_X12_divides_78, w_lld_2, w_lld4, w_lcmp, ne_eq, tlc_r, tlc_eq, tlc_lt, tlc_ge, tlc_gt, tlc_le, w_if_ge, w_ladd, tw_f, w_lc1, w_ld2, w_ldiv, w_lst6, tkl_n, tkl_i, tkl_l, tkl_r, w_ald_0, w_ic, w_iv2, tfr_0, tfr_1, tfr_2, tfr_3, tfr_4, w_lld6, w_if_gt, w_lst_2, w_goto, true_and, and_true, Nat.reduceAdd, Nat.reduceSub, eq_self, tshm_14, tshm_31, tshm_32, tykm_31, tykm_32, tykm_14, tci_14, tci_15, tci_960]
          refine ⟨by omega, fun _ => ?_, fun h => ?_⟩
          · rw [show hi = lo by omega] at q5 ⊢
            exact fin lo M3 _ _ _ _ (by omega) q4 q5 hE3
          · rw [show (lo : Int) + (hi : Int) + 1 = ((lo + hi + 1 : Nat) : Int) by omega, tdiv_2]
            have hY3 := Vr_E (Vr_E hy hE2 (by decide)) hE3 (by decide)
            generalize hmid : (lo + hi + 1) / 2 = mid
            have hmb : Y * mid < pw 62 := by
              have t0 : mid ≤ 1000000000 := by omega
              exact Nat.lt_of_le_of_lt (Nat.mul_le_mul_left _ t0) hYq
            refine ⟨by omega, ?_⟩
            refine tc_n (D := 1) (fun d' hd' => c_copies (a := 1) (b := 4) (by omega) (by omega) (by omega) hY3 hd') (by omega) ?_
            rintro M4 ⟨p1, p2⟩
            simp only [kb_X12_divides_78, w_lld_2, w_lld4, w_lcmp, ne_eq, tlc_r, tlc_eq, tlc_lt, tlc_ge, tlc_gt, tlc_le, w_if_ge, w_ladd, tw_f, w_lc1, w_ld2, w_ldiv, w_lst6, tkl_n, tkl_i, tkl_l, tkl_r, w_ald_0, w_ic, w_iv2, tfr_0, tfr_1, tfr_2, tfr_3, tfr_4, w_lld6, w_if_gt, w_lst_2, w_goto, true_and, and_true, Nat.reduceAdd, Nat.reduceSub, eq_self, tshm_14, tshm_31, tshm_32, tykm_31, tykm_32, tykm_14, tci_14, tci_15, tci_960]
            refine tc_n (D := 1) (fun d' hd' => c_scales (a := 4) (b := mid) (by omega) p1 (by omega) hmb hd') (by omega) ?_
            rintro M5 ⟨p3, p4⟩
            simp only [kb_X12_divides_78, w_lld_2, w_lld4, w_lcmp, ne_eq, tlc_r, tlc_eq, tlc_lt, tlc_ge, tlc_gt, tlc_le, w_if_ge, w_ladd, tw_f, w_lc1, w_ld2, w_ldiv, w_lst6, tkl_n, tkl_i, tkl_l, tkl_r, w_ald_0, w_ic, w_iv2, tfr_0, tfr_1, tfr_2, tfr_3, tfr_4, w_lld6, w_if_gt, w_lst_2, w_goto, true_and, and_true, Nat.reduceAdd, Nat.reduceSub, eq_self, tshm_14, tshm_31, tshm_32, tykm_31, tykm_32, tykm_14, tci_14, tci_15, tci_960]
            have hE45 := rE_tr hE3 (rE_tr p2 p4)
            refine tc_i (D := 1) (fun d' hd' => c_compares (a := 4) (b := 3) (by omega) (by omega) p3 (Vr_E hV2 hE45 (by decide)) hd') (by omega) ?_
            rintro _ _ ⟨rfl, rfl⟩
            simp only [kb_X12_divides_78, w_lld_2, w_lld4, w_lcmp, ne_eq, tlc_r, tlc_eq, tlc_lt, tlc_ge, tlc_gt, tlc_le, w_if_ge, w_ladd, tw_f, w_lc1, w_ld2, w_ldiv, w_lst6, tkl_n, tkl_i, tkl_l, tkl_r, w_ald_0, w_ic, w_iv2, tfr_0, tfr_1, tfr_2, tfr_3, tfr_4, w_lld6, w_if_gt, w_lst_2, w_goto, true_and, and_true, Nat.reduceAdd, Nat.reduceSub, eq_self, tshm_14, tshm_31, tshm_32, tykm_31, tykm_32, tykm_14, tci_14, tci_15, tci_960]
            have hc1 := cmpv_r (Y * mid) R
            have hc2 := cmpv_gt (Y * mid) R
            refine ⟨by omega, fun h7 => ?_, fun h7 => ?_⟩
            · refine tb_X12_divides_125 (c := false) ?_
              simp only [kb_X12_divides_125, w_lld6, w_lc1, w_lsub, tw_f, w_lst4, tkl_n, tkl_i, tkl_l, tkl_r, w_nil, true_and, and_true, Nat.reduceAdd, Nat.reduceSub, eq_self]
              refine tb_X12_divides_131 (c := false) ?_
              simp only [kb_X12_divides_131, w_goto, true_and, and_true, Nat.reduceAdd, Nat.reduceSub, eq_self]
              rw [show (mid : Int) - 1 = ((mid - 1 : Nat) : Int) by omega]
              refine ih2 lo (mid - 1) M5 _ _ (by omega) (by omega) (by omega) q4 ?_ hE45
              rw [show mid - 1 + 1 = mid by omega]
              exact hc2.mp h7
            · refine tb_X12_divides_131 (c := false) ?_
              simp only [kb_X12_divides_131, w_goto, true_and, and_true, Nat.reduceAdd, Nat.reduceSub, eq_self]
              exact ih2 mid hi M5 _ _ (by omega) (by omega) q3 (by omega) q5 hE45
      -- the row R is made
      have st54 : ∀ (M2 : tM), rE r234 M M2 → M2 666 2 = (m : Int) → (∀ i : Nat, k + 1 ≤ i → i < m → M2 665 (128 + (i : Int)) = ((dg (X / Y) i : Nat) : Int)) → ∀ mm : Nat, Dr (tU M2 665 (64 * 3 + 0) ((dg X k : Nat) : Int)) 3 mm R → tT e d 3610 54 [some (.inr (.inr (.inl 664))), some (.inl (k : Int)), v2, v3, v4, v5, v6, v7] [] M2 n (tQn n (fun M' => Vr M' 2 (X / Y) ∧ Vr M' 3 (X % Y) ∧ rE r234 M M')) := by
        intro M2 hE2 hm2 hl2 mm hD2
        refine tb_X12_divides_54 (c := false) ?_
        simp only [kb_X12_divides_54, w_ald_0, w_ic, w_ild_1, w_iv2, tfr_0, tfr_1, tfr_2, tfr_3, tfr_4, w_iv3, w_iv1, w_lc0, w_lst_2, tkl_n, tkl_i, tkl_l, tkl_r, w_ld2, w_lst4, w_nil, true_and, and_true, Nat.reduceAdd, Nat.reduceSub, eq_self, tshm_14, tshm_31, tshm_32, tykm_31, tykm_32, tykm_14, tci_14, tci_15, tci_960]
        refine tc_l (D := 0) (fun d' _ => c_limb (row := 0) (k := k) (by omega) (Dr_E hD hE2 (by decide)) (by omega)) (by omega) ?_
        rintro _ _ ⟨rfl, rfl⟩
        simp only [kb_X12_divides_54, w_ald_0, w_ic, w_ild_1, w_iv2, tfr_0, tfr_1, tfr_2, tfr_3, tfr_4, w_iv3, w_iv1, w_lc0, w_lst_2, tkl_n, tkl_i, tkl_l, tkl_r, w_ld2, w_lst4, w_nil, true_and, and_true, Nat.reduceAdd, Nat.reduceSub, eq_self, tshm_14, tshm_31, tshm_32, tykm_31, tykm_32, tykm_14, tci_14, tci_15, tci_960]
        refine tc_n (D := 0) (fun d' _ => c_lets (row := 3) (k := 0) (by omega) (by omega)) (by omega) ?_
        rintro _ rfl
        simp only [kb_X12_divides_54, w_ald_0, w_ic, w_ild_1, w_iv2, tfr_0, tfr_1, tfr_2, tfr_3, tfr_4, w_iv3, w_iv1, w_lc0, w_lst_2, tkl_n, tkl_i, tkl_l, tkl_r, w_ld2, w_lst4, w_nil, true_and, and_true, Nat.reduceAdd, Nat.reduceSub, eq_self, tshm_14, tshm_31, tshm_32, tykm_31, tykm_32, tykm_14, tci_14, tci_15, tci_960]
        refine tc_n (D := 0) (fun d' _ => c_trims (row := 3) (by omega) hD2) (by omega) ?_
        rintro M3 ⟨p1, p2⟩
        simp only [kb_X12_divides_54, w_ald_0, w_ic, w_ild_1, w_iv2, tfr_0, tfr_1, tfr_2, tfr_3, tfr_4, w_iv3, w_iv1, w_lc0, w_lst_2, tkl_n, tkl_i, tkl_l, tkl_r, w_ld2, w_lst4, w_nil, true_and, and_true, Nat.reduceAdd, Nat.reduceSub, eq_self, tshm_14, tshm_31, tshm_32, tykm_31, tykm_32, tykm_14, tci_14, tci_15, tci_960]
        have hE3 : rE (fun r => r = 3) M2 M3 := rE_tr (rE_l rfl (by omega)) p2
        refine st2 M3 (rE_tr hE2 (rE_mono hE3 (fun r hr => Or.inr (Or.inl hr)))) ((hE3.2.1 2 (by decide)).trans hm2) p1 (fun i hi1 hi2 => ?_) 999999999 0 999999999 M3 _ _ (by omega) (by omega) (by omega) (by omega) (by omega) rE_refl
        have := hE3.2.2 2 (i : Int) (by decide) (by omega) (by omega)
        rw [show 64 * 2 + (i : Int) = 128 + (i : Int) by omega] at this
        rw [this]
        exact hl2 i hi1 hi2
      rw [show (((k + 1 : Nat) : Int) - 1) = (k : Int) by omega]
      refine tb_X12_divides_28 (c := false) ?_
      simp only [kb_X12_divides_28, w_ild_1, w_if_lt, w_ald_0, w_ic, w_iv2, tfr_0, tfr_1, tfr_2, tfr_3, tfr_4, w_gf_14_1, tw_f, w_ia, w_iax, w_if_ne, w_ias, ne_eq, eq_self, not_true_eq_false, false_implies, w_nil, true_and, and_true, Nat.reduceAdd, Nat.reduceSub, eq_self, tshm_14, tshm_31, tshm_32, tykm_31, tykm_32, tykm_14, tci_14, tci_15, tci_960]
      refine ⟨by omega, fun h => by omega, fun _ => ?_⟩
      refine tc_n (D := 1) (fun d' hd' => c_shl (a := 3) (b := 1) (by omega) hV (by omega) hOq hd') (by omega) ?_
      rintro M2 ⟨p1, p2⟩
      simp only [kb_X12_divides_28, w_ild_1, w_if_lt, w_ald_0, w_ic, w_iv2, tfr_0, tfr_1, tfr_2, tfr_3, tfr_4, w_gf_14_1, tw_f, w_ia, w_iax, w_if_ne, w_ias, ne_eq, eq_self, not_true_eq_false, false_implies, w_nil, true_and, and_true, Nat.reduceAdd, Nat.reduceSub, eq_self, tshm_14, tshm_31, tshm_32, tykm_31, tykm_32, tykm_14, tci_14, tci_15, tci_960]
      have hE2 := rE_tr hE (rE_mono p2 (fun r hr => Or.inr (Or.inl hr)))
      have hm2 : M2 666 2 = (m : Int) := (p2.2.1 2 (by decide)).trans hm
      have hl2 : ∀ i : Nat, k + 1 ≤ i → i < m → M2 665 (128 + (i : Int)) = ((dg (X / Y) i : Nat) : Int) := fun i hi1 hi2 => by
        have := p2.2.2 2 (i : Int) (by decide) (by omega) (by omega)
        rw [show 64 * 2 + (i : Int) = 128 + (i : Int) by omega] at this
        rw [this]
        exact hl i hi1 hi2
      obtain ⟨mm, p3, p4⟩ := p1
      rw [hpw1] at p3 p4
      have p5 := p3.1
      have p6 := p3.2.1
      refine ⟨by omega, by omega, fun h => ?_, fun h => ⟨by omega, ?_⟩⟩
      · have hmm0 : mm ≠ 0 := by omega
        refine st54 M2 hE2 hm2 hl2 mm ⟨by rw [tU_nk (by decide)]; exact p5, p6, ?_, fun i hi => ?_⟩
        · have q1 := p3.2.2.1
          obtain ⟨w, rfl⟩ : ∃ w, mm = w + 1 := ⟨mm - 1, by omega⟩
          rw [pw_s] at q1 ⊢
          have q2 : O < pw w := Nat.lt_of_mul_lt_mul_right q1
          have q3 : (O + 1) * 1000000000 ≤ pw w * 1000000000 := Nat.mul_le_mul_right _ q2
          exact Nat.lt_of_lt_of_le q4 q3
        · rw [tU_if]
          rcases Nat.eq_zero_or_pos i with hi0 | hi0
          · rw [if_pos (by omega), hi0, ← hR, dg_a0 hdg]
          · rw [if_neg (by omega), p3.2.2.2 i hi, ← hR]
            obtain ⟨w, rfl⟩ : ∃ w, i = w + 1 := ⟨i - 1, by omega⟩
            rw [dg_a1 hdg]
            rw [dg_a2]
      · have hO0 : O = 0 := by
          have q1 := p3.2.2.1
          rw [show mm = 0 by omega, pw_0] at q1
          omega
        have hE3 : rE (fun r => r = 3) M2 (tU M2 666 3 1) := rE_m rfl
        refine st54 _ (rE_tr hE2 (rE_mono hE3 (fun r hr => Or.inr (Or.inl hr)))) ((hE3.2.1 2 (by decide)).trans hm2) (fun i hi1 hi2 => by rw [tU_nk (by decide)]; exact hl2 i hi1 hi2) 1 ⟨by rw [tU_nk (by decide), tU_eq]; rfl, by omega, by rw [hpw1]; omega, fun i hi => ?_⟩
        rw [tU_if, if_pos (by omega), ← hR, show i = 0 by omega, dg_a0 hdg]
  refine tst_X12_divides ?_
  refine tb_X12_divides_0 (c := false) ?_
  simp only [kb_X12_divides_0, w_ald_0, w_gf_14_1, tw_f, w_ic, w_ias, ne_eq, eq_self, not_true_eq_false, false_implies, w_ia, w_iax, w_isub, w_ist_1, tkl_n, tkl_i, tkl_l, tkl_r, w_nil, true_and, and_true, Nat.reduceAdd, Nat.reduceSub, eq_self, tshm_14, tshm_31, tshm_32, tykm_31, tykm_32, tykm_14, tci_14, tci_15, tci_960]
  have e1 : tU M 666 3 0 666 0 = (m : Int) := (tU_ni (by decide)).trans h1
  rw [e1]
  have e2 : tU (tU M 666 3 0) 666 2 (m : Int) 666 0 = (m : Int) := (tU_ni (by decide)).trans e1
  rw [e2]
  refine ⟨by omega, by omega, by omega, by omega, ?_⟩
  refine loop m _ _ _ _ _ _ _ (Nat.le_refl _) (rE_tr (rE_m (Or.inr (Or.inl rfl))) (rE_m (Or.inl rfl))) (tU_eq ..) ?_ (fun i hi1 hi2 => by omega)
  rw [Nat.div_eq_of_lt h5, Nat.zero_mod]
  exact ⟨0, ⟨by rw [tU_ni (by decide), tU_eq]; rfl, by omega, pw_pos 0, fun i hi => absurd hi (Nat.not_lt_zero _)⟩, Or.inl rfl⟩
end MODEL
