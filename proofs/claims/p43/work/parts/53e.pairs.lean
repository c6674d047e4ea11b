/-! THE MODEL: products and quotients of bounds. -/
/-- divided, down or up -/
def rdv (up p q : Int) : Int := if up = 0 then p / q else -((-p) / q)
theorem rdv_nat {p : Int} {q : Nat} {hm ib up : Int} (hq : 0 < q) (hhm : hm = (if p.natAbs % q = 0 then 0 else 1)) (hib : ib = 1 ∧ p ≤ 0 ∨ ib = 0 ∧ 0 ≤ p) (hup : up = 0 ∨ up = 1) : (if ib = 1 then -((tlu (p.natAbs / q) hm ib up : Nat) : Int) else ((tlu (p.natAbs / q) hm ib up : Nat) : Int)) = rdv up p (q : Int) := by
  have hq0 : (0 : Int) < (q : Int) := by omega
  generalize hP : p.natAbs = P at *
  have e1 := Nat.div_add_mod P q
  have e2 := Nat.mod_lt P hq
  generalize ht : P / q = t at *
  generalize hr : P % q = r at *
  have cm : (q : Int) * (t : Int) + (r : Int) = (P : Int) := by rw [← Int.natCast_mul]; omega
  -- p / q and (-p) / q
  have dv : ∀ (v w s : Int), v = (q : Int) * w + s → 0 ≤ s → s < (q : Int) → v / (q : Int) = w := by
    intro v w s h1 h2 h3
    rw [h1, Int.add_comm, Int.add_mul_ediv_left _ _ (by omega), Int.ediv_eq_zero_of_lt h2 h3, Int.zero_add]
  unfold rdv tlu
  rcases hib with ⟨rfl, hp⟩ | ⟨rfl, hp⟩
  · have hpp : p = -(P : Int) := by omega
    rw [if_pos rfl]
    rcases hup with rfl | rfl
    · rw [if_pos rfl]
      by_cases h0 : r = 0
      · rw [if_pos h0] at hhm
        rw [if_neg (by omega), dv p (-(t : Int)) 0 (by rw [Int.mul_neg]; omega) (by omega) (by omega)]
        omega
      · rw [if_neg h0] at hhm
        rw [if_pos ⟨hhm, by decide⟩, dv p (-((t : Int) + 1)) ((q : Int) - r) (by rw [Int.mul_neg, Int.mul_add]; omega) (by omega) (by omega)]
        omega
    · rw [if_neg (show ¬ ((1 : Int) = 0) by decide), if_neg (by omega), dv (-p) (t : Int) (r : Int) (by omega) (by omega) (by omega)]
      omega
  · have hpp : p = (P : Int) := by omega
    rw [if_neg (show ¬ ((0 : Int) = 1) by decide)]
    rcases hup with rfl | rfl
    · rw [if_pos rfl, if_neg (by omega), dv p (t : Int) (r : Int) (by omega) (by omega) (by omega)]
      omega
    · rw [if_neg (show ¬ ((1 : Int) = 0) by decide)]
      by_cases h0 : r = 0
      · rw [if_pos h0] at hhm
        rw [if_neg (by omega), dv (-p) (-(t : Int)) 0 (by rw [Int.mul_neg]; omega) (by omega) (by omega)]
        omega
      · rw [if_neg h0] at hhm
        rw [if_pos ⟨hhm, by decide⟩, dv (-p) (-((t : Int) + 1)) ((q : Int) - r) (by rw [Int.mul_neg, Int.mul_add]; omega) (by omega) (by omega)]
        omega
def sgn (y : Int) : Int := if y < 0 then -1 else 1
/-- what a pair of bounds makes: their product, or their quotient -/
noncomputable def pr (D : Nat) (iq up x y : Int) : Int := if iq = 0 then uu D * rdv up (x * y) ((tn (20 - D) : Nat) : Int) else uu D * rdv up (x * ((tn D : Nat) : Int) * sgn y) ((y.natAbs : Nat) : Int)
abbrev rPr : Int → Prop := fun r => r = 0 ∨ r = 1 ∨ r = 2 ∨ r = 3 ∨ r = 4 ∨ r = 5 ∨ r = 14
def sel (h l u : Int) : Int := if h = 0 then l else u
theorem pw_60b : (90000000000000000000000000000000000000000000000000000000000000000000000000000000 : Nat) < pw 60 := by
  have h : pw 10 ≤ pw 60 := pw_mono (by decide)
  rw [pw_def 10] at h
  exact Nat.lt_of_lt_of_le (by decide) h
theorem tn_20 : tn 20 = 100000000000000000000 := (tn_def 20).trans (by decide)
section MODEL
variable {e : tE} {d n : Nat} {M : tM}
set_option maxRecDepth 4000 in
theorem c_pair {a hA b hB iq up : Int} {D : Nat} (hdg : M 664 2 = (D : Int)) (hD : D ≤ 10) (ha : 0 ≤ a ∧ a < 700) (hb : 0 ≤ b ∧ b < 700) (hca : bcan M a) (hcb : bcan M b) (hhA : hA = 0 ∨ hA = 1) (hhB : hB = 0 ∨ hB = 1) (hiq : iq = 0 ∨ iq = 1) (hup : up = 0 ∨ up = 1) (hy0 : iq = 1 → sel hB (zlo M b) (zhi M b) ≠ 0) (hd : 4 ≤ d) :
    tC e d 3673 [.inr (.inr (.inl 664)), .inl a, .inl hA, .inl b, .inl hB, .inl iq, .inl up] M n (tQi n (fun z M' => (z = 1 ∧ zb M' = pr D iq up (sel hA (zlo M a) (zhi M a)) (sel hB (zlo M b) (zhi M b)) ∧ (-10000000000000000000000 < zb M' ∧ zb M' < 10000000000000000000000) ∧ cb M' ∨ z = 0) ∧ rU rPr M M')) := by
  obtain ⟨⟨h1, h2⟩, h3, h4⟩ := hca
  obtain ⟨⟨g1, g2⟩, g3, g4⟩ := hcb
  -- all four longs are there
  have core : ∀ (u l v k fb : Int), 0 ≤ l ∧ l < 1000000000 → 0 ≤ k ∧ k < 1000000000 → -30000000000000000000000 ≤ u * 1000000000 + l ∧ u * 1000000000 + l ≤ 30000000000000000000000 → -30000000000000000000000 ≤ v * 1000000000 + k ∧ v * 1000000000 + k ≤ 30000000000000000000000 → (iq = 1 → v * 1000000000 + k ≠ 0) → (fb = 1 ∧ (u * 1000000000 + l < 0 ∧ 0 < v * 1000000000 + k ∨ 0 < u * 1000000000 + l ∧ v * 1000000000 + k < 0) ∨ fb = 0 ∧ ¬ (u * 1000000000 + l < 0 ∧ 0 < v * 1000000000 + k ∨ 0 < u * 1000000000 + l ∧ v * 1000000000 + k < 0)) →
      tT e d 3673 146 [some (.inr (.inr (.inl 664))), some (.inl a), some (.inl hA), some (.inl b), some (.inl hB), some (.inl iq), some (.inl up), some (.inr (.inl u)), none, some (.inr (.inl l)), none, some (.inr (.inl v)), none, some (.inr (.inl k)), none, none, none] [.inl fb] M n (tQi n (fun z M' => (z = 1 ∧ zb M' = pr D iq up (u * 1000000000 + l) (v * 1000000000 + k) ∧ (-10000000000000000000000 < zb M' ∧ zb M' < 10000000000000000000000) ∧ cb M' ∨ z = 0) ∧ rU rPr M M')) := by
    intro u l v k fb hl hk hx hy hyn hfb
    generalize hX : u * 1000000000 + l = x at *
    generalize hY : v * 1000000000 + k = y at *
    have hfb01 : fb = 0 ∨ fb = 1 := by omega
    refine tb_X12_pair_146 (c := false) ?_
    simp only [kb_X12_pair_146, w_ist15, tkl_n, tkl_i, tkl_l, tkl_r, w_ald_0, w_ic, w_lld7, w_lld9, w_iv3, tfr_0, tfr_1, tfr_2, tfr_3, tfr_4, w_lld11, w_lld13, w_ild5, w_if_eq, w_gf_14_2, tw_f, w_iv2, w_ist16, w_iv0, w_gf_14_1, w_ia, w_iax, w_if_le, w_goto, true_and, and_true, Nat.reduceAdd, Nat.reduceSub, eq_self, tshm_14, tshm_31, tshm_32, tykm_31, tykm_32, tykm_14, tci_14, tci_15, tci_960, tshm_667, tshm_668, tshm_669, tshm_670, tykm_33, tci_700]
    refine tc_n (D := 2) (fun d' hd' => c_size (row := 0) (by omega) hl (by omega) hd') (by omega) ?_
    rintro M1 ⟨q1, q2⟩
    rw [hX] at q1
    try simp only [kb_X12_pair_146, w_ist15, tkl_n, tkl_i, tkl_l, tkl_r, w_ald_0, w_ic, w_lld7, w_lld9, w_iv3, tfr_0, tfr_1, tfr_2, tfr_3, tfr_4, w_lld11, w_lld13, w_ild5, w_if_eq, w_gf_14_2, tw_f, w_iv2, w_ist16, w_iv0, w_gf_14_1, w_ia, w_iax, w_if_le, w_goto, true_and, and_true, Nat.reduceAdd, Nat.reduceSub, eq_self, tshm_14, tshm_31, tshm_32, tykm_31, tykm_32, tykm_14, tci_14, tci_15, tci_960, tshm_667, tshm_668, tshm_669, tshm_670, tykm_33, tci_700]
    refine tc_n (D := 2) (fun d' hd' => c_size (row := 1) (by omega) hk (by omega) hd') (by omega) ?_
    rintro M2 ⟨q3, q4⟩
    rw [hY] at q3
    try simp only [kb_X12_pair_146, w_ist15, tkl_n, tkl_i, tkl_l, tkl_r, w_ald_0, w_ic, w_lld7, w_lld9, w_iv3, tfr_0, tfr_1, tfr_2, tfr_3, tfr_4, w_lld11, w_lld13, w_ild5, w_if_eq, w_gf_14_2, tw_f, w_iv2, w_ist16, w_iv0, w_gf_14_1, w_ia, w_iax, w_if_le, w_goto, true_and, and_true, Nat.reduceAdd, Nat.reduceSub, eq_self, tshm_14, tshm_31, tshm_32, tykm_31, tykm_32, tykm_14, tci_14, tci_15, tci_960, tshm_667, tshm_668, tshm_669, tshm_670, tykm_33, tci_700]
    have q5 := Vr_E q1 q4 (by decide)
    have r2 : rU rPr M M2 := rU_tr (rU_rm q2 (fun r hr => Or.inl hr)) (rU_rm q4 (fun r hr => Or.inr (Or.inl hr)))
    have hdg2 : M2 664 2 = (D : Int) := (rU_d r2).trans hdg
    have hXb : x.natAbs ≤ 30000000000000000000000 := by omega
    have hYb : y.natAbs ≤ 30000000000000000000000 := by omega
    have h60 := pw_60b
    have h6061 : pw 60 < pw 61 := pw_lt (by decide)
    have h6162 : pw 61 < pw 62 := pw_lt (by decide)
    have fin : ∀ (M3 : tM) (row hm : Int) (t : Nat) (p : Int) (q : Nat) (z4 : Int), rU rPr M M3 → (row = 0 ∨ row = 2) → Vr M3 row t → t = p.natAbs / q → 0 < q → hm = (if p.natAbs % q = 0 then 0 else 1) → (fb = 1 ∧ p < 0 ∨ fb = 0 ∧ 0 ≤ p) → uu D * rdv up p (q : Int) = pr D iq up x y → t ≤ 900000000000000000000000000000000000000000000 →
        ∀ d', 3 ≤ d' → tC e d' 3719 [.inr (.inr (.inl 664)), .inl row, .inl hm, .inl fb, .inl up] M3 n (tQi n (fun z M' => (z = 1 ∧ zb M' = pr D iq up x y ∧ (-10000000000000000000000 < zb M' ∧ zb M' < 10000000000000000000000) ∧ cb M' ∨ z = 0) ∧ rU rPr M M')) := by
      intro M3 row hm t p q z4 w1 w2 w3 w4 w5 w6 w7 w8 w9 d' hd'
      have hhm : hm = 0 ∨ hm = 1 := by rw [w6]; split <;> omega
      have hs : (t + 1) * tn 10 < pw 60 := by
        rw [tn_10]
        omega
      refine tC_mono (c_tells (t := t) (D := D) (by omega) w3 ((rU_d w1).trans hdg) hD hhm hfb01 hup hs hd') ?_
      rintro r M' n' ⟨z, s1, s2, s3, s4⟩
      refine ⟨z, s1, s2, ?_, rU_tr w1 (rU_mono s4 (fun r hr => by omega))⟩
      rcases s3 with ⟨s5, s6, s7, s8⟩ | ⟨s5, -⟩
      · left
        have key := rdv_nat (p := p) (ib := fb) w5 w6 (by omega) hup
        rw [← w4] at key
        have e9 : zb M' = uu D * rdv up p (q : Int) := by
          rw [s7, ← key]
          unfold uu
          split
          · rw [Int.natCast_mul, Int.mul_neg, Int.mul_comm]
          · rw [Int.natCast_mul, Int.mul_comm]
        refine ⟨s5, e9.trans w8, ?_, s8⟩
        rw [s7]
        split <;> omega
      · exact Or.inr s5
    refine ⟨by omega, fun hq => ?_, fun hq => ?_⟩
    · -- the product
      refine tb_X12_pair_210 (c := false) ?_
      simp only [kb_X12_pair_210, w_ald_0, w_ic, w_iv2, tfr_0, tfr_1, tfr_2, tfr_3, tfr_4, w_gf_14_2, tw_f, w_bi, w_isub, w_ist16, tkl_n, tkl_i, tkl_l, tkl_r, w_ild16, w_ild15, w_ild6, w_iv4, w_ire, trg, true_and, and_true, Nat.reduceAdd, Nat.reduceSub, eq_self, tshm_14, tshm_31, tshm_32, tykm_31, tykm_32, tykm_14, tci_14, tci_15, tci_960, tshm_667, tshm_668, tshm_669, tshm_670, tykm_33, tci_700]
      have hxy : x.natAbs * y.natAbs ≤ 30000000000000000000000 * 30000000000000000000000 := Nat.mul_le_mul hXb hYb
      refine tc_n (D := 2) (fun d' hd' => c_times (a := 0) (b := 1) (by omega) (by omega) (by omega) (by omega) q5 q3 (by omega) hd') (by omega) ?_
      rintro M3 ⟨p1, p2⟩
      try simp only [kb_X12_pair_210, w_ald_0, w_ic, w_iv2, tfr_0, tfr_1, tfr_2, tfr_3, tfr_4, w_gf_14_2, tw_f, w_bi, w_isub, w_ist16, tkl_n, tkl_i, tkl_l, tkl_r, w_ild16, w_ild15, w_ild6, w_iv4, w_ire, trg, true_and, and_true, Nat.reduceAdd, Nat.reduceSub, eq_self, tshm_14, tshm_31, tshm_32, tykm_31, tykm_32, tykm_14, tci_14, tci_15, tci_960, tshm_667, tshm_668, tshm_669, tshm_670, tykm_33, tci_700]
      have r3 : rU rPr M M3 := rU_tr r2 (rU_rm p2 (fun r hr => by omega))
      rw [(rU_d r3).trans hdg, show (D : Int) - 20 = -((20 - D : Nat) : Int) by omega]
      refine tc_i (D := 2) (fun d' hd' => c_tensd (a := 0) (b := 20 - D) (by omega) p1 (by omega) hd') (by omega) ?_
      rintro hm M4 ⟨p3, p4, p5⟩
      try simp only [kb_X12_pair_210, w_ald_0, w_ic, w_iv2, tfr_0, tfr_1, tfr_2, tfr_3, tfr_4, w_gf_14_2, tw_f, w_bi, w_isub, w_ist16, tkl_n, tkl_i, tkl_l, tkl_r, w_ild16, w_ild15, w_ild6, w_iv4, w_ire, trg, true_and, and_true, Nat.reduceAdd, Nat.reduceSub, eq_self, tshm_14, tshm_31, tshm_32, tykm_31, tykm_32, tykm_14, tci_14, tci_15, tci_960, tshm_667, tshm_668, tshm_669, tshm_670, tykm_33, tci_700]
      have r4 : rU rPr M M4 := rU_tr r3 (rU_rm p5 (fun r hr => Or.inl hr))
      have hp : (x * y).natAbs = x.natAbs * y.natAbs := Int.natAbs_mul x y
      rw [← hp] at p3 p4 hxy
      refine tc_i (D := 3) (fin M4 0 hm _ (x * y) (tn (20 - D)) 0 r4 (Or.inl rfl) p4 rfl (tn_pos _) p3 ?_ ?_ ?_) (by omega) ?_
      · rcases hfb with ⟨rfl, hf⟩ | ⟨rfl, hf⟩
        · left
          refine ⟨rfl, ?_⟩
          rcases hf with ⟨f1, f2⟩ | ⟨f1, f2⟩
          · exact Int.mul_neg_of_neg_of_pos f1 f2
          · exact Int.mul_neg_of_pos_of_neg f1 f2
        · right
          refine ⟨rfl, ?_⟩
          rcases (show x < 0 ∨ 0 ≤ x by omega) with f1 | f1
          · exact Int.mul_nonneg_of_nonpos_of_nonpos (by omega) (by omega)
          · rcases (show y < 0 ∨ 0 ≤ y by omega) with f2 | f2
            · rw [show x = 0 by omega, Int.zero_mul]
              omega
            · exact Int.mul_nonneg f1 f2
      · unfold pr
        rw [if_pos hq]
      · refine Nat.le_trans (Nat.div_le_self _ _) ?_
        omega
      · rintro z M5 ⟨s1, s2⟩
        try simp only [kb_X12_pair_210, w_ald_0, w_ic, w_iv2, tfr_0, tfr_1, tfr_2, tfr_3, tfr_4, w_gf_14_2, tw_f, w_bi, w_isub, w_ist16, tkl_n, tkl_i, tkl_l, tkl_r, w_ild16, w_ild15, w_ild6, w_iv4, w_ire, trg, true_and, and_true, Nat.reduceAdd, Nat.reduceSub, eq_self, tshm_14, tshm_31, tshm_32, tykm_31, tykm_32, tykm_14, tci_14, tci_15, tci_960, tshm_667, tshm_668, tshm_669, tshm_670, tykm_33, tci_700]
        exact ⟨by omega, _, rfl, rfl, s1, s2⟩
    · -- the quotient
      have hq1 : iq = 1 := by omega
      have hyn0 := hyn hq1
      rw [hdg2]
      have htD : tn D ≤ 10000000000 := by
        have := tn_mono hD
        rwa [tn_10] at this
      have hxD : x.natAbs * tn D ≤ 30000000000000000000000 * 10000000000 := Nat.mul_le_mul hXb htD
      refine tc_i (D := 2) (fun d' hd' => c_tens (a := 0) (b := D) (by omega) q5 (by omega) (by omega) hd') (by omega) ?_
      rintro z3 M3 ⟨-, p1, p2⟩
      try simp only [kb_X12_pair_146, w_ist15, tkl_n, tkl_i, tkl_l, tkl_r, w_ald_0, w_ic, w_lld7, w_lld9, w_iv3, tfr_0, tfr_1, tfr_2, tfr_3, tfr_4, w_lld11, w_lld13, w_ild5, w_if_eq, w_gf_14_2, tw_f, w_iv2, w_ist16, w_iv0, w_gf_14_1, w_ia, w_iax, w_if_le, w_goto, true_and, and_true, Nat.reduceAdd, Nat.reduceSub, eq_self, tshm_14, tshm_31, tshm_32, tykm_31, tykm_32, tykm_14, tci_14, tci_15, tci_960, tshm_667, tshm_668, tshm_669, tshm_670, tykm_33, tci_700]
      have r3 : rU rPr M M3 := rU_tr r2 (rU_rm p2 (fun r hr => Or.inl hr))
      refine tc_n (D := 2) (fun d' hd' => c_divides p1 (Vr_E q3 p2 (by decide)) (by omega) (by omega) hd') (by omega) ?_
      rintro M4 ⟨p3, p4, p5⟩
      try simp only [kb_X12_pair_146, w_ist15, tkl_n, tkl_i, tkl_l, tkl_r, w_ald_0, w_ic, w_lld7, w_lld9, w_iv3, tfr_0, tfr_1, tfr_2, tfr_3, tfr_4, w_lld11, w_lld13, w_ild5, w_if_eq, w_gf_14_2, tw_f, w_iv2, w_ist16, w_iv0, w_gf_14_1, w_ia, w_iax, w_if_le, w_goto, true_and, and_true, Nat.reduceAdd, Nat.reduceSub, eq_self, tshm_14, tshm_31, tshm_32, tykm_31, tykm_32, tykm_14, tci_14, tci_15, tci_960, tshm_667, tshm_668, tshm_669, tshm_670, tykm_33, tci_700]
      have r4 : rU rPr M M4 := rU_tr r3 (rU_rm p5 (fun r hr => by omega))
      have hp : (x * ((tn D : Nat) : Int) * sgn y).natAbs = x.natAbs * tn D := by
        rw [Int.natAbs_mul, Int.natAbs_mul, Int.natAbs_natCast]
        unfold sgn
        split <;> simp
      obtain ⟨mo, po1, po2⟩ := p4
      have po3 := po1.1
      have po4 := po1.2.2.1
      have po5 := po1.2.1
      have hmo : ∀ hm : Int, hm = (if x.natAbs * tn D % y.natAbs = 0 then 0 else 1) → tT e d 3673 202 [some (.inr (.inr (.inl 664))), some (.inl a), some (.inl hA), some (.inl b), some (.inl hB), some (.inl iq), some (.inl up), some (.inr (.inl u)), none, some (.inr (.inl l)), none, some (.inr (.inl v)), none, some (.inr (.inl k)), none, some (.inl fb), some (.inl z3)] [.inl hm, .inl 2, .inr (.inr (.inl 664))] M4 n (tQi n (fun z M' => (z = 1 ∧ zb M' = pr D iq up x y ∧ (-10000000000000000000000 < zb M' ∧ zb M' < 10000000000000000000000) ∧ cb M' ∨ z = 0) ∧ rU rPr M M')) := by
        intro hm hhm
        rw [← hp] at hhm p3 hxD
        refine tb_X12_pair_202 (c := false) ?_
        simp only [kb_X12_pair_202, w_ild15, w_ild6, w_iv4, tfr_0, tfr_1, tfr_2, tfr_3, tfr_4, w_ire, trg, true_and, and_true, Nat.reduceAdd, Nat.reduceSub, eq_self, tshm_14, tshm_31, tshm_32, tykm_31, tykm_32, tykm_14, tci_14, tci_15, tci_960, tshm_667, tshm_668, tshm_669, tshm_670, tykm_33, tci_700]
        refine tc_i (D := 3) (fin M4 2 hm _ (x * ((tn D : Nat) : Int) * sgn y) y.natAbs 0 r4 (Or.inr rfl) p3 rfl (by omega) hhm ?_ ?_ ?_) (by omega) ?_
        · have htp : (0 : Int) < ((tn D : Nat) : Int) := by have := tn_pos D; omega
          have hsg : sgn y = 1 ∧ 0 < y ∨ sgn y = -1 ∧ y < 0 := by unfold sgn; split <;> omega
          rcases hfb with ⟨rfl, hf⟩ | ⟨rfl, hf⟩
          · left
            refine ⟨rfl, ?_⟩
            rcases hsg with ⟨s1, s2⟩ | ⟨s1, s2⟩
            · rw [s1, Int.mul_one]
              exact Int.mul_neg_of_neg_of_pos (by omega) htp
            · rw [s1, Int.mul_neg, Int.mul_one]
              have := Int.mul_pos (show 0 < x by omega) htp
              omega
          · right
            refine ⟨rfl, ?_⟩
            rcases hsg with ⟨s1, s2⟩ | ⟨s1, s2⟩
            · rw [s1, Int.mul_one]
              exact Int.mul_nonneg (by omega) (by omega)
            · rw [s1, Int.mul_neg, Int.mul_one, ← Int.neg_mul]
              exact Int.mul_nonneg (by omega) (by omega)
        · unfold pr
          rw [if_neg (by omega)]
        · refine Nat.le_trans (Nat.div_le_self _ _) ?_
          omega
        · rintro z M5 ⟨s1, s2⟩
          try simp only [kb_X12_pair_202, w_ild15, w_ild6, w_iv4, tfr_0, tfr_1, tfr_2, tfr_3, tfr_4, w_ire, trg, true_and, and_true, Nat.reduceAdd, Nat.reduceSub, eq_self, tshm_14, tshm_31, tshm_32, tykm_31, tykm_32, tykm_14, tci_14, tci_15, tci_960, tshm_667, tshm_668, tshm_669, tshm_670, tykm_33, tci_700]
          exact ⟨by omega, _, rfl, rfl, s1, s2⟩
      refine ⟨by omega, by omega, fun h => ?_, fun h => ?_⟩
      · refine tb_X12_pair_201 (c := false) ?_
        simp only [kb_X12_pair_201, w_ic, w_nil, true_and, and_true, Nat.reduceAdd, Nat.reduceSub, eq_self]
        refine hmo 0 ?_
        rw [show mo = 0 by omega, pw_0] at po4
        rw [if_pos (by omega)]
      · refine hmo 1 ?_
        have := pw_half po2 (by omega)
        have := pw_pos (mo - 1)
        rw [if_neg (by omega)]
  -- the sign
  have n84 : ∀ (u l v k : Int), 0 ≤ l ∧ l < 1000000000 → 0 ≤ k ∧ k < 1000000000 → -30000000000000000000000 ≤ u * 1000000000 + l ∧ u * 1000000000 + l ≤ 30000000000000000000000 → -30000000000000000000000 ≤ v * 1000000000 + k ∧ v * 1000000000 + k ≤ 30000000000000000000000 → (iq = 1 → v * 1000000000 + k ≠ 0) →
      tT e d 3673 84 [some (.inr (.inr (.inl 664))), some (.inl a), some (.inl hA), some (.inl b), some (.inl hB), some (.inl iq), some (.inl up), some (.inr (.inl u)), none, some (.inr (.inl l)), none, some (.inr (.inl v)), none, none, none, none, none] [.inr (.inl k)] M n (tQi n (fun z M' => (z = 1 ∧ zb M' = pr D iq up (u * 1000000000 + l) (v * 1000000000 + k) ∧ (-10000000000000000000000 < zb M' ∧ zb M' < 10000000000000000000000) ∧ cb M' ∨ z = 0) ∧ rU rPr M M')) := by
    intro u l v k hl hk hx hy hyn
    have c0 := core u l v k 0 hl hk hx hy hyn
    have c1 := core u l v k 1 hl hk hx hy hyn
    have n145 : ¬ (u * 1000000000 + l < 0 ∧ 0 < v * 1000000000 + k ∨ 0 < u * 1000000000 + l ∧ v * 1000000000 + k < 0) → tT e d 3673 145 [some (.inr (.inr (.inl 664))), some (.inl a), some (.inl hA), some (.inl b), some (.inl hB), some (.inl iq), some (.inl up), some (.inr (.inl u)), none, some (.inr (.inl l)), none, some (.inr (.inl v)), none, some (.inr (.inl k)), none, none, none] [] M n (tQi n (fun z M' => (z = 1 ∧ zb M' = pr D iq up (u * 1000000000 + l) (v * 1000000000 + k) ∧ (-10000000000000000000000 < zb M' ∧ zb M' < 10000000000000000000000) ∧ cb M' ∨ z = 0) ∧ rU rPr M M')) := by
      intro h
      refine tb_X12_pair_145 (c := false) ?_
      simp only [kb_X12_pair_145, w_ic, w_nil, true_and, and_true, Nat.reduceAdd, Nat.reduceSub, eq_self]
      exact c0 (Or.inr ⟨rfl, h⟩)
    have n141 : (u * 1000000000 + l < 0 ∧ 0 < v * 1000000000 + k ∨ 0 < u * 1000000000 + l ∧ v * 1000000000 + k < 0) → tT e d 3673 141 [some (.inr (.inr (.inl 664))), some (.inl a), some (.inl hA), some (.inl b), some (.inl hB), some (.inl iq), some (.inl up), some (.inr (.inl u)), none, some (.inr (.inl l)), none, some (.inr (.inl v)), none, some (.inr (.inl k)), none, none, none] [] M n (tQi n (fun z M' => (z = 1 ∧ zb M' = pr D iq up (u * 1000000000 + l) (v * 1000000000 + k) ∧ (-10000000000000000000000 < zb M' ∧ zb M' < 10000000000000000000000) ∧ cb M' ∨ z = 0) ∧ rU rPr M M')) := by
      intro h
      refine tb_X12_pair_141 (c := false) ?_
      simp only [kb_X12_pair_141, w_ic, w_goto, true_and, and_true, Nat.reduceAdd, Nat.reduceSub, eq_self]
      exact c1 (Or.inl ⟨rfl, h⟩)
    have n127 : u * 1000000000 + l ≠ 0 → (u < 0 ↔ ¬ v < 0) → tT e d 3673 127 [some (.inr (.inr (.inl 664))), some (.inl a), some (.inl hA), some (.inl b), some (.inl hB), some (.inl iq), some (.inl up), some (.inr (.inl u)), none, some (.inr (.inl l)), none, some (.inr (.inl v)), none, some (.inr (.inl k)), none, none, none] [] M n (tQi n (fun z M' => (z = 1 ∧ zb M' = pr D iq up (u * 1000000000 + l) (v * 1000000000 + k) ∧ (-10000000000000000000000 < zb M' ∧ zb M' < 10000000000000000000000) ∧ cb M' ∨ z = 0) ∧ rU rPr M M')) := by
      intro h h'
      refine tb_X12_pair_127 (c := false) ?_
      simp only [kb_X12_pair_127, w_lld11, w_lc0, w_lcmp, ne_eq, tlc_r, tlc_eq, tlc_lt, tlc_ge, tlc_gt, tlc_le, w_if_ne, w_lld13, w_if_eq, w_nil, true_and, and_true, Nat.reduceAdd, Nat.reduceSub, eq_self]
      exact ⟨by omega, fun _ => n141 (by omega), fun _ => ⟨by omega, fun _ => n145 (by omega), fun _ => n141 (by omega)⟩⟩
    have n110 : ∀ f g : Int, (f = 1 ∧ u < 0 ∨ f = 0 ∧ ¬ u < 0) → (g = 1 ∧ v < 0 ∨ g = 0 ∧ ¬ v < 0) → tT e d 3673 110 [some (.inr (.inr (.inl 664))), some (.inl a), some (.inl hA), some (.inl b), some (.inl hB), some (.inl iq), some (.inl up), some (.inr (.inl u)), none, some (.inr (.inl l)), none, some (.inr (.inl v)), none, some (.inr (.inl k)), none, none, none] [.inl g, .inl f] M n (tQi n (fun z M' => (z = 1 ∧ zb M' = pr D iq up (u * 1000000000 + l) (v * 1000000000 + k) ∧ (-10000000000000000000000 < zb M' ∧ zb M' < 10000000000000000000000) ∧ cb M' ∨ z = 0) ∧ rU rPr M M')) := by
      intro f g hf hg
      refine tb_X12_pair_110 (c := false) ?_
      simp only [kb_X12_pair_110, w_ic_eq, w_lld7, w_lc0, w_lcmp, ne_eq, tlc_r, tlc_eq, tlc_lt, tlc_ge, tlc_gt, tlc_le, w_if_ne, w_lld9, w_if_eq, w_nil, true_and, and_true, Nat.reduceAdd, Nat.reduceSub, eq_self]
      exact ⟨by omega, fun _ => n145 (by omega), fun _ => ⟨by omega, fun _ => n127 (by omega) (by omega), fun _ => ⟨by omega, fun _ => n145 (by omega), fun _ => n127 (by omega) (by omega)⟩⟩⟩
    have n98 : ∀ f : Int, (f = 1 ∧ u < 0 ∨ f = 0 ∧ ¬ u < 0) → tT e d 3673 98 [some (.inr (.inr (.inl 664))), some (.inl a), some (.inl hA), some (.inl b), some (.inl hB), some (.inl iq), some (.inl up), some (.inr (.inl u)), none, some (.inr (.inl l)), none, some (.inr (.inl v)), none, some (.inr (.inl k)), none, none, none] [.inl f] M n (tQi n (fun z M' => (z = 1 ∧ zb M' = pr D iq up (u * 1000000000 + l) (v * 1000000000 + k) ∧ (-10000000000000000000000 < zb M' ∧ zb M' < 10000000000000000000000) ∧ cb M' ∨ z = 0) ∧ rU rPr M M')) := by
      intro f hf
      refine tb_X12_pair_98 (c := false) ?_
      simp only [kb_X12_pair_98, w_lld11, w_lc0, w_lcmp, ne_eq, tlc_r, tlc_eq, tlc_lt, tlc_ge, tlc_gt, tlc_le, w_if_ge, w_ic, w_goto, true_and, and_true, Nat.reduceAdd, Nat.reduceSub, eq_self]
      refine ⟨by omega, fun _ => ?_, fun _ => n110 f 1 hf (by omega)⟩
      refine tb_X12_pair_109 (c := false) ?_
      simp only [kb_X12_pair_109, w_ic, w_nil, true_and, and_true, Nat.reduceAdd, Nat.reduceSub, eq_self]
      exact n110 f 0 hf (by omega)
    refine tb_X12_pair_84 (c := false) ?_
    simp only [kb_X12_pair_84, w_lst13, tkl_n, tkl_i, tkl_l, tkl_r, w_lld7, w_lc0, w_lcmp, ne_eq, tlc_r, tlc_eq, tlc_lt, tlc_ge, tlc_gt, tlc_le, w_if_ge, w_ic, w_goto, true_and, and_true, Nat.reduceAdd, Nat.reduceSub, eq_self]
    refine ⟨by omega, fun _ => ?_, fun _ => n98 1 (by omega)⟩
    refine tb_X12_pair_97 (c := false) ?_
    simp only [kb_X12_pair_97, w_ic, w_nil, true_and, and_true, Nat.reduceAdd, Nat.reduceSub, eq_self]
    exact n98 0 (by omega)
  have n78 : ∀ (u l v k : Int), 0 ≤ l ∧ l < 1000000000 → -30000000000000000000000 ≤ u * 1000000000 + l ∧ u * 1000000000 + l ≤ 30000000000000000000000 → u * 1000000000 + l = sel hA (zlo M a) (zhi M a) → v * 1000000000 + k = sel hB (zlo M b) (zhi M b) → 0 ≤ k ∧ k < 1000000000 → -30000000000000000000000 ≤ v * 1000000000 + k ∧ v * 1000000000 + k ≤ 30000000000000000000000 →
      tT e d 3673 84 [some (.inr (.inr (.inl 664))), some (.inl a), some (.inl hA), some (.inl b), some (.inl hB), some (.inl iq), some (.inl up), some (.inr (.inl u)), none, some (.inr (.inl l)), none, some (.inr (.inl v)), none, none, none, none, none] [.inr (.inl k)] M n (tQi n (fun z M' => (z = 1 ∧ zb M' = pr D iq up (sel hA (zlo M a) (zhi M a)) (sel hB (zlo M b) (zhi M b)) ∧ (-10000000000000000000000 < zb M' ∧ zb M' < 10000000000000000000000) ∧ cb M' ∨ z = 0) ∧ rU rPr M M')) := by
    intro u l v k w1 w2 w3 w4 w5 w6
    rw [← w3, ← w4]
    exact n84 u l v k w1 w5 w2 w6 (by rw [w4]; exact hy0)
  have n40 : ∀ (u l : Int), 0 ≤ l ∧ l < 1000000000 → -30000000000000000000000 ≤ u * 1000000000 + l ∧ u * 1000000000 + l ≤ 30000000000000000000000 → u * 1000000000 + l = sel hA (zlo M a) (zhi M a) →
      tT e d 3673 40 [some (.inr (.inr (.inl 664))), some (.inl a), some (.inl hA), some (.inl b), some (.inl hB), some (.inl iq), some (.inl up), some (.inr (.inl u)), none, none, none, none, none, none, none, none, none] [.inr (.inl l)] M n (tQi n (fun z M' => (z = 1 ∧ zb M' = pr D iq up (sel hA (zlo M a) (zhi M a)) (sel hB (zlo M b) (zhi M b)) ∧ (-10000000000000000000000 < zb M' ∧ zb M' < 10000000000000000000000) ∧ cb M' ∨ z = 0) ∧ rU rPr M M')) := by
    intro u l w1 w2 w3
    rcases hhB with rfl | rfl
    · refine tb_X12_pair_40 (c := false) ?_
      simp only [kb_X12_pair_40, w_lst9, tkl_n, tkl_i, tkl_l, tkl_r, w_ild4, w_if_eq, w_ald_0, w_gf_14_8, tw_f, w_ild_3, w_la, w_lax, w_goto, true_and, and_true, Nat.reduceAdd, Nat.reduceSub, eq_self, tshm_14, tshm_31, tshm_32, tykm_31, tykm_32, tykm_14, tci_14, tci_15, tci_960, tshm_667, tshm_668, tshm_669, tshm_670, tykm_33, tci_700]
      refine ⟨by omega, fun _ => ?_, fun h => absurd trivial h⟩
      refine tb_X12_pair_56 (c := false) ?_
      simp only [kb_X12_pair_56, w_ald_0, w_gf_14_6, tw_f, w_ild_3, w_la, w_lax, w_nil, true_and, and_true, Nat.reduceAdd, Nat.reduceSub, eq_self, tshm_14, tshm_31, tshm_32, tykm_31, tykm_32, tykm_14, tci_14, tci_15, tci_960, tshm_667, tshm_668, tshm_669, tshm_670, tykm_33, tci_700]
      refine ⟨by omega, ?_⟩
      refine tb_X12_pair_62 (c := false) ?_
      simp only [kb_X12_pair_62, w_lst11, tkl_n, tkl_i, tkl_l, tkl_r, w_ild4, w_if_eq, w_ald_0, w_gf_14_9, tw_f, w_ild_3, w_la, w_lax, w_goto, true_and, and_true, Nat.reduceAdd, Nat.reduceSub, eq_self, tshm_14, tshm_31, tshm_32, tykm_31, tykm_32, tykm_14, tci_14, tci_15, tci_960, tshm_667, tshm_668, tshm_669, tshm_670, tykm_33, tci_700]
      refine ⟨by omega, fun _ => ?_, fun h => absurd trivial h⟩
      refine tb_X12_pair_78 (c := false) ?_
      simp only [kb_X12_pair_78, w_ald_0, w_gf_14_7, tw_f, w_ild_3, w_la, w_lax, w_nil, true_and, and_true, Nat.reduceAdd, Nat.reduceSub, eq_self, tshm_14, tshm_31, tshm_32, tykm_31, tykm_32, tykm_14, tci_14, tci_15, tci_960, tshm_667, tshm_668, tshm_669, tshm_670, tykm_33, tci_700]
      refine ⟨by omega, ?_⟩
      exact n78 u l _ _ w1 w2 w3 rfl g1 g3
    · refine tb_X12_pair_40 (c := false) ?_
      simp only [kb_X12_pair_40, w_lst9, tkl_n, tkl_i, tkl_l, tkl_r, w_ild4, w_if_eq, w_ald_0, w_gf_14_8, tw_f, w_ild_3, w_la, w_lax, w_goto, true_and, and_true, Nat.reduceAdd, Nat.reduceSub, eq_self, tshm_14, tshm_31, tshm_32, tykm_31, tykm_32, tykm_14, tci_14, tci_15, tci_960, tshm_667, tshm_668, tshm_669, tshm_670, tykm_33, tci_700]
      refine ⟨by omega, fun h => by omega, fun _ => ⟨by omega, ?_⟩⟩
      refine tb_X12_pair_62 (c := false) ?_
      simp only [kb_X12_pair_62, w_lst11, tkl_n, tkl_i, tkl_l, tkl_r, w_ild4, w_if_eq, w_ald_0, w_gf_14_9, tw_f, w_ild_3, w_la, w_lax, w_goto, true_and, and_true, Nat.reduceAdd, Nat.reduceSub, eq_self, tshm_14, tshm_31, tshm_32, tykm_31, tykm_32, tykm_14, tci_14, tci_15, tci_960, tshm_667, tshm_668, tshm_669, tshm_670, tykm_33, tci_700]
      refine ⟨by omega, fun h => by omega, fun _ => ⟨by omega, ?_⟩⟩
      exact n78 u l _ _ w1 w2 w3 rfl g2 g4
  refine tst_X12_pair ?_
  rcases hhA with rfl | rfl
  · refine tb_X12_pair_0 (c := false) ?_
    simp only [kb_X12_pair_0, w_ild_2, w_if_eq, w_ald_0, w_gf_14_8, tw_f, w_ild_1, w_la, w_lax, w_goto, true_and, and_true, Nat.reduceAdd, Nat.reduceSub, eq_self, tshm_14, tshm_31, tshm_32, tykm_31, tykm_32, tykm_14, tci_14, tci_15, tci_960, tshm_667, tshm_668, tshm_669, tshm_670, tykm_33, tci_700]
    refine ⟨by omega, fun _ => ?_, fun h => absurd trivial h⟩
    refine tb_X12_pair_13 (c := false) ?_
    simp only [kb_X12_pair_13, w_ald_0, w_gf_14_6, tw_f, w_ild_1, w_la, w_lax, w_nil, true_and, and_true, Nat.reduceAdd, Nat.reduceSub, eq_self, tshm_14, tshm_31, tshm_32, tykm_31, tykm_32, tykm_14, tci_14, tci_15, tci_960, tshm_667, tshm_668, tshm_669, tshm_670, tykm_33, tci_700]
    refine ⟨by omega, ?_⟩
    refine tb_X12_pair_19 (c := false) ?_
    simp only [kb_X12_pair_19, w_lst7, tkl_n, tkl_i, tkl_l, tkl_r, w_ild_2, w_if_eq, w_ald_0, w_gf_14_9, tw_f, w_ild_1, w_la, w_lax, w_goto, true_and, and_true, Nat.reduceAdd, Nat.reduceSub, eq_self, tshm_14, tshm_31, tshm_32, tykm_31, tykm_32, tykm_14, tci_14, tci_15, tci_960, tshm_667, tshm_668, tshm_669, tshm_670, tykm_33, tci_700]
    refine ⟨by omega, fun _ => ?_, fun h => absurd trivial h⟩
    refine tb_X12_pair_34 (c := false) ?_
    simp only [kb_X12_pair_34, w_ald_0, w_gf_14_7, tw_f, w_ild_1, w_la, w_lax, w_nil, true_and, and_true, Nat.reduceAdd, Nat.reduceSub, eq_self, tshm_14, tshm_31, tshm_32, tykm_31, tykm_32, tykm_14, tci_14, tci_15, tci_960, tshm_667, tshm_668, tshm_669, tshm_670, tykm_33, tci_700]
    refine ⟨by omega, ?_⟩
    exact n40 _ _ h1 h3 rfl
  · refine tb_X12_pair_0 (c := false) ?_
    simp only [kb_X12_pair_0, w_ild_2, w_if_eq, w_ald_0, w_gf_14_8, tw_f, w_ild_1, w_la, w_lax, w_goto, true_and, and_true, Nat.reduceAdd, Nat.reduceSub, eq_self, tshm_14, tshm_31, tshm_32, tykm_31, tykm_32, tykm_14, tci_14, tci_15, tci_960, tshm_667, tshm_668, tshm_669, tshm_670, tykm_33, tci_700]
    refine ⟨by omega, fun h => by omega, fun _ => ⟨by omega, ?_⟩⟩
    refine tb_X12_pair_19 (c := false) ?_
    simp only [kb_X12_pair_19, w_lst7, tkl_n, tkl_i, tkl_l, tkl_r, w_ild_2, w_if_eq, w_ald_0, w_gf_14_9, tw_f, w_ild_1, w_la, w_lax, w_goto, true_and, and_true, Nat.reduceAdd, Nat.reduceSub, eq_self, tshm_14, tshm_31, tshm_32, tykm_31, tykm_32, tykm_14, tci_14, tci_15, tci_960, tshm_667, tshm_668, tshm_669, tshm_670, tykm_33, tci_700]
    refine ⟨by omega, fun h => by omega, fun _ => ⟨by omega, ?_⟩⟩
    exact n40 _ _ h2 h4 rfl
end MODEL
