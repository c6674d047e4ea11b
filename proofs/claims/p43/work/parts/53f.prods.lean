/-! THE MODEL: products and quotients of boxes. -/
def imn (c x : Int) : Int := if x < c then x else c
def imx (c x : Int) : Int := if c < x then x else c
noncomputable def mn4 (D : Nat) (iq l1 h1 l2 h2 : Int) : Int := imn (imn (imn (pr D iq 0 l1 l2) (pr D iq 0 h1 l2)) (pr D iq 0 l1 h2)) (pr D iq 0 h1 h2)
noncomputable def mx4 (D : Nat) (iq l1 h1 l2 h2 : Int) : Int := imx (imx (imx (pr D iq 1 l1 l2) (pr D iq 1 h1 l2)) (pr D iq 1 l1 h2)) (pr D iq 1 h1 h2)
theorem tmod_2 {a : Nat} : ((a : Int)).tmod 2 = ((a % 2 : Nat) : Int) := tmod_n
section MODEL
variable {e : tE} {d n : Nat} {M : tM}
theorem c_four {to a b iq f : Int} {D : Nat} (hdg : M 664 2 = (D : Int)) (hD : D ≤ 10) (hf : M 664 11 = f) (hf2 : 0 ≤ f ∧ f < 700) (ht : 0 ≤ to ∧ to < 700) (ha : 0 ≤ a ∧ a < f) (hb : 0 ≤ b ∧ b < f) (hB : BI M) (hiq : iq = 0 ∨ iq = 1) (hy0 : iq = 1 → zlo M b ≠ 0 ∧ zhi M b ≠ 0) (hd : 5 ≤ d) :
    tC e d 3616 [.inr (.inr (.inl 664)), .inl to, .inl a, .inl b, .inl iq] M n (tQi n (fun z M' => res z M' to (mn4 D iq (zlo M a) (zhi M a) (zlo M b) (zhi M b)) (mx4 D iq (zlo M a) (zhi M a) (zlo M b) (zhi M b)) ∧ xE (toF to f) M M')) := by
  have ha7 : 0 ≤ a ∧ a < 700 := by omega
  have hb7 : 0 ≤ b ∧ b < 700 := by omega
  generalize hl1 : zlo M a = l1 at *
  generalize hh1 : zhi M a = h1 at *
  generalize hl2 : zlo M b = l2 at *
  generalize hh2 : zhi M b = h2 at *
  have fin2 : ∀ M1 : tM, yE (fun r => r = f) M M1 → M1 664 11 = f + 1 → ∀ (v6 : Option tV), xE (toF to f) M (tU M1 664 11 (f + 1 - 1)) := by
    intro M1 y1 hf1 v6
    refine ⟨yE_tr (yE_mono y1 (fun r hr => Or.inr (by omega))) yE_free, ?_⟩
    rw [tU_eq, hf]
    omega
  -- one pair
  have pa : ∀ (M1 : tM) (k : Nat) (up : Int), yE (fun r => r = f) M M1 → (up = 0 ∨ up = 1) → ∀ d', 4 ≤ d' → tC e d' 3673 [.inr (.inr (.inl 664)), .inl a, .inl ((k % 2 : Nat) : Int), .inl b, .inl (if 1 < k then 1 else 0), .inl iq, .inl up] M1 n (tQi n (fun z M' => (z = 1 ∧ zb M' = pr D iq up (if k % 2 = 0 then l1 else h1) (if 1 < k then h2 else l2) ∧ (-10000000000000000000000 < zb M' ∧ zb M' < 10000000000000000000000) ∧ cb M' ∨ z = 0) ∧ rU rPr M1 M')) := by
    intro M1 k up y1 hup d' hd'
    have hB1 := y1.2.2 hB
    have e1 : zlo M1 a = l1 := (yE_lo y1 (by omega)).trans hl1
    have e2 : zhi M1 a = h1 := (yE_hi y1 (by omega)).trans hh1
    have e3 : zlo M1 b = l2 := (yE_lo y1 (by omega)).trans hl2
    have e4 : zhi M1 b = h2 := (yE_hi y1 (by omega)).trans hh2
    have s1 : sel ((k % 2 : Nat) : Int) (zlo M1 a) (zhi M1 a) = (if k % 2 = 0 then l1 else h1) := by
      unfold sel
      rw [e1, e2]
      split <;> split <;> first | rfl | omega
    have s2 : sel (if 1 < k then 1 else 0) (zlo M1 b) (zhi M1 b) = (if 1 < k then h2 else l2) := by
      unfold sel
      rw [e3, e4]
      by_cases hk : 1 < k
      · rw [if_pos hk, if_pos hk, if_neg (by decide)]
      · rw [if_neg hk, if_neg hk, if_pos rfl]
    rw [← s1, ← s2]
    refine c_pair (D := D) ((yE_d y1).trans hdg) hD ha7 hb7 (hB1 a ha7.1 ha7.2) (hB1 b hb7.1 hb7.2) (by omega) (by split <;> omega) hiq hup (fun q => ?_) hd'
    rw [s2]
    split
    · exact (hy0 q).2
    · exact (hy0 q).1
  have step : ∀ (k : Nat) (M1 : tM), k < 4 → yE (fun r => r = f) M M1 → M1 664 11 = f + 1 → (k ≠ 0 → -10000000000000000000000 ≤ zlo M1 f ∧ zhi M1 f ≤ 10000000000000000000000) →
      (∀ M2 : tM, yE (fun r => r = f) M M2 → M2 664 11 = f + 1 → zlo M2 f = (if k = 0 then pr D iq 0 (if k % 2 = 0 then l1 else h1) (if 1 < k then h2 else l2) else imn (zlo M1 f) (pr D iq 0 (if k % 2 = 0 then l1 else h1) (if 1 < k then h2 else l2))) → zhi M2 f = (if k = 0 then pr D iq 1 (if k % 2 = 0 then l1 else h1) (if 1 < k then h2 else l2) else imx (zhi M1 f) (pr D iq 1 (if k % 2 = 0 then l1 else h1) (if 1 < k then h2 else l2))) → (-10000000000000000000000 ≤ zlo M2 f ∧ zhi M2 f ≤ 10000000000000000000000) →
        tT e d 3616 19 [some (.inr (.inr (.inl 664))), some (.inl to), some (.inl a), some (.inl b), some (.inl iq), some (.inl f), some (.inl ((k + 1 : Nat) : Int))] [] M2 n (tQi n (fun z M' => res z M' to (mn4 D iq l1 h1 l2 h2) (mx4 D iq l1 h1 l2 h2) ∧ xE (toF to f) M M'))) →
      tT e d 3616 19 [some (.inr (.inr (.inl 664))), some (.inl to), some (.inl a), some (.inl b), some (.inl iq), some (.inl f), some (.inl (k : Int))] [] M1 n (tQi n (fun z M' => res z M' to (mn4 D iq l1 h1 l2 h2) (mx4 D iq l1 h1 l2 h2) ∧ xE (toF to f) M M')) := by
    intro k M1 hk y1 hf1 hnb next
    generalize hX : (if k % 2 = 0 then l1 else h1) = X at *
    generalize hY : (if 1 < k then h2 else l2) = Y at *
    have hk2 : ((k % 2 : Nat) : Int) = 0 ∨ ((k % 2 : Nat) : Int) = 1 := by omega
    have hcf : bcan M1 f := (y1.2.2 hB) f hf2.1 hf2.2
    -- the high side
    have hi120 : ∀ M2 : tM, yE (fun r => r = f) M M2 → M2 664 11 = f + 1 → zlo M2 f = (if k = 0 then pr D iq 0 X Y else imn (zlo M1 f) (pr D iq 0 X Y)) → zhi M2 f = zhi M1 f → -10000000000000000000000 ≤ pr D iq 0 X Y → tT e d 3616 120 [some (.inr (.inr (.inl 664))), some (.inl to), some (.inl a), some (.inl b), some (.inl iq), some (.inl f), some (.inl (k : Int))] [] M2 n (tQi n (fun z M' => res z M' to (mn4 D iq l1 h1 l2 h2) (mx4 D iq l1 h1 l2 h2) ∧ xE (toF to f) M M')) := by
      intro M2 y2 hf3 hlo hhi hlb
      have n147 : tT e d 3616 147 [some (.inr (.inr (.inl 664))), some (.inl to), some (.inl a), some (.inl b), some (.inl iq), some (.inl f), some (.inl (k : Int))] [.inl (if 1 < k then 1 else 0), .inl b, .inl ((k % 2 : Nat) : Int), .inl a, .inr (.inr (.inl 664))] M2 n (tQi n (fun z M' => res z M' to (mn4 D iq l1 h1 l2 h2) (mx4 D iq l1 h1 l2 h2) ∧ xE (toF to f) M M')) := by
        have p1 := pa M2 k 1 y2 (Or.inr rfl)
        rw [hX, hY] at p1
        refine tb_X12_four_147 (c := false) ?_
        simp only [kb_X12_four_147, w_ild4, w_ic, w_iv6, tfr_0, tfr_1, tfr_2, tfr_3, tfr_4, w_if_ne, w_ald_0, w_dupi, w_dupr, w_gf_14_11, tw_f, w_isub, w_pf_14_11, w_ire, trg, true_and, and_true, Nat.reduceAdd, Nat.reduceSub, eq_self, tshm_14, tshm_31, tshm_32, tykm_31, tykm_32, tykm_14, tci_14, tci_15, tci_960, tshm_667, tshm_668, tshm_669, tshm_670, tykm_33, tci_700]
        refine tc_i (D := 4) p1 (by omega) ?_
        rintro z M3 ⟨q1, q2⟩
        try simp only [kb_X12_four_147, w_ild4, w_ic, w_iv6, tfr_0, tfr_1, tfr_2, tfr_3, tfr_4, w_if_ne, w_ald_0, w_dupi, w_dupr, w_gf_14_11, tw_f, w_isub, w_pf_14_11, w_ire, trg, true_and, and_true, Nat.reduceAdd, Nat.reduceSub, eq_self, tshm_14, tshm_31, tshm_32, tykm_31, tykm_32, tykm_14, tci_14, tci_15, tci_960, tshm_667, tshm_668, tshm_669, tshm_670, tykm_33, tci_700]
        have y3 : yE (fun r => r = f) M M3 := yE_tr y2 (yE_U q2 (by decide) (by decide) (by decide))
        have hf4 : M3 664 11 = f + 1 := (q2.1 664 11 (by decide) (by decide) (by decide)).trans hf3
        have e3 : zlo M3 f = zlo M2 f := by
          unfold zlo
          rw [q2.1 667 f (by decide) (by decide) (by omega), q2.1 668 f (by decide) (by decide) (by omega)]
        have e4 : zhi M3 f = zhi M2 f := by
          unfold zhi
          rw [q2.1 669 f (by decide) (by decide) (by omega), q2.1 670 f (by decide) (by decide) (by omega)]
        refine ⟨by omega, fun hz => ?_, fun hz => ?_⟩
        rotate_left
        · rw [hf4]
          exact ⟨_, rfl, rfl, res_2, fin2 M3 y3 hf4 none⟩
        have q1 : zb M3 = pr D iq 1 X Y ∧ (-10000000000000000000000 < zb M3 ∧ zb M3 < 10000000000000000000000) ∧ cb M3 := by
          rcases q1 with ⟨-, q⟩ | q
          · exact q
          · exact absurd q hz
        obtain ⟨q3, q4, q5, q6⟩ := q1
        have hcf3 : bcan M3 f := (y3.2.2 hB) f hf2.1 hf2.2
        obtain ⟨⟨-, g2⟩, -, g4⟩ := hcf3
        have n215 : ∀ M4 : tM, yE (fun r => r = f) M M4 → M4 664 11 = f + 1 → zlo M4 f = zlo M2 f → zhi M4 f = (if k = 0 then pr D iq 1 X Y else imx (zhi M1 f) (pr D iq 1 X Y)) → tT e d 3616 215 [some (.inr (.inr (.inl 664))), some (.inl to), some (.inl a), some (.inl b), some (.inl iq), some (.inl f), some (.inl (k : Int))] [] M4 n (tQi n (fun z M' => res z M' to (mn4 D iq l1 h1 l2 h2) (mx4 D iq l1 h1 l2 h2) ∧ xE (toF to f) M M')) := by
          intro M4 w1 w2 w3 w4
          refine tb_X12_four_215 (c := false) ?_
          simp only [kb_X12_four_215, w_inc6, tkl_n, tkl_i, tkl_l, tkl_r, w_goto, true_and, and_true, Nat.reduceAdd, Nat.reduceSub, eq_self]
          refine next M4 w1 w2 (w3.trans hlo) w4 ⟨?_, ?_⟩
          · rw [w3, hlo]
            by_cases h0 : k = 0
            · rw [if_pos h0]; exact hlb
            · rw [if_neg h0]
              have := hnb h0
              unfold imn
              split <;> omega
          · rw [w4]
            by_cases h0 : k = 0
            · rw [if_pos h0]; omega
            · rw [if_neg h0]
              have := hnb h0
              unfold imx
              split <;> omega
        have n201 : (k = 0 ∨ zhi M1 f < pr D iq 1 X Y) → tT e d 3616 201 [some (.inr (.inr (.inl 664))), some (.inl to), some (.inl a), some (.inl b), some (.inl iq), some (.inl f), some (.inl (k : Int))] [] M3 n (tQi n (fun z M' => res z M' to (mn4 D iq l1 h1 l2 h2) (mx4 D iq l1 h1 l2 h2) ∧ xE (toF to f) M M')) := by
          intro hc
          unfold zb at q3 q4
          refine tb_X12_four_201 (c := false) ?_
          simp only [kb_X12_four_201, w_ald_0, w_ild5, w_gf_14_4, tw_f, w_gf_14_5, w_iv3, tfr_0, tfr_1, tfr_2, tfr_3, tfr_4, w_nil, true_and, and_true, Nat.reduceAdd, Nat.reduceSub, eq_self, tshm_14, tshm_31, tshm_32, tykm_31, tykm_32, tykm_14, tci_14, tci_15, tci_960, tshm_667, tshm_668, tshm_669, tshm_670, tykm_33, tci_700]
          refine tc_n (D := 0) (fun d' _ => c_high hf2) (by omega) ?_
          rintro _ rfl
          try simp only [kb_X12_four_201, w_ald_0, w_ild5, w_gf_14_4, tw_f, w_gf_14_5, w_iv3, tfr_0, tfr_1, tfr_2, tfr_3, tfr_4, w_nil, true_and, and_true, Nat.reduceAdd, Nat.reduceSub, eq_self, tshm_14, tshm_31, tshm_32, tykm_31, tykm_32, tykm_14, tci_14, tci_15, tci_960, tshm_667, tshm_668, tshm_669, tshm_670, tykm_33, tci_700]
          have x5 : xE (fun r => r = f) M3 (sHi M3 f (M3 664 4) (M3 664 5)) := sHi_xE rfl q5 (by omega)
          refine n215 _ (yE_tr y3 x5.1) (x5.2.trans hf4) (by rw [sHi_lo, e3]) ?_
          rw [sHi_hi, q3]
          unfold imx
          rcases Nat.eq_zero_or_pos k with h0 | h0
          · rw [if_pos h0]
          · rw [if_neg (by omega), if_pos (by omega)]
        refine tb_X12_four_168 (c := false) ?_
        simp only [kb_X12_four_168, w_ild6, w_if_eq, w_ald_0, w_gf_14_4, tw_f, w_gf_14_5, w_gf_14_8, w_ild5, w_la, w_lax, w_gf_14_9, w_is4, tfr_0, tfr_1, tfr_2, tfr_3, tfr_4, w_if_le, w_nil, true_and, and_true, Nat.reduceAdd, Nat.reduceSub, eq_self, tshm_14, tshm_31, tshm_32, tykm_31, tykm_32, tykm_14, tci_14, tci_15, tci_960, tshm_667, tshm_668, tshm_669, tshm_670, tykm_33, tci_700]
        refine ⟨by omega, fun hk0 => n201 (Or.inl (by omega)), fun hk0 => ⟨by omega, by omega, ?_⟩⟩
        unfold zb at q3 q4
        refine tc_i (D := 0) (fun d' _ => c_order q5 g2 (by omega) (by omega)) (by omega) ?_
        rintro z3 _ ⟨hz3, rfl⟩
        try simp only [kb_X12_four_168, w_ild6, w_if_eq, w_ald_0, w_gf_14_4, tw_f, w_gf_14_5, w_gf_14_8, w_ild5, w_la, w_lax, w_gf_14_9, w_is4, tfr_0, tfr_1, tfr_2, tfr_3, tfr_4, w_if_le, w_nil, true_and, and_true, Nat.reduceAdd, Nat.reduceSub, eq_self, tshm_14, tshm_31, tshm_32, tykm_31, tykm_32, tykm_14, tci_14, tci_15, tci_960, tshm_667, tshm_668, tshm_669, tshm_670, tykm_33, tci_700]
        have hz3 : z3 = cmpz (pr D iq 1 X Y) (zhi M1 f) := by
          rw [hz3, q3]
          show cmpz _ (zhi M3 f) = _
          rw [e4, hhi]
        have r3 := cmpz_r (pr D iq 1 X Y) (zhi M1 f)
        have r4 := cmpz_gt (pr D iq 1 X Y) (zhi M1 f)
        refine ⟨by omega, fun h6 => n215 M3 y3 hf4 e3 ?_, fun h6 => n201 (Or.inr (r4.mp (by omega)))⟩
        rw [e4, hhi, if_neg (by omega)]
        unfold imx
        rw [if_neg (fun q => by have := r4.mpr q; omega)]
      have n135 : tT e d 3616 135 [some (.inr (.inr (.inl 664))), some (.inl to), some (.inl a), some (.inl b), some (.inl iq), some (.inl f), some (.inl (k : Int))] [.inl ((k % 2 : Nat) : Int), .inl a, .inr (.inr (.inl 664))] M2 n (tQi n (fun z M' => res z M' to (mn4 D iq l1 h1 l2 h2) (mx4 D iq l1 h1 l2 h2) ∧ xE (toF to f) M M')) := by
        refine tb_X12_four_135 (c := false) ?_
        simp only [kb_X12_four_135, w_ild_3, w_ild6, w_ic, w_ic_le, w_goto, true_and, and_true, Nat.reduceAdd, Nat.reduceSub, eq_self]
        refine ⟨by omega, fun h => ?_, fun h => ?_⟩
        · rw [if_neg (by omega)] at n147
          refine tb_X12_four_146 (c := false) ?_
          simp only [kb_X12_four_146, w_ic, w_nil, true_and, and_true, Nat.reduceAdd, Nat.reduceSub, eq_self]
          exact n147
        · rw [if_pos (by omega)] at n147
          exact n147
      refine tb_X12_four_120 (c := false) ?_
      simp only [kb_X12_four_120, w_ald_0, w_ild_2, w_ild6, w_ic, w_irem, w_ic_ne, w_goto, true_and, and_true, Nat.reduceAdd, Nat.reduceSub, eq_self]
      rw [tmod_2]
      refine ⟨by omega, by omega, fun h => ?_, fun h => ?_⟩
      · rw [show ((k % 2 : Nat) : Int) = 0 by omega] at n135
        refine tb_X12_four_134 (c := false) ?_
        simp only [kb_X12_four_134, w_ic, w_nil, true_and, and_true, Nat.reduceAdd, Nat.reduceSub, eq_self]
        exact n135
      · rw [show ((k % 2 : Nat) : Int) = 1 by omega] at n135
        exact n135
    -- the low side
    have n52 : tT e d 3616 52 [some (.inr (.inr (.inl 664))), some (.inl to), some (.inl a), some (.inl b), some (.inl iq), some (.inl f), some (.inl (k : Int))] [.inl (if 1 < k then 1 else 0), .inl b, .inl ((k % 2 : Nat) : Int), .inl a, .inr (.inr (.inl 664))] M1 n (tQi n (fun z M' => res z M' to (mn4 D iq l1 h1 l2 h2) (mx4 D iq l1 h1 l2 h2) ∧ xE (toF to f) M M')) := by
      have p1 := pa M1 k 0 y1 (Or.inl rfl)
      rw [hX, hY] at p1
      refine tb_X12_four_52 (c := false) ?_
      simp only [kb_X12_four_52, w_ild4, w_ic, w_iv6, tfr_0, tfr_1, tfr_2, tfr_3, tfr_4, w_if_ne, w_ald_0, w_dupi, w_dupr, w_gf_14_11, tw_f, w_isub, w_pf_14_11, w_ire, trg, true_and, and_true, Nat.reduceAdd, Nat.reduceSub, eq_self, tshm_14, tshm_31, tshm_32, tykm_31, tykm_32, tykm_14, tci_14, tci_15, tci_960, tshm_667, tshm_668, tshm_669, tshm_670, tykm_33, tci_700]
      refine tc_i (D := 4) p1 (by omega) ?_
      rintro z M3 ⟨q1, q2⟩
      try simp only [kb_X12_four_52, w_ild4, w_ic, w_iv6, tfr_0, tfr_1, tfr_2, tfr_3, tfr_4, w_if_ne, w_ald_0, w_dupi, w_dupr, w_gf_14_11, tw_f, w_isub, w_pf_14_11, w_ire, trg, true_and, and_true, Nat.reduceAdd, Nat.reduceSub, eq_self, tshm_14, tshm_31, tshm_32, tykm_31, tykm_32, tykm_14, tci_14, tci_15, tci_960, tshm_667, tshm_668, tshm_669, tshm_670, tykm_33, tci_700]
      have y3 : yE (fun r => r = f) M M3 := yE_tr y1 (yE_U q2 (by decide) (by decide) (by decide))
      have hf4 : M3 664 11 = f + 1 := (q2.1 664 11 (by decide) (by decide) (by decide)).trans hf1
      have e3 : zlo M3 f = zlo M1 f := by
        unfold zlo
        rw [q2.1 667 f (by decide) (by decide) (by omega), q2.1 668 f (by decide) (by decide) (by omega)]
      have e4 : zhi M3 f = zhi M1 f := by
        unfold zhi
        rw [q2.1 669 f (by decide) (by decide) (by omega), q2.1 670 f (by decide) (by decide) (by omega)]
      refine ⟨by omega, fun hz => ?_, fun hz => ?_⟩
      rotate_left
      · rw [hf4]
        exact ⟨_, rfl, rfl, res_2, fin2 M3 y3 hf4 none⟩
      have q1 : zb M3 = pr D iq 0 X Y ∧ (-10000000000000000000000 < zb M3 ∧ zb M3 < 10000000000000000000000) ∧ cb M3 := by
        rcases q1 with ⟨-, q⟩ | q
        · exact q
        · exact absurd q hz
      obtain ⟨q3, q4, q5, q6⟩ := q1
      have hcf3 : bcan M3 f := (y3.2.2 hB) f hf2.1 hf2.2
      obtain ⟨⟨g2, -⟩, g4, -⟩ := hcf3
      have n106 : (k = 0 ∨ pr D iq 0 X Y < zlo M1 f) → tT e d 3616 106 [some (.inr (.inr (.inl 664))), some (.inl to), some (.inl a), some (.inl b), some (.inl iq), some (.inl f), some (.inl (k : Int))] [] M3 n (tQi n (fun z M' => res z M' to (mn4 D iq l1 h1 l2 h2) (mx4 D iq l1 h1 l2 h2) ∧ xE (toF to f) M M')) := by
        intro hc
        unfold zb at q3 q4
        refine tb_X12_four_106 (c := false) ?_
        simp only [kb_X12_four_106, w_ald_0, w_ild5, w_gf_14_4, tw_f, w_gf_14_5, w_iv3, tfr_0, tfr_1, tfr_2, tfr_3, tfr_4, w_nil, true_and, and_true, Nat.reduceAdd, Nat.reduceSub, eq_self, tshm_14, tshm_31, tshm_32, tykm_31, tykm_32, tykm_14, tci_14, tci_15, tci_960, tshm_667, tshm_668, tshm_669, tshm_670, tykm_33, tci_700]
        refine tc_n (D := 0) (fun d' _ => c_low hf2) (by omega) ?_
        rintro _ rfl
        try simp only [kb_X12_four_106, w_ald_0, w_ild5, w_gf_14_4, tw_f, w_gf_14_5, w_iv3, tfr_0, tfr_1, tfr_2, tfr_3, tfr_4, w_nil, true_and, and_true, Nat.reduceAdd, Nat.reduceSub, eq_self, tshm_14, tshm_31, tshm_32, tykm_31, tykm_32, tykm_14, tci_14, tci_15, tci_960, tshm_667, tshm_668, tshm_669, tshm_670, tykm_33, tci_700]
        have x5 : xE (fun r => r = f) M3 (sLo M3 f (M3 664 4) (M3 664 5)) := sLo_xE rfl q5 (by omega)
        refine hi120 _ (yE_tr y3 x5.1) (x5.2.trans hf4) ?_ (by rw [sLo_hi, e4]) (by omega)
        rw [sLo_lo, q3]
        unfold imn
        rcases Nat.eq_zero_or_pos k with h0 | h0
        · rw [if_pos h0]
        · rw [if_neg (by omega), if_pos (by omega)]
      refine tb_X12_four_73 (c := false) ?_
      simp only [kb_X12_four_73, w_ild6, w_if_eq, w_ald_0, w_gf_14_4, tw_f, w_gf_14_5, w_gf_14_6, w_ild5, w_la, w_lax, w_gf_14_7, w_is4, tfr_0, tfr_1, tfr_2, tfr_3, tfr_4, w_if_ge, w_nil, true_and, and_true, Nat.reduceAdd, Nat.reduceSub, eq_self, tshm_14, tshm_31, tshm_32, tykm_31, tykm_32, tykm_14, tci_14, tci_15, tci_960, tshm_667, tshm_668, tshm_669, tshm_670, tykm_33, tci_700]
      refine ⟨by omega, fun hk0 => n106 (Or.inl (by omega)), fun hk0 => ⟨by omega, by omega, ?_⟩⟩
      unfold zb at q3 q4
      refine tc_i (D := 0) (fun d' _ => c_order q5 g2 (by omega) (by omega)) (by omega) ?_
      rintro z3 _ ⟨hz3, rfl⟩
      try simp only [kb_X12_four_73, w_ild6, w_if_eq, w_ald_0, w_gf_14_4, tw_f, w_gf_14_5, w_gf_14_6, w_ild5, w_la, w_lax, w_gf_14_7, w_is4, tfr_0, tfr_1, tfr_2, tfr_3, tfr_4, w_if_ge, w_nil, true_and, and_true, Nat.reduceAdd, Nat.reduceSub, eq_self, tshm_14, tshm_31, tshm_32, tykm_31, tykm_32, tykm_14, tci_14, tci_15, tci_960, tshm_667, tshm_668, tshm_669, tshm_670, tykm_33, tci_700]
      have hz3 : z3 = cmpz (pr D iq 0 X Y) (zlo M1 f) := by
        rw [hz3, q3]
        show cmpz _ (zlo M3 f) = _
        rw [e3]
      have r3 := cmpz_r (pr D iq 0 X Y) (zlo M1 f)
      have r4 := cmpz_lt (pr D iq 0 X Y) (zlo M1 f)
      refine ⟨by omega, fun h6 => hi120 M3 y3 hf4 ?_ e4 (by omega), fun h6 => n106 (Or.inr (r4.mp (by omega)))⟩
      rw [e3, if_neg (by omega)]
      unfold imn
      rw [if_neg (fun q => by have := r4.mpr q; omega)]
    have n40 : tT e d 3616 40 [some (.inr (.inr (.inl 664))), some (.inl to), some (.inl a), some (.inl b), some (.inl iq), some (.inl f), some (.inl (k : Int))] [.inl ((k % 2 : Nat) : Int), .inl a, .inr (.inr (.inl 664))] M1 n (tQi n (fun z M' => res z M' to (mn4 D iq l1 h1 l2 h2) (mx4 D iq l1 h1 l2 h2) ∧ xE (toF to f) M M')) := by
      refine tb_X12_four_40 (c := false) ?_
      simp only [kb_X12_four_40, w_ild_3, w_ild6, w_ic, w_ic_le, w_goto, true_and, and_true, Nat.reduceAdd, Nat.reduceSub, eq_self]
      refine ⟨by omega, fun h => ?_, fun h => ?_⟩
      · rw [if_neg (by omega)] at n52
        refine tb_X12_four_51 (c := false) ?_
        simp only [kb_X12_four_51, w_ic, w_nil, true_and, and_true, Nat.reduceAdd, Nat.reduceSub, eq_self]
        exact n52
      · rw [if_pos (by omega)] at n52
        exact n52
    refine tb_X12_four_19 (c := false) ?_
    simp only [kb_X12_four_19, w_ild6, w_ic, w_ic_ge, w_ald_0, w_ild_2, w_irem, w_ic_ne, w_goto, true_and, and_true, Nat.reduceAdd, Nat.reduceSub, eq_self]
    rw [tmod_2]
    refine ⟨by omega, fun h => by omega, fun _ => ⟨by omega, by omega, fun h => ?_, fun h => ?_⟩⟩
    · rw [show ((k % 2 : Nat) : Int) = 0 by omega] at n40
      refine tb_X12_four_39 (c := false) ?_
      simp only [kb_X12_four_39, w_ic, w_nil, true_and, and_true, Nat.reduceAdd, Nat.reduceSub, eq_self]
      exact n40
    · rw [show ((k % 2 : Nat) : Int) = 1 by omega] at n40
      exact n40
  refine tst_X12_four ?_
  refine tb_X12_four_0 (c := false) ?_
  simp (disch := decide) only [kb_X12_four_0, w_ald_0, w_gf_14_11, tw_f, w_ist5, tkl_n, tkl_i, tkl_l, tkl_r, w_dupi, w_dupr, w_ic, w_iadd, w_pf_14_11, w_ist6, w_nil, true_and, and_true, Nat.reduceAdd, Nat.reduceSub, eq_self, tshm_14, tshm_31, tshm_32, tykm_31, tykm_32, tykm_14, tci_14, tci_15, tci_960, tshm_667, tshm_668, tshm_669, tshm_670, tykm_33, tci_700, tU_nk, tU_ni, tU_eq]
  rw [hf]
  refine step 0 _ (by omega) yE_free (tU_eq ..) (fun h => absurd rfl h) (fun M1 y1 f1 a1 b1 k1 => ?_)
  refine step 1 M1 (by omega) y1 f1 (fun _ => k1) (fun M2 y2 f2 a2 b2 k2 => ?_)
  refine step 2 M2 (by omega) y2 f2 (fun _ => k2) (fun M3 y3 f3 a3 b3 k3 => ?_)
  refine step 3 M3 (by omega) y3 f3 (fun _ => k3) (fun M4 y4 f4 a4 b4 k4 => ?_)
  have a5 : zlo M4 f = mn4 D iq l1 h1 l2 h2 := by
    rw [a4, a3, a2, a1]
    rfl
  have b5 : zhi M4 f = mx4 D iq l1 h1 l2 h2 := by
    rw [b4, b3, b2, b1]
    rfl
  refine tb_X12_four_19 (c := false) ?_
  simp only [kb_X12_four_19, w_ild6, w_ic, w_ic_ge, w_ald_0, w_ild_2, w_irem, w_ic_ne, w_goto, true_and, and_true, Nat.reduceAdd, Nat.reduceSub, eq_self]
  refine ⟨by omega, fun _ => ?_, fun h => by omega⟩
  refine tb_X12_four_221 (c := false) ?_
  simp only [kb_X12_four_221, w_ald_0, w_ild5, w_ild_1, w_iv2, tfr_0, tfr_1, tfr_2, tfr_3, tfr_4, w_dupi, w_dupr, w_gf_14_11, tw_f, w_ic, w_isub, w_pf_14_11, w_ire, trg, true_and, and_true, Nat.reduceAdd, Nat.reduceSub, eq_self, tshm_14, tshm_31, tshm_32, tykm_31, tykm_32, tykm_14, tci_14, tci_15, tci_960, tshm_667, tshm_668, tshm_669, tshm_670, tykm_33, tci_700]
  refine tc_n (D := 0) (fun d' _ => c_takes hf2 ht) (by omega) ?_
  rintro _ rfl
  try simp only [kb_X12_four_221, w_ald_0, w_ild5, w_ild_1, w_iv2, tfr_0, tfr_1, tfr_2, tfr_3, tfr_4, w_dupi, w_dupr, w_gf_14_11, tw_f, w_ic, w_isub, w_pf_14_11, w_ire, trg, true_and, and_true, Nat.reduceAdd, Nat.reduceSub, eq_self, tshm_14, tshm_31, tshm_32, tykm_31, tykm_32, tykm_14, tci_14, tci_15, tci_960, tshm_667, tshm_668, tshm_669, tshm_670, tykm_33, tci_700]
  have x5 : xE (fun r => r = to) M4 (sTk M4 f to) := sTk_xE rfl (y4.2.2 hB f hf2.1 hf2.2)
  have hf6 : sTk M4 f to 664 11 = f + 1 := x5.2.trans f4
  rw [hf6]
  have y6 : yE (fun _ => False) (sTk M4 f to) (tU (sTk M4 f to) 664 11 (f + 1 - 1)) := yE_free
  refine ⟨_, rfl, rfl, res_0 ?_ ?_ (by rw [← a5, ← b5]; exact k4), ⟨yE_tr (yE_mono y4 (fun r hr => Or.inr (by omega))) (yE_tr (yE_mono x5.1 (fun r hr => Or.inl hr)) (yE_mono y6 (fun _ q => q.elim))), ?_⟩⟩
  · rw [yE_lo y6 id, sTk_lo, a5]
  · rw [yE_hi y6 id, sTk_hi, b5]
  · rw [tU_eq, hf]
    omega
theorem c_product {to a b f : Int} {D : Nat} (hdg : M 664 2 = (D : Int)) (hD : D ≤ 10) (hf : M 664 11 = f) (hf2 : 0 ≤ f ∧ f < 700) (ht : 0 ≤ to ∧ to < 700) (ha : 0 ≤ a ∧ a < f) (hb : 0 ≤ b ∧ b < f) (hB : BI M) (hd : 6 ≤ d) :
    tC e d 3682 [.inr (.inr (.inl 664)), .inl to, .inl a, .inl b] M n (tQi n (fun z M' => res z M' to (mn4 D 0 (zlo M a) (zhi M a) (zlo M b) (zhi M b)) (mx4 D 0 (zlo M a) (zhi M a) (zlo M b) (zhi M b)) ∧ xE (toF to f) M M')) := by
  refine tst_X12_product ?_
  refine tb_X12_product_0 (c := false) ?_
  simp only [kb_X12_product_0, w_ald_0, w_ild_1, w_ild_2, w_ild_3, w_ic, w_iv4, tfr_0, tfr_1, tfr_2, tfr_3, tfr_4, w_ire, trg, true_and, and_true, Nat.reduceAdd, Nat.reduceSub, eq_self, tshm_14, tshm_31, tshm_32, tykm_31, tykm_32, tykm_14, tci_14, tci_15, tci_960, tshm_667, tshm_668, tshm_669, tshm_670, tykm_33, tci_700]
  refine tc_i (D := 5) (fun d' hd' => c_four hdg hD hf hf2 ht ha hb hB (Or.inl rfl) (fun q => absurd q (by decide)) hd') (by omega) ?_
  rintro z M2 ⟨p1, p2⟩
  try simp only [kb_X12_product_0, w_ald_0, w_ild_1, w_ild_2, w_ild_3, w_ic, w_iv4, tfr_0, tfr_1, tfr_2, tfr_3, tfr_4, w_ire, trg, true_and, and_true, Nat.reduceAdd, Nat.reduceSub, eq_self, tshm_14, tshm_31, tshm_32, tykm_31, tykm_32, tykm_14, tci_14, tci_15, tci_960, tshm_667, tshm_668, tshm_669, tshm_670, tykm_33, tci_700]
  exact ⟨_, rfl, rfl, p1, p2⟩
theorem c_quotient {to a b f : Int} {D : Nat} (hdg : M 664 2 = (D : Int)) (hD : D ≤ 10) (hf : M 664 11 = f) (hf2 : 0 ≤ f ∧ f < 700) (ht : 0 ≤ to ∧ to < 700) (ha : 0 ≤ a ∧ a < f) (hb : 0 ≤ b ∧ b < f) (hB : BI M) (hord : zlo M b ≤ zhi M b) (hd : 6 ≤ d) :
    tC e d 3684 [.inr (.inr (.inl 664)), .inl to, .inl a, .inl b] M n (tQi n (fun z M' => res z M' to (mn4 D 1 (zlo M a) (zhi M a) (zlo M b) (zhi M b)) (mx4 D 1 (zlo M a) (zhi M a) (zlo M b) (zhi M b)) ∧ (z = 0 → 0 < zlo M b ∨ zhi M b < 0) ∧ xE (toF to f) M M')) := by
  refine tst_X12_quotient ?_
  refine tb_X12_quotient_0 (c := false) ?_
  simp only [kb_X12_quotient_0, w_ald_0, w_ild_3, w_iv1, tfr_0, tfr_1, tfr_2, tfr_3, tfr_4, w_if_eq, w_ic, w_goto, true_and, and_true, Nat.reduceAdd, Nat.reduceSub, eq_self, tshm_14, tshm_31, tshm_32, tykm_31, tykm_32, tykm_14, tci_14, tci_15, tci_960, tshm_667, tshm_668, tshm_669, tshm_670, tykm_33, tci_700]
  refine tc_i (D := 1) (fun d' hd' => c_holds0 (b := b) (by omega) (hB b (by omega) (by omega)) hd') (by omega) ?_
  rintro z _ ⟨hz, rfl⟩
  try simp only [kb_X12_quotient_0, w_ald_0, w_ild_3, w_iv1, tfr_0, tfr_1, tfr_2, tfr_3, tfr_4, w_if_eq, w_ic, w_goto, true_and, and_true, Nat.reduceAdd, Nat.reduceSub, eq_self, tshm_14, tshm_31, tshm_32, tykm_31, tykm_32, tykm_14, tci_14, tci_15, tci_960, tshm_667, tshm_668, tshm_669, tshm_670, tykm_33, tci_700]
  refine ⟨by omega, fun h => ?_, fun h => ?_⟩
  · have h0 : 0 < zlo M b ∨ zhi M b < 0 := by rcases hz with ⟨-, h0⟩ | ⟨h0, -⟩; exact h0; omega
    refine tb_X12_quotient_12 (c := false) ?_
    simp only [kb_X12_quotient_12, w_ald_0, w_ild_1, w_ild_2, w_ild_3, w_ic, w_iv4, tfr_0, tfr_1, tfr_2, tfr_3, tfr_4, w_nil, true_and, and_true, Nat.reduceAdd, Nat.reduceSub, eq_self, tshm_14, tshm_31, tshm_32, tykm_31, tykm_32, tykm_14, tci_14, tci_15, tci_960, tshm_667, tshm_668, tshm_669, tshm_670, tykm_33, tci_700]
    refine tc_i (D := 5) (fun d' hd' => c_four hdg hD hf hf2 ht ha hb hB (Or.inr rfl) (fun _ => by omega) hd') (by omega) ?_
    rintro z M2 ⟨p1, p2⟩
    try simp only [kb_X12_quotient_12, w_ald_0, w_ild_1, w_ild_2, w_ild_3, w_ic, w_iv4, tfr_0, tfr_1, tfr_2, tfr_3, tfr_4, w_nil, true_and, and_true, Nat.reduceAdd, Nat.reduceSub, eq_self, tshm_14, tshm_31, tshm_32, tykm_31, tykm_32, tykm_14, tci_14, tci_15, tci_960, tshm_667, tshm_668, tshm_669, tshm_670, tykm_33, tci_700]
    refine tb_X12_quotient_20 (c := false) ?_
    simp only [kb_X12_quotient_20, w_ire, trg, true_and, and_true, Nat.reduceAdd, Nat.reduceSub, eq_self]
    exact ⟨_, rfl, rfl, p1, fun _ => h0, p2⟩
  · refine tb_X12_quotient_20 (c := false) ?_
    simp only [kb_X12_quotient_20, w_ire, trg, true_and, and_true, Nat.reduceAdd, Nat.reduceSub, eq_self]
    exact ⟨_, rfl, rfl, res_1, fun q => absurd q (by decide), xE_refl⟩
end MODEL
