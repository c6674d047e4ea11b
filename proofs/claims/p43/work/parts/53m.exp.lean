/-! THE MODEL: the last step, and the exponential. -/
/-- The bound that a row's number at 10^-54 gives. -/
noncomputable def deepb (up : Int) (D v : Nat) (ib : Int) : Int := if ib = 1 then -((tlu (v / tn (54 - D)) 1 ib up * tn (10 - D) : Nat) : Int) else ((tlu (v / tn (54 - D)) 1 ib up * tn (10 - D) : Nat) : Int)
theorem deep_in {D v : Nat} {ib : Int} (hD : D ≤ 10) (hib : ib = 0 ∨ ib = 1) : deepb 0 D v ib * (U4 : Int) ≤ (if ib = 1 then -(v : Int) else (v : Int)) ∧ (if ib = 1 then -(v : Int) else (v : Int)) ≤ deepb 1 D v ib * (U4 : Int) := by
  have h1 : ∀ t : Nat, t * tn (10 - D) * U4 = t * tn (54 - D) := by
    intro t
    rw [U4_tn, Nat.mul_assoc, ← tn_add]
    congr 2
    omega
  have h2 := Nat.div_mul_le_self v (tn (54 - D))
  have h3 : v < (v / tn (54 - D) + 1) * tn (54 - D) := by
    have := Nat.lt_div_mul_add (a := v) (tn_pos (54 - D))
    rw [Nat.add_mul, Nat.one_mul]
    exact this
  have h4 := h1 (v / tn (54 - D))
  have h5 := h1 (v / tn (54 - D) + 1)
  unfold deepb tlu
  rcases hib with rfl | rfl
  · rw [if_neg (by omega), if_neg (by omega), if_neg (by omega), if_neg (by omega), if_pos (by omega), Nat.add_zero, ← Int.natCast_mul, ← Int.natCast_mul, h4, h5]
    omega
  · rw [if_pos rfl, if_pos rfl, if_pos rfl, if_pos (by omega), if_neg (by omega), Int.neg_mul, Int.neg_mul, ← Int.natCast_mul, ← Int.natCast_mul]
    simp only [Nat.add_zero]
    rw [h4, h5]
    omega
section MODEL
variable {e : tE} {d n : Nat} {M : tM}
theorem c_deep {row ib up : Int} {v D : Nat} (hdg : M 664 2 = (D : Int)) (hD : D ≤ 10) (hr : 0 ≤ row ∧ row < 14) (hV : Vr M row v) (hv : v < tn 500) (hib : ib = 0 ∨ ib = 1) (hup : up = 0 ∨ up = 1) (hd : 4 ≤ d) :
    tC e d 3605 [.inr (.inr (.inl 664)), .inl row, .inl ib, .inl up] M n (tQi n (fun z M' => (z = 1 ∧ zb M' = deepb up D v ib ∧ (-10000000000000000000000 < deepb up D v ib ∧ deepb up D v ib < 10000000000000000000000) ∧ cb M' ∨ z = 0 ∧ 10000000000000000000000 ≤ tlu (v / tn (54 - D)) 1 ib up * tn (10 - D)) ∧ rU (fun r => r = row ∨ r = 4 ∨ r = 14) M M')) := by
  refine tst_X12_deep ?_
  refine tb_X12_deep_0 (c := false) ?_
  simp only [kb_X12_deep_0, w_ald_0, w_ild_1, w_gf_14_2, tw_f, w_bi, w_isub, w_iv2, tfr_0, tfr_1, tfr_2, tfr_3, tfr_4, w_ist4, tkl_n, tkl_i, tkl_l, tkl_r, w_ic, w_ild_2, w_ild_3, w_iv4, w_ire, trg, true_and, and_true, Nat.reduceAdd, Nat.reduceSub, eq_self, tshm_14, tshm_31, tshm_32, tykm_31, tykm_32, tykm_14, tci_14, tci_15, tci_960, tshm_667, tshm_668, tshm_669, tshm_670, tykm_33, tci_700, hdg]
  rw [show (D : Int) - 54 = -((54 - D : Nat) : Int) by omega]
  refine tc_i (D := 2) (fun d' hd' => c_tensd (by omega) hV (by omega) hd') (by omega) ?_
  rintro z M1 ⟨rfl, p1, p2⟩
  try simp only [kb_X12_deep_0, w_ald_0, w_ild_1, w_gf_14_2, tw_f, w_bi, w_isub, w_iv2, tfr_0, tfr_1, tfr_2, tfr_3, tfr_4, w_ist4, tkl_n, tkl_i, tkl_l, tkl_r, w_ic, w_ild_2, w_ild_3, w_iv4, w_ire, trg, true_and, and_true, Nat.reduceAdd, Nat.reduceSub, eq_self, tshm_14, tshm_31, tshm_32, tykm_31, tykm_32, tykm_14, tci_14, tci_15, tci_960, tshm_667, tshm_668, tshm_669, tshm_670, tykm_33, tci_700]
  have hdg1 : M1 664 2 = (D : Int) := (rE_d p2).trans hdg
  have hs : (v / tn (54 - D) + 1) * tn 10 < pw 60 := by
    have h1 : v / tn (54 - D) + 1 ≤ tn 500 := Nat.lt_of_le_of_lt (Nat.div_le_self _ _) hv
    have h2 := Nat.mul_le_mul_right (tn 10) h1
    rw [← tn_add] at h2
    exact Nat.lt_of_le_of_lt h2 (tn_pw (by decide))
  refine tc_i (D := 3) (fun d' hd' => c_tells (t := v / tn (54 - D)) (D := D) hr p1 hdg1 hD (Or.inr rfl) hib hup hs hd') (by omega) ?_
  rintro z M2 ⟨s1, s2⟩
  try simp only [kb_X12_deep_0, w_ald_0, w_ild_1, w_gf_14_2, tw_f, w_bi, w_isub, w_iv2, tfr_0, tfr_1, tfr_2, tfr_3, tfr_4, w_ist4, tkl_n, tkl_i, tkl_l, tkl_r, w_ic, w_ild_2, w_ild_3, w_iv4, w_ire, trg, true_and, and_true, Nat.reduceAdd, Nat.reduceSub, eq_self, tshm_14, tshm_31, tshm_32, tykm_31, tykm_32, tykm_14, tci_14, tci_15, tci_960, tshm_667, tshm_668, tshm_669, tshm_670, tykm_33, tci_700]
  refine ⟨by omega, _, rfl, rfl, ?_, rU_tr (rU_rm p2 (fun r hr => Or.inl hr)) (rU_mono s2 (fun r hr => by omega))⟩
  rcases s1 with ⟨s3, s4, s5, s6⟩ | ⟨s3, s4⟩
  · left
    refine ⟨s3, s5, ?_, s6⟩
    unfold deepb
    split <;> omega
  · exact Or.inr ⟨s3, s4⟩
/-- The exponential of a number of tenths of thousands of millionths. -/
noncomputable def mulB (B : Nat) : Nat → Nat → Nat
  | 0, v => v
  | q + 1, v => mulB B q (v * B / U6)
theorem mulB_s (B q : Nat) : ∀ v, mulB B (q + 1) v = mulB B q v * B / U6 := by
  induction q with
  | zero => exact fun _ => rfl
  | succ q ih => exact fun v => ih (v * B / U6)
theorem mulB_le (B q : Nat) : ∀ {v w : Nat}, v ≤ w → mulB B q v ≤ mulB B q w := by
  induction q with
  | zero => exact fun h => h
  | succ q ih => exact fun h => ih (Nat.div_le_div_right (Nat.mul_le_mul_right _ h))
noncomputable def exS (a : Nat) : Nat := mulB BSc (a / 10000000000) (serv (a % 10000000000 * U4))
theorem mulB_U (B q : Nat) : mulB B (q + 1) U6 = mulB B q B := by
  show mulB B q (U6 * B / U6) = _
  rw [Nat.mul_div_cancel_left _ U6_pos]
theorem serf_z (s f k acc : Nat) : serf s f 0 k acc = acc := by
  cases f with
  | zero => rfl
  | succ f =>
    unfold serf
    rw [if_pos rfl]
theorem serf_0 (f t k acc : Nat) : serf 0 f t k acc = acc := by
  cases f with
  | zero => rfl
  | succ f =>
    unfold serf
    split
    · rfl
    · rw [Nat.mul_zero, Nat.zero_div, Nat.zero_div, serf_z, Nat.add_zero]
theorem serv_0 : serv 0 = U6 := serf_0 60 U6 1 U6
theorem exS_le {a b : Nat} (h : a ≤ b) : exS a ≤ exS b := by
  have step : ∀ q r, r < 10000000000 → mulB BSc q (serv (r * U4)) ≤ mulB BSc (q + 1) (serv 0) := by
    intro q r hr
    rw [serv_0, mulB_U]
    have h1 : r * U4 ≤ U6 := by
      rw [U6_U4]
      exact Nat.mul_le_mul_right _ (Nat.le_of_lt hr)
    have h2 := mulB_le BSc q (serv_le h1)
    rw [serv_U] at h2
    exact h2
  have far : ∀ j q r, r < 10000000000 → mulB BSc q (serv (r * U4)) ≤ mulB BSc (q + 1 + j) (serv 0) := by
    intro j
    induction j with
    | zero => exact step
    | succ j ih =>
      intro q r hr
      have := step (q + 1 + j) 0 (by decide)
      rw [Nat.zero_mul] at this
      exact Nat.le_trans (ih q r hr) this
  unfold exS
  have ha := Nat.mod_lt a (show 0 < 10000000000 by decide)
  rcases Nat.lt_or_ge (a / 10000000000) (b / 10000000000) with q | q
  · obtain ⟨j, hj⟩ : ∃ j, b / 10000000000 = a / 10000000000 + 1 + j := ⟨b / 10000000000 - (a / 10000000000 + 1), by omega⟩
    rw [hj]
    exact Nat.le_trans (far j _ _ ha) (mulB_le BSc _ (serv_le (Nat.zero_le _)))
  · have e1 : a / 10000000000 = b / 10000000000 := by omega
    rw [e1]
    exact mulB_le BSc _ (serv_le (Nat.mul_le_mul_right _ (by omega)))
theorem exS_0 : exS 0 = U6 := by
  unfold exS
  show serv (0 * U4) = U6
  rw [Nat.zero_mul, serv_0]
theorem exS_ge (a : Nat) : U6 ≤ exS a := by rw [← exS_0]; exact exS_le (Nat.zero_le a)
/-- Signed. -/
noncomputable def exF (z : Int) : Int := if z < -600000000000 then 0 else if z < 0 then ((U6 * U6 / exS z.natAbs : Nat) : Int) else ((exS z.natAbs : Nat) : Int)
theorem exF_le {a b : Int} (h : a ≤ b) : exF a ≤ exF b := by
  unfold exF
  have hU := U6_pos
  have ga := exS_ge b.natAbs
  by_cases h1 : a < -600000000000
  · rw [if_pos h1]
    split
    · omega
    · split
      · exact Int.natCast_nonneg _
      · exact Int.natCast_nonneg _
  · rw [if_neg h1, if_neg (show ¬ b < -600000000000 by omega)]
    by_cases h2 : a < 0
    · rw [if_pos h2]
      split
      · have h3 : exS b.natAbs ≤ exS a.natAbs := exS_le (by omega)
        have := Nat.div_le_div_left (a := U6 * U6) h3 (by omega)
        exact Int.ofNat_le.mpr this
      · have h4 : U6 * U6 / exS a.natAbs ≤ U6 * U6 / U6 := Nat.div_le_div_left (exS_ge _) hU
        rw [Nat.mul_div_cancel _ hU] at h4
        have h5 := Nat.le_trans h4 (exS_ge b.natAbs)
        exact Int.ofNat_le.mpr h5
    · rw [if_neg h2, if_neg (by omega)]
      have h3 : exS a.natAbs ≤ exS b.natAbs := exS_le (by omega)
      omega
end MODEL
