/-! THE MODEL: what is made of boxes is a box. -/
def OB (M : tM) (b : Int) : Prop := zlo M b ≤ zhi M b ∧ (-10000000000000000000000 ≤ zlo M b ∧ zhi M b ≤ 10000000000000000000000)
def OK3 (z : Int) (M' : tM) (to : Int) : Prop := (z = 0 ∨ z = 1 ∨ z = 2) ∧ (z = 0 → OB M' to)
theorem ok3_of {z to lo hi : Int} {M' : tM} (h : res z M' to lo hi) (hl : z = 0 → lo ≤ hi) : OK3 z M' to := ⟨h.1, fun q => by unfold OB; rw [(h.2.1 q).1, (h.2.1 q).2]; exact ⟨hl q, h.2.2 q⟩⟩
/-- between calls of an operation: digits, the place that is free, and all boxes sound -/
def MB (M : tM) (D : Nat) (f : Int) : Prop := M 664 2 = (D : Int) ∧ D ≤ 10 ∧ M 664 11 = f ∧ (0 ≤ f ∧ f < 700) ∧ BI M ∧ KI M
theorem xE_to {M M' : tM} {to f : Int} (h : xE (fun r => r = to) M M') : xE (toF to f) M M' := xE_mono h (fun _ q => Or.inl q)
section MODEL
variable {e : tE} {d n D : Nat} {M : tM} {to a b f : Int}
theorem o_sum (h : MB M D f) (ht : 0 ≤ to ∧ to < 700) (ha : 0 ≤ a ∧ a < f) (hb : 0 ≤ b ∧ b < f) (la : OB M a) (lb : OB M b) (hd : 3 ≤ d) : tC e d 3716 [.inr (.inr (.inl 664)), .inl to, .inl a, .inl b] M n (tQi n (fun z M' => OK3 z M' to ∧ xE (toF to f) M M')) := by
  obtain ⟨h1, h2, h3, h4, h5, h6⟩ := h
  refine tC_mono (c_sum h1 h2 ht (by omega) (by omega) (h5 a (by omega) (by omega)) (h5 b (by omega) (by omega)) hd) ?_
  rintro v M' n' ⟨z, q1, q2, q3, q4⟩
  unfold OB at la lb
  exact ⟨z, q1, q2, ok3_of q3 (fun _ => fc_le (uu_pos D) (by omega)), xE_to q4⟩
theorem o_difference (h : MB M D f) (ht : 0 ≤ to ∧ to < 700) (ha : 0 ≤ a ∧ a < f) (hb : 0 ≤ b ∧ b < f) (la : OB M a) (lb : OB M b) (hd : 4 ≤ d) : tC e d 3607 [.inr (.inr (.inl 664)), .inl to, .inl a, .inl b] M n (tQi n (fun z M' => OK3 z M' to ∧ xE (toF to f) M M')) := by
  obtain ⟨h1, h2, h3, h4, h5, h6⟩ := h
  refine tC_mono (c_difference h1 h2 h3 h4 ht ha (by omega) h5 hd) ?_
  rintro v M' n' ⟨z, q1, q2, q3, q4⟩
  unfold OB at la lb
  exact ⟨z, q1, q2, ok3_of q3 (fun _ => fc_le (uu_pos D) (by omega)), q4⟩
theorem o_product (h : MB M D f) (ht : 0 ≤ to ∧ to < 700) (ha : 0 ≤ a ∧ a < f) (hb : 0 ≤ b ∧ b < f) (hd : 6 ≤ d) : tC e d 3682 [.inr (.inr (.inl 664)), .inl to, .inl a, .inl b] M n (tQi n (fun z M' => OK3 z M' to ∧ xE (toF to f) M M')) := by
  obtain ⟨h1, h2, h3, h4, h5, h6⟩ := h
  refine tC_mono (c_product h1 h2 h3 h4 ht ha hb h5 hd) ?_
  rintro v M' n' ⟨z, q1, q2, q3, q4⟩
  exact ⟨z, q1, q2, ok3_of q3 (fun _ => mn4_le), q4⟩
theorem o_quotient (h : MB M D f) (ht : 0 ≤ to ∧ to < 700) (ha : 0 ≤ a ∧ a < f) (hb : 0 ≤ b ∧ b < f) (lb : OB M b) (hd : 6 ≤ d) : tC e d 3684 [.inr (.inr (.inl 664)), .inl to, .inl a, .inl b] M n (tQi n (fun z M' => OK3 z M' to ∧ xE (toF to f) M M')) := by
  obtain ⟨h1, h2, h3, h4, h5, h6⟩ := h
  refine tC_mono (c_quotient h1 h2 h3 h4 ht ha hb h5 lb.1 hd) ?_
  rintro v M' n' ⟨z, q1, q2, q3, -, q4⟩
  exact ⟨z, q1, q2, ok3_of q3 (fun _ => mn4_le), q4⟩
theorem o_negative (h : MB M D f) (ht : 0 ≤ to ∧ to < 700) (ha : 0 ≤ a ∧ a < f) (la : OB M a) (hd : 3 ≤ d) : tC e d 3664 [.inr (.inr (.inl 664)), .inl to, .inl a] M n (tQi n (fun z M' => OK3 z M' to ∧ xE (toF to f) M M')) := by
  obtain ⟨h1, h2, h3, h4, h5, h6⟩ := h
  refine tC_mono (c_negative h1 h2 ht (by omega) h5 hd) ?_
  rintro v M' n' ⟨z, q1, q2, q3, q4⟩
  unfold OB at la
  exact ⟨z, q1, q2, ok3_of q3 (fun _ => fc_le (uu_pos D) (by omega)), xE_to q4⟩
theorem o_unsigned (h : MB M D f) (ht : 0 ≤ to ∧ to < 700) (ha : 0 ≤ a ∧ a < f) (la : OB M a) (hd : 4 ≤ d) : tC e d 3731 [.inr (.inr (.inl 664)), .inl to, .inl a] M n (tQi n (fun z M' => OK3 z M' to ∧ xE (toF to f) M M')) := by
  obtain ⟨h1, h2, h3, h4, h5, h6⟩ := h
  refine tC_mono (c_unsigned h1 h2 h3 h4 ht ha h5 hd) ?_
  rintro v M' n' ⟨z, q1, q2, q3, q4⟩
  exact ⟨z, q1, q2, ok3_of q3 (fun _ => fc_le (uu_pos D) (abs_le la.1)), q4⟩
theorem o_lifted {k : Nat} (h : MB M D f) (ht : 0 ≤ to ∧ to < 700) (ha : 0 ≤ a ∧ a < f) (la : OB M a) (hk : k ≤ 9) (hd : 5 ≤ d) : tC e d 3645 [.inr (.inr (.inl 664)), .inl to, .inl a, .inl (k : Int)] M n (tQi n (fun z M' => OK3 z M' to ∧ xE (toF to f) M M')) := by
  obtain ⟨h1, h2, h3, h4, h5, h6⟩ := h
  refine tC_mono (c_lifted h1 h2 ht (by omega) (h5 a (by omega) (by omega)) hk hd) ?_
  rintro v M' n' ⟨z, q1, q2, q3, q4⟩
  exact ⟨z, q1, q2, ok3_of q3 (fun _ => lf_le la.1), xE_to q4⟩
theorem o_rooted {k : Nat} (h : MB M D f) (ht : 0 ≤ to ∧ to < 700) (ha : 0 ≤ a ∧ a < f) (la : OB M a) (hk : 2 ≤ k ∧ k ≤ 9) (hd : 5 ≤ d) : tC e d 3695 [.inr (.inr (.inl 664)), .inl to, .inl a, .inl (k : Int)] M n (tQi n (fun z M' => OK3 z M' to ∧ xE (toF to f) M M')) := by
  obtain ⟨h1, h2, h3, h4, h5, h6⟩ := h
  refine tC_mono (c_rooted h1 h2 ht (by omega) (h5 a (by omega) (by omega)) la.1 hk hd) ?_
  rintro v M' n' ⟨z, q1, q2, q3, q4, q5⟩
  unfold OB at la
  refine ⟨z, q1, q2, ok3_of q3 (fun _ => rtb_le (by omega) ?_), xE_to q5⟩
  omega
theorem o_rising {c : Int} (h : MB M D f) (ht : 0 ≤ to ∧ to < 700) (ha : 0 ≤ a ∧ a < f) (la : OB M a) (hc : 0 ≤ c ∧ c < 65536) (hd : 7 ≤ d) : tC e d 3693 [.inr (.inr (.inl 664)), .inl to, .inl a, .inl c] M n (tQi n (fun z M' => OK3 z M' to ∧ xE (toF to f) M M')) := by
  obtain ⟨h1, h2, h3, h4, h5, h6⟩ := h
  have hb := h5 a (by omega) (by omega)
  refine tC_mono (c_rising h6 h1 h2 ht (by omega) hb la.1 hc hd) ?_
  rintro v M' n' ⟨z, q1, q2, q3, q4, q5⟩
  exact ⟨z, q1, q2, ok3_of q3 (fun g => fnb_le h2 la.1 hb.2.1.1 hb.2.2.2 (q4 g)), xE_to q5⟩
theorem o_known {w : Int} (h : MB M D f) (ht : 0 ≤ to ∧ to < 700) (hw : w = 0 ∨ w = 1) (hd : 5 ≤ d) : tC e d 3641 [.inr (.inr (.inl 664)), .inl to, .inl w] M n (tQn n (fun M' => OB M' to ∧ xE (toF to f) M M')) := by
  obtain ⟨h1, h2, h3, h4, h5, h6⟩ := h
  refine tC_mono (c_known h6 h1 h2 ht hw hd) ?_
  rintro v M' n' ⟨q1, q2, q3, q4, q5⟩
  refine ⟨q1, q2, ?_, xE_to q5⟩
  unfold OB
  rw [q3, q4]
  refine ⟨deepb_le, ?_, ?_⟩
  · unfold deepb
    rw [if_neg (by decide)]
    omega
  · have := deep_small (v := kno w) (up := 1) h2 (kno_le w)
    unfold deepb
    rw [if_neg (by decide)]
    omega
theorem o_number {row ib : Int} {s x : Nat} (h : MB M D f) (ht : 0 ≤ to ∧ to < 700) (hr : 0 < row ∧ row < 15) (hr8 : row ≠ 8) (hV : Vr M row x) (hx : x < tn 60) (hs : s ≤ 60) (hib : ib = 0 ∨ ib = 1) (hd : 5 ≤ d) : tC e d 3669 [.inr (.inr (.inl 664)), .inl to, .inl row, .inl (s : Int), .inl ib] M n (tQi n (fun z M' => OK3 z M' to ∧ xE (toF to f) M M')) := by
  obtain ⟨h1, h2, h3, h4, h5, h6⟩ := h
  refine tC_mono (c_number h1 h2 ht hr hr8 hV hx hs hib hd) ?_
  rintro v M' n' ⟨z, q1, q2, q3, q4⟩
  exact ⟨z, q1, q2, ok3_of q3 (fun _ => nbv_le D s x hib), xE_to q4⟩
theorem o_acts {c : Int} (h : MB M D f) (ht : 0 ≤ to ∧ to < 700) (ha : 0 ≤ a ∧ a < f) (hb : 0 ≤ b ∧ b < f) (la : OB M a) (lb : OB M b) (hc : 0 ≤ c ∧ c < 65536) (hd : 7 ≤ d) : tC e d 3585 [.inr (.inr (.inl 664)), .inl to, .inl c, .inl a, .inl b] M n (tQi n (fun z M' => OK3 z M' to ∧ xE (toF to f) M M')) := by
  refine tst_X12_acts ?_
  have n59 : ∀ (M1 : tM) (z : Int), OK3 z M1 to → xE (toF to f) M M1 → tT e d 3585 59 [some (.inr (.inr (.inl 664))), some (.inl to), some (.inl c), some (.inl a), some (.inl b)] [.inl z] M1 n (tQi n (fun z M' => OK3 z M' to ∧ xE (toF to f) M M')) := by
    intro M1 z q1 q2
    refine tb_X12_acts_59 (c := false) ?_
    simp only [kb_X12_acts_59, w_ire, trg, true_and, and_true, Nat.reduceAdd, Nat.reduceSub, eq_self]
    exact ⟨z, rfl, rfl, q1, q2⟩
  refine tb_X12_acts_0 (c := false) ?_
  simp only [kb_X12_acts_0, w_ild_2, w_bi, w_ic_ne, w_ald_0, w_ild_1, w_ild_3, w_ild4, w_iv3, tfr_0, tfr_1, tfr_2, tfr_3, tfr_4, w_goto, true_and, and_true, Nat.reduceAdd, Nat.reduceSub, eq_self, tshm_14, tshm_31, tshm_32, tykm_31, tykm_32, tykm_14, tci_14, tci_15, tci_960, tshm_667, tshm_668, tshm_669, tshm_670, tykm_33, tci_700]
  refine ⟨by omega, fun _ => ?_, fun _ => ?_⟩
  · refine tb_X12_acts_17 (c := false) ?_
    simp only [kb_X12_acts_17, w_ild_2, w_bi, w_ic_ne, w_ald_0, w_ild_1, w_ild_3, w_ild4, w_iv3, tfr_0, tfr_1, tfr_2, tfr_3, tfr_4, w_goto, true_and, and_true, Nat.reduceAdd, Nat.reduceSub, eq_self, tshm_14, tshm_31, tshm_32, tykm_31, tykm_32, tykm_14, tci_14, tci_15, tci_960, tshm_667, tshm_668, tshm_669, tshm_670, tykm_33, tci_700]
    refine ⟨by omega, fun _ => ?_, fun _ => ?_⟩
    · refine tb_X12_acts_34 (c := false) ?_
      simp only [kb_X12_acts_34, w_ild_2, w_bi, w_ic_ne, w_ald_0, w_ild_1, w_ild_3, w_ild4, w_iv3, tfr_0, tfr_1, tfr_2, tfr_3, tfr_4, w_goto, true_and, and_true, Nat.reduceAdd, Nat.reduceSub, eq_self, tshm_14, tshm_31, tshm_32, tykm_31, tykm_32, tykm_14, tci_14, tci_15, tci_960, tshm_667, tshm_668, tshm_669, tshm_670, tykm_33, tci_700]
      refine ⟨by omega, fun _ => ?_, fun _ => ?_⟩
      · refine tb_X12_acts_51 (c := false) ?_
        simp only [kb_X12_acts_51, w_ald_0, w_ild_1, w_ild_3, w_ild4, w_iv3, tfr_0, tfr_1, tfr_2, tfr_3, tfr_4, w_nil, true_and, and_true, Nat.reduceAdd, Nat.reduceSub, eq_self, tshm_14, tshm_31, tshm_32, tykm_31, tykm_32, tykm_14, tci_14, tci_15, tci_960, tshm_667, tshm_668, tshm_669, tshm_670, tykm_33, tci_700]
        refine tc_i (D := 6) (fun d' hd' => o_quotient h ht ha hb lb hd') (by omega) ?_
        rintro z M1 ⟨q1, q2⟩
        try simp only [kb_X12_acts_51, w_ald_0, w_ild_1, w_ild_3, w_ild4, w_iv3, tfr_0, tfr_1, tfr_2, tfr_3, tfr_4, w_nil, true_and, and_true, Nat.reduceAdd, Nat.reduceSub, eq_self, tshm_14, tshm_31, tshm_32, tykm_31, tykm_32, tykm_14, tci_14, tci_15, tci_960, tshm_667, tshm_668, tshm_669, tshm_670, tykm_33, tci_700]
        exact n59 M1 z q1 q2
      refine tc_i (D := 6) (fun d' hd' => o_product h ht ha hb hd') (by omega) ?_
      rintro z M1 ⟨q1, q2⟩
      try simp only [kb_X12_acts_34, w_ild_2, w_bi, w_ic_ne, w_ald_0, w_ild_1, w_ild_3, w_ild4, w_iv3, tfr_0, tfr_1, tfr_2, tfr_3, tfr_4, w_goto, true_and, and_true, Nat.reduceAdd, Nat.reduceSub, eq_self, tshm_14, tshm_31, tshm_32, tykm_31, tykm_32, tykm_14, tci_14, tci_15, tci_960, tshm_667, tshm_668, tshm_669, tshm_670, tykm_33, tci_700]
      exact n59 M1 z q1 q2
    refine tc_i (D := 6) (fun d' hd' => o_difference h ht ha hb la lb (by omega)) (by omega) ?_
    rintro z M1 ⟨q1, q2⟩
    try simp only [kb_X12_acts_17, w_ild_2, w_bi, w_ic_ne, w_ald_0, w_ild_1, w_ild_3, w_ild4, w_iv3, tfr_0, tfr_1, tfr_2, tfr_3, tfr_4, w_goto, true_and, and_true, Nat.reduceAdd, Nat.reduceSub, eq_self, tshm_14, tshm_31, tshm_32, tykm_31, tykm_32, tykm_14, tci_14, tci_15, tci_960, tshm_667, tshm_668, tshm_669, tshm_670, tykm_33, tci_700]
    exact n59 M1 z q1 q2
  refine tc_i (D := 6) (fun d' hd' => o_sum h ht ha hb la lb (by omega)) (by omega) ?_
  rintro z M1 ⟨q1, q2⟩
  try simp only [kb_X12_acts_0, w_ild_2, w_bi, w_ic_ne, w_ald_0, w_ild_1, w_ild_3, w_ild4, w_iv3, tfr_0, tfr_1, tfr_2, tfr_3, tfr_4, w_goto, true_and, and_true, Nat.reduceAdd, Nat.reduceSub, eq_self, tshm_14, tshm_31, tshm_32, tykm_31, tykm_32, tykm_14, tci_14, tci_15, tci_960, tshm_667, tshm_668, tshm_669, tshm_670, tykm_33, tci_700]
  exact n59 M1 z q1 q2
end MODEL
