/-! THE CLASS BY VALUES: boxes, and what acts make by sums. -/
theorem RV_n {v : Int} (h : RV v) : RV (-v) := by unfold RV at h ⊢; omega
/-- not too great, and in order -/
def NF (v : Int) : Prop := -10000000000000000000000 < v ∧ v < 10000000000000000000000
theorem NF_r {v : Int} (h : NF v) : RV v := by unfold NF at h; unfold RV; omega
theorem NF_z {v : Int} : ¬ FZ v ↔ NF v := by unfold FZ NF; omega
/-- what the status says -/
def ST (z lo hi : Int) : Prop := (z = 2 ∧ ¬ (NF lo ∧ NF hi)) ∨ (z = 0 ∧ (NF lo ∧ NF hi))
section HAND
variable {e : tE} {b d n : Nat} {M : tM}
/-- each number without its sign -/
def abLo (lo hi : Int) : Int := if ¬ lo < 0 then lo else if ¬ 0 < hi then -hi else 0
def abHi (lo hi : Int) : Int := if ¬ lo < 0 then hi else if ¬ 0 < hi then -lo else if hi < -lo then -lo else hi
theorem z_dropSigns {r : Nat} {lo hi : Int} (h0 : cl r 4) (hv : BX M r lo hi) (r1 : RV lo) (r2 : RV hi) (hb : b < 2) (hC : CI M) (hd : 2 ≤ d) : tC e d 1028 [.inr (.inr (.inl r))] M n (tQn n (fun M' => BX M' r (abLo lo hi) (abHi lo hi) ∧ BE b M M' r)) := by
  have hr := h0.1
  have hm1 := (bxl_1 h0).1
  have hm2 := (bxl_2 h0).1
  refine tst_X2_dropSigns ?_
  refine tb_X2_dropSigns_0 (c := false) ?_
  simp only [kb_X2_dropSigns_0, w_ald_0, w_gf_4_0, tw_f, w_iv0, tfr_0, tfr_1, tfr_2, tfr_3, tfr_4, w_if_ne, w_re, true_and, and_true, Nat.reduceAdd, Nat.reduceSub, eq_self, tyk_4, tcq_4, tyk_3, tcq_3, hr, hm1, hm2]
  refine tc_i (D := 0) (fun d' hd' => y_isNegative (bxl_1 h0) hv.1 r1) (by omega) ?_
  rintro z M1 ⟨q, rfl⟩
  try simp only [kb_X2_dropSigns_0, w_ald_0, w_gf_4_0, tw_f, w_iv0, tfr_0, tfr_1, tfr_2, tfr_3, tfr_4, w_if_ne, w_re, true_and, and_true, Nat.reduceAdd, Nat.reduceSub, eq_self, tyk_4, tcq_4, tyk_3, tcq_3, hr, hm1, hm2]
  unfold abLo abHi
  refine ⟨by omega, fun h => ?_, fun h => ?_⟩
  · have hl : lo < 0 := by omega
    have hl2 : ¬ ¬ lo < 0 := by omega
    rw [if_neg hl2, if_neg hl2]
    refine tb_X2_dropSigns_11 (c := false) ?_
    simp only [kb_X2_dropSigns_11, w_ald_0, w_gf_4_1, tw_f, w_iv0, tfr_0, tfr_1, tfr_2, tfr_3, tfr_4, w_if_ne, w_re, true_and, and_true, Nat.reduceAdd, Nat.reduceSub, eq_self, tyk_4, tcq_4, tyk_3, tcq_3, hr, hm1, hm2]
    refine tc_i (D := 0) (fun d' hd' => y_isPositive (bxl_2 h0) hv.2 r2) (by omega) ?_
    rintro z2 M2 ⟨q2, rfl⟩
    try simp only [kb_X2_dropSigns_11, w_ald_0, w_gf_4_1, tw_f, w_iv0, tfr_0, tfr_1, tfr_2, tfr_3, tfr_4, w_if_ne, w_re, true_and, and_true, Nat.reduceAdd, Nat.reduceSub, eq_self, tyk_4, tcq_4, tyk_3, tcq_3, hr, hm1, hm2]
    refine ⟨by omega, fun h2 => ?_, fun h2 => ?_⟩
    · have hh2 : ¬ ¬ 0 < hi := by omega
      rw [if_neg hh2, if_neg hh2]
      refine tb_X2_dropSigns_26 (c := false) ?_
      simp only [kb_X2_dropSigns_26, w_ald_0, w_gf_4_0, tw_f, w_iv0, tfr_0, tfr_1, tfr_2, tfr_3, tfr_4, w_gf_4_1, w_iv1, w_if_eq, w_nil, true_and, and_true, Nat.reduceAdd, Nat.reduceSub, eq_self, tyk_4, tcq_4, tyk_3, tcq_3, hr, hm1, hm2]
      refine tc_n (D := 0) (fun d' hd' => y_turn (b := b) (bxl_1 h0) hv.1 r1 (Or.inl hb) hC) (by omega) ?_
      rintro M3 ⟨q3, q4⟩
      try simp only [kb_X2_dropSigns_26, w_ald_0, w_gf_4_0, tw_f, w_iv0, tfr_0, tfr_1, tfr_2, tfr_3, tfr_4, w_gf_4_1, w_iv1, w_if_eq, w_nil, true_and, and_true, Nat.reduceAdd, Nat.reduceSub, eq_self, tyk_4, tcq_4, tyk_3, tcq_3, hr, hm1, hm2]
      have v2 : BB M3 (r + 2) hi := BB_u hv.2 (fun i => q4.2.2 _ _ (by omega))
      refine tc_i (D := 0) (fun d' hd' => y_isBelow (bxl_2 h0) (bxl_1 h0) v2 q3 r2 (RV_n r1)) (by omega) ?_
      rintro z3 M4 ⟨q5, rfl⟩
      try simp only [kb_X2_dropSigns_26, w_ald_0, w_gf_4_0, tw_f, w_iv0, tfr_0, tfr_1, tfr_2, tfr_3, tfr_4, w_gf_4_1, w_iv1, w_if_eq, w_nil, true_and, and_true, Nat.reduceAdd, Nat.reduceSub, eq_self, tyk_4, tcq_4, tyk_3, tcq_3, hr, hm1, hm2]
      have n58 : ∀ M5 : tM, BB M5 (r + 2) (if hi < -lo then -lo else hi) → BE b M2 M5 r → tT e d 1028 58 [some (.inr (.inr (.inl (r))))] [] M5 n (tQn n (fun M' => BX M' r 0 (if hi < -lo then -lo else hi) ∧ BE b M2 M' r)) := by
        intro M5 g1 g2
        refine tb_X2_dropSigns_58 (c := false) ?_
        simp only [kb_X2_dropSigns_58, w_ald_0, w_gf_4_0, tw_f, w_lc0, w_iv2, tfr_0, tfr_1, tfr_2, tfr_3, tfr_4, w_re, true_and, and_true, Nat.reduceAdd, Nat.reduceSub, eq_self, tyk_4, tcq_4, tyk_3, tcq_3, hr, hm1, hm2]
        refine tc_n (D := 0) (fun d' hd' => y_assign (b := b) (bxl_1 h0) (by omega) (Or.inl hb) g2.1.1) (by omega) ?_
        rintro M6 ⟨g3, g4⟩
        try simp only [kb_X2_dropSigns_58, w_ald_0, w_gf_4_0, tw_f, w_lc0, w_iv2, tfr_0, tfr_1, tfr_2, tfr_3, tfr_4, w_re, true_and, and_true, Nat.reduceAdd, Nat.reduceSub, eq_self, tyk_4, tcq_4, tyk_3, tcq_3, hr, hm1, hm2]
        exact ⟨rfl, rfl, ⟨g3, BB_u g1 (fun i => g4.2.2 _ _ (by omega))⟩, BE_tr g2 (BE_1 g4)⟩
      refine ⟨by omega, fun h3 => ?_, fun h3 => ?_⟩
      · exact n58 _ (by rw [if_neg (by omega)]; exact v2) (BE_1 q4)
      refine tc_n (D := 0) (fun d' hd' => y_copy (b := b) (bxl_2 h0) (bxl_1 h0) q3 (Or.inl hb) q4.1) (by omega) ?_
      rintro M5 ⟨g1, g2⟩
      try simp only [kb_X2_dropSigns_26, w_ald_0, w_gf_4_0, tw_f, w_iv0, tfr_0, tfr_1, tfr_2, tfr_3, tfr_4, w_gf_4_1, w_iv1, w_if_eq, w_nil, true_and, and_true, Nat.reduceAdd, Nat.reduceSub, eq_self, tyk_4, tcq_4, tyk_3, tcq_3, hr, hm1, hm2]
      exact n58 _ (by rw [if_pos (by omega)]; exact g1) (BE_tr (BE_1 q4) (BE_2 g2))
    · have hh2 : ¬ 0 < hi := by omega
      rw [if_pos hh2, if_pos hh2]
      refine tc_n (D := 1) (fun d' hd' => z_turn (b := b) h0 hv r1 r2 hb hC hd') (by omega) ?_
      rintro M3 ⟨q3, q4⟩
      try simp only [kb_X2_dropSigns_11, w_ald_0, w_gf_4_1, tw_f, w_iv0, tfr_0, tfr_1, tfr_2, tfr_3, tfr_4, w_if_ne, w_re, true_and, and_true, Nat.reduceAdd, Nat.reduceSub, eq_self, tyk_4, tcq_4, tyk_3, tcq_3, hr, hm1, hm2]
      exact ⟨rfl, rfl, q3, q4⟩
  · rw [if_pos (by omega), if_pos (by omega)]
    exact ⟨rfl, rfl, hv, BE_refl hC⟩
theorem z_embrace {r x1 : Nat} {lo hi l2 h2 : Int} (h0 : cl r 4) (h1 : cl x1 4) (hn : r ≠ x1) (hv : BX M r lo hi) (hw : BX M x1 l2 h2) (r1 : RV lo ∧ RV hi) (r2 : RV l2 ∧ RV h2) (hb : b < 2) (hC : CI M) (hd : 1 ≤ d) : tC e d 1029 [.inr (.inr (.inl r)), .inr (.inr (.inl x1))] M n (tQn n (fun M' => BX M' r (if l2 < lo then l2 else lo) (if hi < h2 then h2 else hi) ∧ BE b M M' r)) := by
  have hr := h0.1
  have hm1 := (bxl_1 h0).1
  have hm2 := (bxl_2 h0).1
  have hx := h1.1
  have hx1 := (bxl_1 h1).1
  have hx2 := (bxl_2 h1).1
  have g := bx_ne h0 h1
  refine tst_X2_embrace ?_
  have n50 : ∀ M1 : tM, BX M1 r (if l2 < lo then l2 else lo) (if hi < h2 then h2 else hi) → BE b M M1 r → tT e d 1029 50 [some (.inr (.inr (.inl (r)))), some (.inr (.inr (.inl (x1))))] [] M1 n (tQn n (fun M' => BX M' r (if l2 < lo then l2 else lo) (if hi < h2 then h2 else hi) ∧ BE b M M' r)) := by
    intro M1 g1 g2
    refine tb_X2_embrace_50 (c := false) ?_
    simp only [kb_X2_embrace_50, w_re, true_and, and_true, Nat.reduceAdd, Nat.reduceSub, eq_self]
    exact ⟨rfl, rfl, g1, g2⟩
  have n25 : ∀ M1 : tM, BX M1 r (if l2 < lo then l2 else lo) hi → BE b M M1 r → tT e d 1029 25 [some (.inr (.inr (.inl (r)))), some (.inr (.inr (.inl (x1))))] [] M1 n (tQn n (fun M' => BX M' r (if l2 < lo then l2 else lo) (if hi < h2 then h2 else hi) ∧ BE b M M' r)) := by
    intro M1 g1 g2
    have w1 := BX_u hw h0 h1 hn g2.2
    refine tb_X2_embrace_25 (c := false) ?_
    simp only [kb_X2_embrace_25, w_ald_0, w_gf_4_1, tw_f, w_ald_1, w_iv1, tfr_0, tfr_1, tfr_2, tfr_3, tfr_4, w_if_eq, w_nil, true_and, and_true, Nat.reduceAdd, Nat.reduceSub, eq_self, tyk_4, tcq_4, tyk_3, tcq_3, hr, hm1, hm2, hx, hx1, hx2]
    refine tc_i (D := 0) (fun d' hd' => y_isBelow (bxl_2 h0) (bxl_2 h1) g1.2 w1.2 r1.2 r2.2) (by omega) ?_
    rintro z M2 ⟨q, rfl⟩
    try simp only [kb_X2_embrace_25, w_ald_0, w_gf_4_1, tw_f, w_ald_1, w_iv1, tfr_0, tfr_1, tfr_2, tfr_3, tfr_4, w_if_eq, w_nil, true_and, and_true, Nat.reduceAdd, Nat.reduceSub, eq_self, tyk_4, tcq_4, tyk_3, tcq_3, hr, hm1, hm2, hx, hx1, hx2]
    refine ⟨by omega, fun h => n50 _ ⟨g1.1, by rw [if_neg (by omega)]; exact g1.2⟩ g2, fun h => ?_⟩
    refine tc_n (D := 0) (fun d' hd' => y_copy (b := b) (bxl_2 h0) (bxl_2 h1) w1.2 (Or.inl hb) g2.1.1) (by omega) ?_
    rintro M3 ⟨q3, q4⟩
    try simp only [kb_X2_embrace_25, w_ald_0, w_gf_4_1, tw_f, w_ald_1, w_iv1, tfr_0, tfr_1, tfr_2, tfr_3, tfr_4, w_if_eq, w_nil, true_and, and_true, Nat.reduceAdd, Nat.reduceSub, eq_self, tyk_4, tcq_4, tyk_3, tcq_3, hr, hm1, hm2, hx, hx1, hx2]
    exact n50 _ ⟨BB_u g1.1 (fun i => q4.2.2 _ _ (by omega)), by rw [if_pos (by omega)]; exact q3⟩ (BE_tr g2 (BE_2 q4))
  refine tb_X2_embrace_0 (c := false) ?_
  simp only [kb_X2_embrace_0, w_ald_1, w_gf_4_0, tw_f, w_ald_0, w_iv1, tfr_0, tfr_1, tfr_2, tfr_3, tfr_4, w_if_eq, w_nil, true_and, and_true, Nat.reduceAdd, Nat.reduceSub, eq_self, tyk_4, tcq_4, tyk_3, tcq_3, hr, hm1, hm2, hx, hx1, hx2]
  refine tc_i (D := 0) (fun d' hd' => y_isBelow (bxl_1 h1) (bxl_1 h0) hw.1 hv.1 r2.1 r1.1) (by omega) ?_
  rintro z M2 ⟨q, rfl⟩
  try simp only [kb_X2_embrace_0, w_ald_1, w_gf_4_0, tw_f, w_ald_0, w_iv1, tfr_0, tfr_1, tfr_2, tfr_3, tfr_4, w_if_eq, w_nil, true_and, and_true, Nat.reduceAdd, Nat.reduceSub, eq_self, tyk_4, tcq_4, tyk_3, tcq_3, hr, hm1, hm2, hx, hx1, hx2]
  refine ⟨by omega, fun h => n25 _ ⟨by rw [if_neg (by omega)]; exact hv.1, hv.2⟩ (BE_refl hC), fun h => ?_⟩
  refine tc_n (D := 0) (fun d' hd' => y_copy (b := b) (bxl_1 h0) (bxl_1 h1) hw.1 (Or.inl hb) hC) (by omega) ?_
  rintro M3 ⟨q3, q4⟩
  try simp only [kb_X2_embrace_0, w_ald_1, w_gf_4_0, tw_f, w_ald_0, w_iv1, tfr_0, tfr_1, tfr_2, tfr_3, tfr_4, w_if_eq, w_nil, true_and, and_true, Nat.reduceAdd, Nat.reduceSub, eq_self, tyk_4, tcq_4, tyk_3, tcq_3, hr, hm1, hm2, hx, hx1, hx2]
  exact n25 _ ⟨by rw [if_pos (by omega)]; exact q3, BB_u hv.2 (fun i => q4.2.2 _ _ (by omega))⟩ (BE_1 q4)
theorem z_cutDownTo {r x1 : Nat} {lo hi l2 h2 : Int} (h0 : cl r 4) (h1 : cl x1 4) (hn : r ≠ x1) (hv : BX M r lo hi) (hw : BX M x1 l2 h2) (r1 : RV lo ∧ RV hi) (r2 : RV l2 ∧ RV h2) (hb : b < 2) (hC : CI M) (hd : 1 ≤ d) : tC e d 1027 [.inr (.inr (.inl r)), .inr (.inr (.inl x1))] M n (tQi n (fun z M' => BX M' r (if lo < l2 then l2 else lo) (if h2 < hi then h2 else hi) ∧ BE b M M' r ∧ ((z = 1 ∧ (if lo < l2 then l2 else lo) ≤ (if h2 < hi then h2 else hi)) ∨ (z = 0 ∧ ¬ (if lo < l2 then l2 else lo) ≤ (if h2 < hi then h2 else hi))))) := by
  have hr := h0.1
  have hm1 := (bxl_1 h0).1
  have hm2 := (bxl_2 h0).1
  have hx := h1.1
  have hx1 := (bxl_1 h1).1
  have hx2 := (bxl_2 h1).1
  have g := bx_ne h0 h1
  have ra : RV (if lo < l2 then l2 else lo) := by split; exact r2.1; exact r1.1
  have rb : RV (if h2 < hi then h2 else hi) := by split; exact r2.2; exact r1.2
  have ea : ∀ c : Prop, (if lo < l2 then l2 else lo) = (if lo < l2 then l2 else lo) := fun _ => rfl
  refine tst_X2_cutDownTo ?_
  have n69 : ∀ (M1 : tM) (z : Int), BX M1 r (if lo < l2 then l2 else lo) (if h2 < hi then h2 else hi) → BE b M M1 r → ((z = 1 ∧ (if lo < l2 then l2 else lo) ≤ (if h2 < hi then h2 else hi)) ∨ (z = 0 ∧ ¬ (if lo < l2 then l2 else lo) ≤ (if h2 < hi then h2 else hi))) → tT e d 1027 69 [some (.inr (.inr (.inl (r)))), some (.inr (.inr (.inl (x1))))] [.inl z] M1 n (tQi n (fun z M' => BX M' r (if lo < l2 then l2 else lo) (if h2 < hi then h2 else hi) ∧ BE b M M' r ∧ ((z = 1 ∧ (if lo < l2 then l2 else lo) ≤ (if h2 < hi then h2 else hi)) ∨ (z = 0 ∧ ¬ (if lo < l2 then l2 else lo) ≤ (if h2 < hi then h2 else hi))))) := by
    intro M1 z g1 g2 hz
    refine tb_X2_cutDownTo_69 (c := false) ?_
    simp only [kb_X2_cutDownTo_69, w_ire, trg, true_and, and_true, Nat.reduceAdd, Nat.reduceSub, eq_self]
    exact ⟨by omega, _, rfl, rfl, g1, g2, hz⟩
  have n50 : ∀ M1 : tM, BX M1 r (if lo < l2 then l2 else lo) (if h2 < hi then h2 else hi) → BE b M M1 r → tT e d 1027 50 [some (.inr (.inr (.inl (r)))), some (.inr (.inr (.inl (x1))))] [] M1 n (tQi n (fun z M' => BX M' r (if lo < l2 then l2 else lo) (if h2 < hi then h2 else hi) ∧ BE b M M' r ∧ ((z = 1 ∧ (if lo < l2 then l2 else lo) ≤ (if h2 < hi then h2 else hi)) ∨ (z = 0 ∧ ¬ (if lo < l2 then l2 else lo) ≤ (if h2 < hi then h2 else hi))))) := by
    intro M1 g1 g2
    generalize (if lo < l2 then l2 else lo) = A at *
    generalize (if h2 < hi then h2 else hi) = B at *
    refine tb_X2_cutDownTo_50 (c := false) ?_
    simp only [kb_X2_cutDownTo_50, w_ald_0, w_gf_4_1, tw_f, w_gf_4_0, w_iv1, tfr_0, tfr_1, tfr_2, tfr_3, tfr_4, w_if_ne, w_ic, w_goto, true_and, and_true, Nat.reduceAdd, Nat.reduceSub, eq_self, tyk_4, tcq_4, tyk_3, tcq_3, hr, hm1, hm2]
    refine tc_i (D := 0) (fun d' hd' => y_isBelow (bxl_2 h0) (bxl_1 h0) g1.2 g1.1 rb ra) (by omega) ?_
    rintro z M2 ⟨q, rfl⟩
    try simp only [kb_X2_cutDownTo_50, w_ald_0, w_gf_4_1, tw_f, w_gf_4_0, w_iv1, tfr_0, tfr_1, tfr_2, tfr_3, tfr_4, w_if_ne, w_ic, w_goto, true_and, and_true, Nat.reduceAdd, Nat.reduceSub, eq_self, tyk_4, tcq_4, tyk_3, tcq_3, hr, hm1, hm2]
    refine ⟨by omega, fun h => ?_, fun h => n69 _ 1 g1 g2 (Or.inl ⟨rfl, by omega⟩)⟩
    refine tb_X2_cutDownTo_68 (c := false) ?_
    simp only [kb_X2_cutDownTo_68, w_ic, w_nil, true_and, and_true, Nat.reduceAdd, Nat.reduceSub, eq_self]
    exact n69 _ 0 g1 g2 (Or.inr ⟨rfl, by omega⟩)
  have n25 : ∀ M1 : tM, BX M1 r (if lo < l2 then l2 else lo) hi → BE b M M1 r → tT e d 1027 25 [some (.inr (.inr (.inl (r)))), some (.inr (.inr (.inl (x1))))] [] M1 n (tQi n (fun z M' => BX M' r (if lo < l2 then l2 else lo) (if h2 < hi then h2 else hi) ∧ BE b M M' r ∧ ((z = 1 ∧ (if lo < l2 then l2 else lo) ≤ (if h2 < hi then h2 else hi)) ∨ (z = 0 ∧ ¬ (if lo < l2 then l2 else lo) ≤ (if h2 < hi then h2 else hi))))) := by
    intro M1 g1 g2
    have w1 := BX_u hw h0 h1 hn g2.2
    refine tb_X2_cutDownTo_25 (c := false) ?_
    simp only [kb_X2_cutDownTo_25, w_ald_1, w_gf_4_1, tw_f, w_ald_0, w_iv1, tfr_0, tfr_1, tfr_2, tfr_3, tfr_4, w_if_eq, w_nil, true_and, and_true, Nat.reduceAdd, Nat.reduceSub, eq_self, tyk_4, tcq_4, tyk_3, tcq_3, hr, hm1, hm2, hx, hx1, hx2]
    refine tc_i (D := 0) (fun d' hd' => y_isBelow (bxl_2 h1) (bxl_2 h0) w1.2 g1.2 r2.2 r1.2) (by omega) ?_
    rintro z M2 ⟨q, rfl⟩
    try simp only [kb_X2_cutDownTo_25, w_ald_1, w_gf_4_1, tw_f, w_ald_0, w_iv1, tfr_0, tfr_1, tfr_2, tfr_3, tfr_4, w_if_eq, w_nil, true_and, and_true, Nat.reduceAdd, Nat.reduceSub, eq_self, tyk_4, tcq_4, tyk_3, tcq_3, hr, hm1, hm2, hx, hx1, hx2]
    refine ⟨by omega, fun h => n50 _ ⟨g1.1, by rw [if_neg (by omega)]; exact g1.2⟩ g2, fun h => ?_⟩
    refine tc_n (D := 0) (fun d' hd' => y_copy (b := b) (bxl_2 h0) (bxl_2 h1) w1.2 (Or.inl hb) g2.1.1) (by omega) ?_
    rintro M3 ⟨q3, q4⟩
    try simp only [kb_X2_cutDownTo_25, w_ald_1, w_gf_4_1, tw_f, w_ald_0, w_iv1, tfr_0, tfr_1, tfr_2, tfr_3, tfr_4, w_if_eq, w_nil, true_and, and_true, Nat.reduceAdd, Nat.reduceSub, eq_self, tyk_4, tcq_4, tyk_3, tcq_3, hr, hm1, hm2, hx, hx1, hx2]
    exact n50 _ ⟨BB_u g1.1 (fun i => q4.2.2 _ _ (by omega)), by rw [if_pos (by omega)]; exact q3⟩ (BE_tr g2 (BE_2 q4))
  refine tb_X2_cutDownTo_0 (c := false) ?_
  simp only [kb_X2_cutDownTo_0, w_ald_0, w_gf_4_0, tw_f, w_ald_1, w_iv1, tfr_0, tfr_1, tfr_2, tfr_3, tfr_4, w_if_eq, w_nil, true_and, and_true, Nat.reduceAdd, Nat.reduceSub, eq_self, tyk_4, tcq_4, tyk_3, tcq_3, hr, hm1, hm2, hx, hx1, hx2]
  refine tc_i (D := 0) (fun d' hd' => y_isBelow (bxl_1 h0) (bxl_1 h1) hv.1 hw.1 r1.1 r2.1) (by omega) ?_
  rintro z M2 ⟨q, rfl⟩
  try simp only [kb_X2_cutDownTo_0, w_ald_0, w_gf_4_0, tw_f, w_ald_1, w_iv1, tfr_0, tfr_1, tfr_2, tfr_3, tfr_4, w_if_eq, w_nil, true_and, and_true, Nat.reduceAdd, Nat.reduceSub, eq_self, tyk_4, tcq_4, tyk_3, tcq_3, hr, hm1, hm2, hx, hx1, hx2]
  refine ⟨by omega, fun h => n25 _ ⟨by rw [if_neg (by omega)]; exact hv.1, hv.2⟩ (BE_refl hC), fun h => ?_⟩
  refine tc_n (D := 0) (fun d' hd' => y_copy (b := b) (bxl_1 h0) (bxl_1 h1) hw.1 (Or.inl hb) hC) (by omega) ?_
  rintro M3 ⟨q3, q4⟩
  try simp only [kb_X2_cutDownTo_0, w_ald_0, w_gf_4_0, tw_f, w_ald_1, w_iv1, tfr_0, tfr_1, tfr_2, tfr_3, tfr_4, w_if_eq, w_nil, true_and, and_true, Nat.reduceAdd, Nat.reduceSub, eq_self, tyk_4, tcq_4, tyk_3, tcq_3, hr, hm1, hm2, hx, hx1, hx2]
  exact n25 _ ⟨by rw [if_pos (by omega)]; exact q3, BB_u hv.2 (fun i => q4.2.2 _ _ (by omega))⟩ (BE_1 q4)
/-- the middle of a box -/
def mdv (u lo hi : Int) : Int := if lo < dnv u ((lo + hi) / 2) then dnv u ((lo + hi) / 2) else lo
theorem z_toMiddle {r x1 : Nat} {lo hi u : Int} (h0 : cl r 4) (h1 : cl x1 4) (hn : r ≠ x1) (hw : BX M x1 lo hi) (r2 : NF lo ∧ NF hi) (hu : UU u) (hb : b < 2) (hC : CI M) (hd : 2 ≤ d) : tC e d 1035 [.inr (.inr (.inl r)), .inr (.inr (.inl x1)), .inr (.inl u)] M n (tQi n (fun z M' => BX M' r (mdv u lo hi) (mdv u lo hi) ∧ BE b M M' r ∧ ((z = 1 ∧ lo < dnv u ((lo + hi) / 2)) ∨ (z = 0 ∧ ¬ lo < dnv u ((lo + hi) / 2))))) := by
  have hr := h0.1
  have hm1 := (bxl_1 h0).1
  have hm2 := (bxl_2 h0).1
  have hx := h1.1
  have hx1 := (bxl_1 h1).1
  have hx2 := (bxl_2 h1).1
  have g := bx_ne h0 h1
  have rs : RV (lo + hi) := by unfold NF at r2; unfold RV; omega
  have rh : RV ((lo + hi) / 2) := by unfold RV at rs ⊢; omega
  have hu1 := hu.1
  have rd : RV (dnv u ((lo + hi) / 2)) := by
    have := dnv_r (u := u) (v := (lo + hi) / 2) (by omega)
    unfold NF at r2
    unfold RV
    omega
  refine tst_X2_toMiddle ?_
  refine tb_X2_toMiddle_0 (c := false) ?_
  simp only [kb_X2_toMiddle_0, w_ald_0, w_gf_4_0, tw_f, w_ald_1, w_gf_4_1, w_iv2, tfr_0, tfr_1, tfr_2, tfr_3, tfr_4, w_iv0, w_lld_2, w_iv1, w_ist4, tkl_n, tkl_i, tkl_l, tkl_r, w_ild4, w_if_ne, w_nil, true_and, and_true, Nat.reduceAdd, Nat.reduceSub, eq_self, tyk_4, tcq_4, tyk_3, tcq_3, hr, hm1, hm2, hx, hx1, hx2]
  refine tc_n (D := 0) (fun d' hd' => y_toSum (b := b) (bxl_1 h0) (bxl_1 h1) (bxl_2 h1) hw.1 hw.2 (NF_r r2.1) (NF_r r2.2) (Or.inl hb) hC) (by omega) ?_
  rintro M1 ⟨p1, q1⟩
  try simp only [kb_X2_toMiddle_0, w_ald_0, w_gf_4_0, tw_f, w_ald_1, w_gf_4_1, w_iv2, tfr_0, tfr_1, tfr_2, tfr_3, tfr_4, w_iv0, w_lld_2, w_iv1, w_ist4, tkl_n, tkl_i, tkl_l, tkl_r, w_ild4, w_if_ne, w_nil, true_and, and_true, Nat.reduceAdd, Nat.reduceSub, eq_self, tyk_4, tcq_4, tyk_3, tcq_3, hr, hm1, hm2, hx, hx1, hx2]
  refine tc_n (D := 1) (fun d' hd' => y_halve (b := b) (bxl_1 h0) p1 rs (Or.inl hb) q1.1 hd') (by omega) ?_
  rintro M2 ⟨p2, q2⟩
  try simp only [kb_X2_toMiddle_0, w_ald_0, w_gf_4_0, tw_f, w_ald_1, w_gf_4_1, w_iv2, tfr_0, tfr_1, tfr_2, tfr_3, tfr_4, w_iv0, w_lld_2, w_iv1, w_ist4, tkl_n, tkl_i, tkl_l, tkl_r, w_ild4, w_if_ne, w_nil, true_and, and_true, Nat.reduceAdd, Nat.reduceSub, eq_self, tyk_4, tcq_4, tyk_3, tcq_3, hr, hm1, hm2, hx, hx1, hx2]
  refine tc_n (D := 0) (fun d' hd' => y_roundDown (b := b) (bxl_1 h0) p2 rh hu (Or.inl hb) q2.1) (by omega) ?_
  rintro M3 ⟨p3, q3⟩
  try simp only [kb_X2_toMiddle_0, w_ald_0, w_gf_4_0, tw_f, w_ald_1, w_gf_4_1, w_iv2, tfr_0, tfr_1, tfr_2, tfr_3, tfr_4, w_iv0, w_lld_2, w_iv1, w_ist4, tkl_n, tkl_i, tkl_l, tkl_r, w_ild4, w_if_ne, w_nil, true_and, and_true, Nat.reduceAdd, Nat.reduceSub, eq_self, tyk_4, tcq_4, tyk_3, tcq_3, hr, hm1, hm2, hx, hx1, hx2]
  have q03 := BE_tr (BE_1 q1) (BE_tr (BE_1 q2) (BE_1 q3))
  have w3 := BX_u hw h0 h1 hn q03.2
  generalize hm : dnv u ((lo + hi) / 2) = m at p3 rd ⊢
  refine tc_i (D := 0) (fun d' hd' => y_isBelow (bxl_1 h1) (bxl_1 h0) w3.1 p3 (NF_r r2.1) rd) (by omega) ?_
  rintro z M4 ⟨q, rfl⟩
  try simp only [kb_X2_toMiddle_0, w_ald_0, w_gf_4_0, tw_f, w_ald_1, w_gf_4_1, w_iv2, tfr_0, tfr_1, tfr_2, tfr_3, tfr_4, w_iv0, w_lld_2, w_iv1, w_ist4, tkl_n, tkl_i, tkl_l, tkl_r, w_ild4, w_if_ne, w_nil, true_and, and_true, Nat.reduceAdd, Nat.reduceSub, eq_self, tyk_4, tcq_4, tyk_3, tcq_3, hr, hm1, hm2, hx, hx1, hx2]
  have n59 : ∀ M5 : tM, BB M5 (r + 1) (mdv u lo hi) → BE b M M5 r → tT e d 1035 59 [some (.inr (.inr (.inl (r)))), some (.inr (.inr (.inl (x1)))), some (.inr (.inl (u))), none, some (.inl (z))] [] M5 n (tQi n (fun z M' => BX M' r (mdv u lo hi) (mdv u lo hi) ∧ BE b M M' r ∧ ((z = 1 ∧ lo < m) ∨ (z = 0 ∧ ¬ lo < m)))) := by
    intro M5 g1 g2
    refine tb_X2_toMiddle_59 (c := false) ?_
    simp only [kb_X2_toMiddle_59, w_ald_0, w_gf_4_1, tw_f, w_gf_4_0, w_iv1, tfr_0, tfr_1, tfr_2, tfr_3, tfr_4, w_ild4, w_ire, trg, true_and, and_true, Nat.reduceAdd, Nat.reduceSub, eq_self, tyk_4, tcq_4, tyk_3, tcq_3, hr, hm1, hm2]
    refine tc_n (D := 0) (fun d' hd' => y_copy (b := b) (bxl_2 h0) (bxl_1 h0) g1 (Or.inl hb) g2.1.1) (by omega) ?_
    rintro M6 ⟨g3, g4⟩
    try simp only [kb_X2_toMiddle_59, w_ald_0, w_gf_4_1, tw_f, w_gf_4_0, w_iv1, tfr_0, tfr_1, tfr_2, tfr_3, tfr_4, w_ild4, w_ire, trg, true_and, and_true, Nat.reduceAdd, Nat.reduceSub, eq_self, tyk_4, tcq_4, tyk_3, tcq_3, hr, hm1, hm2]
    exact ⟨by omega, _, rfl, rfl, ⟨BB_u g1 (fun i => g4.2.2 _ _ (by omega)), g3⟩, BE_tr g2 (BE_2 g4), q⟩
  refine ⟨by omega, fun h => ?_, fun h => ?_⟩
  · refine n59 _ ?_ q03
    unfold mdv
    rw [hm, if_pos (by omega)]
    exact p3
  refine tc_n (D := 0) (fun d' hd' => y_copy (b := b) (bxl_1 h0) (bxl_1 h1) w3.1 (Or.inl hb) q03.1.1) (by omega) ?_
  rintro M5 ⟨g1, g2⟩
  try simp only [kb_X2_toMiddle_0, w_ald_0, w_gf_4_0, tw_f, w_ald_1, w_gf_4_1, w_iv2, tfr_0, tfr_1, tfr_2, tfr_3, tfr_4, w_iv0, w_lld_2, w_iv1, w_ist4, tkl_n, tkl_i, tkl_l, tkl_r, w_ild4, w_if_ne, w_nil, true_and, and_true, Nat.reduceAdd, Nat.reduceSub, eq_self, tyk_4, tcq_4, tyk_3, tcq_3, hr, hm1, hm2, hx, hx1, hx2]
  refine n59 _ ?_ (BE_tr q03 (BE_1 g2))
  unfold mdv
  rw [hm, if_neg (by omega)]
  exact g1
theorem z_roundOut {r : Nat} {lo hi u : Int} (h0 : cl r 4) (hv : BX M r lo hi) (r1 : RV lo) (r2 : RV hi) (hu : UU u) (hb : b < 2) (hC : CI M) (hd : 1 ≤ d) : tC e d 1034 [.inr (.inr (.inl r)), .inr (.inl u)] M n (tQn n (fun M' => BX M' r (dnv u lo) (upv u hi) ∧ BE b M M' r)) := by
  have hr := h0.1
  have hm1 := (bxl_1 h0).1
  have hm2 := (bxl_2 h0).1
  refine tst_X2_roundOut ?_
  refine tb_X2_roundOut_0 (c := false) ?_
  simp only [kb_X2_roundOut_0, w_ald_0, w_gf_4_0, tw_f, w_lld_1, w_iv1, tfr_0, tfr_1, tfr_2, tfr_3, tfr_4, w_gf_4_1, w_ic, w_iv2, w_re, true_and, and_true, Nat.reduceAdd, Nat.reduceSub, eq_self, tyk_4, tcq_4, tyk_3, tcq_3, hr, hm1, hm2]
  refine tc_n (D := 0) (fun d' hd' => y_roundDown (b := b) (bxl_1 h0) hv.1 r1 hu (Or.inl hb) hC) (by omega) ?_
  rintro M1 ⟨p1, q1⟩
  try simp only [kb_X2_roundOut_0, w_ald_0, w_gf_4_0, tw_f, w_lld_1, w_iv1, tfr_0, tfr_1, tfr_2, tfr_3, tfr_4, w_gf_4_1, w_ic, w_iv2, w_re, true_and, and_true, Nat.reduceAdd, Nat.reduceSub, eq_self, tyk_4, tcq_4, tyk_3, tcq_3, hr, hm1, hm2]
  refine tc_n (D := 0) (fun d' hd' => y_roundUp (b := b) (bxl_2 h0) (BB_u hv.2 (fun i => q1.2.2 _ _ (by omega))) r2 hu (by omega) (Or.inl hb) q1.1) (by omega) ?_
  rintro M2 ⟨p2, q2⟩
  try simp only [kb_X2_roundOut_0, w_ald_0, w_gf_4_0, tw_f, w_lld_1, w_iv1, tfr_0, tfr_1, tfr_2, tfr_3, tfr_4, w_gf_4_1, w_ic, w_iv2, w_re, true_and, and_true, Nat.reduceAdd, Nat.reduceSub, eq_self, tyk_4, tcq_4, tyk_3, tcq_3, hr, hm1, hm2]
  rw [Int.sub_zero] at p2
  exact ⟨rfl, rfl, ⟨BB_u p1 (fun i => q2.2.2 _ _ (by omega)), p2⟩, BE_tr (BE_1 q1) (BE_2 q2)⟩
theorem z_judged {r : Nat} {lo hi : Int} (h0 : cl r 4) (hv : BX M r lo hi) (r1 : RV lo) (r2 : RV hi) (hd : 2 ≤ d) : tC e d 514 [.inr (.inr (.inl r))] M n (tQi n (fun z M' => ST z lo hi ∧ M' = M)) := by
  have hr := h0.1
  have k1 := NF_z (v := lo)
  have k2 := NF_z (v := hi)
  refine tst_X0_judged ?_
  refine tb_X0_judged_0 (c := false) ?_
  simp only [kb_X0_judged_0, w_ald_0, w_iv0, tfr_0, tfr_1, tfr_2, tfr_3, tfr_4, w_if_eq, w_ic, w_goto, true_and, and_true, Nat.reduceAdd, Nat.reduceSub, eq_self, tyk_4, tcq_4, tyk_3, tcq_3, hr]
  refine tc_i (D := 1) (fun d' hd' => z_tooGreat h0 hv r1 r2 hd') (by omega) ?_
  rintro z M1 ⟨q, rfl⟩
  try simp only [kb_X0_judged_0, w_ald_0, w_iv0, tfr_0, tfr_1, tfr_2, tfr_3, tfr_4, w_if_eq, w_ic, w_goto, true_and, and_true, Nat.reduceAdd, Nat.reduceSub, eq_self, tyk_4, tcq_4, tyk_3, tcq_3, hr]
  have n12 : ∀ z : Int, ST z lo hi → tT e d 514 12 [some (.inr (.inr (.inl (r))))] [.inl z] M1 n (tQi n (fun z M' => ST z lo hi ∧ M' = M1)) := by
    intro z hz
    refine tb_X0_judged_12 (c := false) ?_
    simp only [kb_X0_judged_12, w_ire, trg, true_and, and_true, Nat.reduceAdd, Nat.reduceSub, eq_self]
    exact ⟨_, rfl, rfl, hz, rfl⟩
  refine ⟨by omega, fun h => ?_, fun h => ?_⟩
  · refine tb_X0_judged_11 (c := false) ?_
    simp only [kb_X0_judged_11, w_ic, w_nil, true_and, and_true, Nat.reduceAdd, Nat.reduceSub, eq_self]
    refine n12 0 (Or.inr ⟨rfl, ?_⟩)
    rcases q with ⟨q, _⟩ | ⟨_, q⟩
    · omega
    · exact ⟨k1.mp (fun g => q (Or.inl g)), k2.mp (fun g => q (Or.inr g))⟩
  · refine n12 2 (Or.inl ⟨rfl, ?_⟩)
    rcases q with ⟨_, q⟩ | ⟨q, _⟩
    · rintro ⟨g1, g2⟩
      rcases q with q | q
      · exact k1.mpr g1 q
      · exact k2.mpr g2 q
    · omega
/-- the cells of the acts, and one box -/
def AE (b : Nat) (M M' : tM) (r : Nat) : Prop := (CI M' ∧ pE b M M') ∧ ∀ (k : Nat) (i : Int), (k < 78 ∨ 111 < k) → k ≠ r + 1 → k ≠ r + 2 → M' k i = M k i
theorem AE_b {r : Nat} {M M' : tM} (h : BE b M M' r) : AE b M M' r := ⟨h.1, fun k i _ a c => h.2 k i a c⟩
theorem AE_tr {r : Nat} {M M1 M2 : tM} (h1 : AE b M M1 r) (h2 : AE b M1 M2 r) : AE b M M2 r := ⟨⟨h2.1.1, pE_tr h1.1.2 h2.1.2⟩, fun k i a c g => (h2.2 k i a c g).trans (h1.2 k i a c g)⟩
theorem AE_r {r s : Nat} {M M' : tM} (h : BD b M M' s) (hs : 78 ≤ s ∧ s ≤ 111) : AE b M M' r := ⟨⟨h.1, h.2.1⟩, fun k i a _ _ => h.2.2 k i (by omega)⟩
theorem UN_78 {M M' : tM} (h : pE b M M') : M' 78 5 = M 78 5 := h 78 5 (Or.inr (Or.inr (Or.inr ⟨rfl, rfl⟩)))
theorem z_negative {r : Nat} {lo hi : Int} (h0 : cl r 4) (hv : BX M r lo hi) (r1 : NF lo) (r2 : NF hi) (hu : UU (M 78 5)) (hb : b < 2) (hC : CI M) (hd : 3 ≤ d) : tC e d 515 [.inr (.inr (.inl 78)), .inr (.inr (.inl r))] M n (tQi n (fun z M' => (BX M' r (dnv (M 78 5) (-hi)) (upv (M 78 5) (-lo)) ∧ ST z (dnv (M 78 5) (-hi)) (upv (M 78 5) (-lo))) ∧ BE b M M' r)) := by
  have hr := h0.1
  have hu1 := hu.1
  refine tst_X0_negative ?_
  refine tb_X0_negative_0 (c := false) ?_
  simp only [kb_X0_negative_0, w_ald_1, w_iv0, tfr_0, tfr_1, tfr_2, tfr_3, tfr_4, w_ald_0, w_gf_2_5, tw_f, w_iv1, w_is1, w_ire, trg, true_and, and_true, Nat.reduceAdd, Nat.reduceSub, eq_self, tsh_78, tsh_79, tsh_80, tyk_4, tyk_2, tyk_10, tyk_3, tcq_4, tcq_2, tcq_10, tcq_3, hr]
  refine tc_n (D := 1) (fun d' hd' => z_turn (b := b) h0 hv (NF_r r1) (NF_r r2) hb hC hd') (by omega) ?_
  rintro M1 ⟨q1, q2⟩
  try simp only [kb_X0_negative_0, w_ald_1, w_iv0, tfr_0, tfr_1, tfr_2, tfr_3, tfr_4, w_ald_0, w_gf_2_5, tw_f, w_iv1, w_is1, w_ire, trg, true_and, and_true, Nat.reduceAdd, Nat.reduceSub, eq_self, tsh_78, tsh_79, tsh_80, tyk_4, tyk_2, tyk_10, tyk_3, tcq_4, tcq_2, tcq_10, tcq_3, hr]
  rw [UN_78 q2.1.2]
  refine tc_n (D := 1) (fun d' hd' => z_roundOut (b := b) h0 q1 (RV_n (NF_r r2)) (RV_n (NF_r r1)) hu hb q2.1.1 hd') (by omega) ?_
  rintro M2 ⟨q3, q4⟩
  try simp only [kb_X0_negative_0, w_ald_1, w_iv0, tfr_0, tfr_1, tfr_2, tfr_3, tfr_4, w_ald_0, w_gf_2_5, tw_f, w_iv1, w_is1, w_ire, trg, true_and, and_true, Nat.reduceAdd, Nat.reduceSub, eq_self, tsh_78, tsh_79, tsh_80, tyk_4, tyk_2, tyk_10, tyk_3, tcq_4, tcq_2, tcq_10, tcq_3, hr]
  have g1 := dnv_r (v := -hi) (show 0 < M 78 5 by omega)
  have g2 := dnv_r (v := - -lo) (show 0 < M 78 5 by omega)
  refine tc_i (D := 2) (fun d' hd' => z_judged h0 q3 (by unfold NF at r1 r2; unfold RV; omega) (by unfold NF at r1 r2; unfold RV upv; omega) hd') (by omega) ?_
  rintro z M3 ⟨q5, rfl⟩
  try simp only [kb_X0_negative_0, w_ald_1, w_iv0, tfr_0, tfr_1, tfr_2, tfr_3, tfr_4, w_ald_0, w_gf_2_5, tw_f, w_iv1, w_is1, w_ire, trg, true_and, and_true, Nat.reduceAdd, Nat.reduceSub, eq_self, tsh_78, tsh_79, tsh_80, tyk_4, tyk_2, tyk_10, tyk_3, tcq_4, tcq_2, tcq_10, tcq_3, hr]
  exact ⟨_, rfl, rfl, ⟨q3, q5⟩, BE_tr q2 q4⟩
theorem ab_r {lo hi : Int} (r1 : NF lo) (r2 : NF hi) : NF (abLo lo hi) ∧ NF (abHi lo hi) := by
  unfold NF at r1 r2
  unfold abLo abHi NF
  split
  · omega
  · split
    · omega
    · split <;> omega
theorem z_size {r : Nat} {lo hi : Int} (h0 : cl r 4) (hv : BX M r lo hi) (r1 : NF lo) (r2 : NF hi) (hu : UU (M 78 5)) (hb : b < 2) (hC : CI M) (hd : 3 ≤ d) : tC e d 519 [.inr (.inr (.inl 78)), .inr (.inr (.inl r))] M n (tQi n (fun z M' => (BX M' r (dnv (M 78 5) (abLo lo hi)) (upv (M 78 5) (abHi lo hi)) ∧ ST z (dnv (M 78 5) (abLo lo hi)) (upv (M 78 5) (abHi lo hi))) ∧ BE b M M' r)) := by
  have hr := h0.1
  have hu1 := hu.1
  have ar := ab_r r1 r2
  refine tst_X0_size ?_
  refine tb_X0_size_0 (c := false) ?_
  simp only [kb_X0_size_0, w_ald_1, w_iv0, tfr_0, tfr_1, tfr_2, tfr_3, tfr_4, w_ald_0, w_gf_2_5, tw_f, w_iv1, w_is1, w_ire, trg, true_and, and_true, Nat.reduceAdd, Nat.reduceSub, eq_self, tsh_78, tsh_79, tsh_80, tyk_4, tyk_2, tyk_10, tyk_3, tcq_4, tcq_2, tcq_10, tcq_3, hr]
  refine tc_n (D := 2) (fun d' hd' => z_dropSigns (b := b) h0 hv (NF_r r1) (NF_r r2) hb hC hd') (by omega) ?_
  rintro M1 ⟨q1, q2⟩
  try simp only [kb_X0_size_0, w_ald_1, w_iv0, tfr_0, tfr_1, tfr_2, tfr_3, tfr_4, w_ald_0, w_gf_2_5, tw_f, w_iv1, w_is1, w_ire, trg, true_and, and_true, Nat.reduceAdd, Nat.reduceSub, eq_self, tsh_78, tsh_79, tsh_80, tyk_4, tyk_2, tyk_10, tyk_3, tcq_4, tcq_2, tcq_10, tcq_3, hr]
  rw [UN_78 q2.1.2]
  refine tc_n (D := 1) (fun d' hd' => z_roundOut (b := b) h0 q1 (NF_r ar.1) (NF_r ar.2) hu hb q2.1.1 hd') (by omega) ?_
  rintro M2 ⟨q3, q4⟩
  try simp only [kb_X0_size_0, w_ald_1, w_iv0, tfr_0, tfr_1, tfr_2, tfr_3, tfr_4, w_ald_0, w_gf_2_5, tw_f, w_iv1, w_is1, w_ire, trg, true_and, and_true, Nat.reduceAdd, Nat.reduceSub, eq_self, tsh_78, tsh_79, tsh_80, tyk_4, tyk_2, tyk_10, tyk_3, tcq_4, tcq_2, tcq_10, tcq_3, hr]
  have g1 := dnv_r (v := abLo lo hi) (show 0 < M 78 5 by omega)
  have g2 := dnv_r (v := -abHi lo hi) (show 0 < M 78 5 by omega)
  refine tc_i (D := 2) (fun d' hd' => z_judged h0 q3 (by unfold NF at ar; unfold RV; omega) (by unfold NF at ar; unfold RV upv; omega) hd') (by omega) ?_
  rintro z M3 ⟨q5, rfl⟩
  try simp only [kb_X0_size_0, w_ald_1, w_iv0, tfr_0, tfr_1, tfr_2, tfr_3, tfr_4, w_ald_0, w_gf_2_5, tw_f, w_iv1, w_is1, w_ire, trg, true_and, and_true, Nat.reduceAdd, Nat.reduceSub, eq_self, tsh_78, tsh_79, tsh_80, tyk_4, tyk_2, tyk_10, tyk_3, tcq_4, tcq_2, tcq_10, tcq_3, hr]
  exact ⟨_, rfl, rfl, ⟨q3, q5⟩, BE_tr q2 q4⟩
theorem z_sum {r x1 : Nat} {lo hi l2 h2 : Int} (h0 : cl r 4) (h1 : cl x1 4) (hn : r ≠ x1) (hv : BX M r lo hi) (hw : BX M x1 l2 h2) (r1 : NF lo ∧ NF hi) (r2 : NF l2 ∧ NF h2) (hu : UU (M 78 5)) (hb : b < 2) (hC : CI M) (hd : 3 ≤ d) : tC e d 520 [.inr (.inr (.inl 78)), .inr (.inr (.inl r)), .inr (.inr (.inl x1))] M n (tQi n (fun z M' => (BX M' r (dnv (M 78 5) (lo + l2)) (upv (M 78 5) (hi + h2)) ∧ ST z (dnv (M 78 5) (lo + l2)) (upv (M 78 5) (hi + h2))) ∧ BE b M M' r)) := by
  have hr := h0.1
  have hm1 := (bxl_1 h0).1
  have hm2 := (bxl_2 h0).1
  have hx := h1.1
  have hx1 := (bxl_1 h1).1
  have hx2 := (bxl_2 h1).1
  have g := bx_ne h0 h1
  have hu1 := hu.1
  have ra : RV (lo + l2) := by unfold NF at r1 r2; unfold RV; omega
  have rb : RV (hi + h2) := by unfold NF at r1 r2; unfold RV; omega
  refine tst_X0_sum ?_
  refine tb_X0_sum_0 (c := false) ?_
  simp only [kb_X0_sum_0, w_ald_1, w_gf_4_0, tw_f, w_ald_2, w_iv2, tfr_0, tfr_1, tfr_2, tfr_3, tfr_4, w_gf_4_1, w_ald_0, w_gf_2_5, w_iv1, w_is1, w_ire, trg, true_and, and_true, Nat.reduceAdd, Nat.reduceSub, eq_self, tsh_78, tsh_79, tsh_80, tyk_4, tyk_2, tyk_10, tyk_3, tcq_4, tcq_2, tcq_10, tcq_3, hr, hm1, hm2, hx, hx1, hx2]
  refine tc_n (D := 0) (fun d' hd' => y_toSum (b := b) (bxl_1 h0) (bxl_1 h0) (bxl_1 h1) hv.1 hw.1 (NF_r r1.1) (NF_r r2.1) (Or.inl hb) hC) (by omega) ?_
  rintro M1 ⟨p1, q1⟩
  try simp only [kb_X0_sum_0, w_ald_1, w_gf_4_0, tw_f, w_ald_2, w_iv2, tfr_0, tfr_1, tfr_2, tfr_3, tfr_4, w_gf_4_1, w_ald_0, w_gf_2_5, w_iv1, w_is1, w_ire, trg, true_and, and_true, Nat.reduceAdd, Nat.reduceSub, eq_self, tsh_78, tsh_79, tsh_80, tyk_4, tyk_2, tyk_10, tyk_3, tcq_4, tcq_2, tcq_10, tcq_3, hr, hm1, hm2, hx, hx1, hx2]
  refine tc_n (D := 0) (fun d' hd' => y_toSum (b := b) (bxl_2 h0) (bxl_2 h0) (bxl_2 h1) (BB_u hv.2 (fun i => q1.2.2 _ _ (by omega))) (BB_u hw.2 (fun i => q1.2.2 _ _ (by omega))) (NF_r r1.2) (NF_r r2.2) (Or.inl hb) q1.1) (by omega) ?_
  rintro M2 ⟨p2, q2⟩
  try simp only [kb_X0_sum_0, w_ald_1, w_gf_4_0, tw_f, w_ald_2, w_iv2, tfr_0, tfr_1, tfr_2, tfr_3, tfr_4, w_gf_4_1, w_ald_0, w_gf_2_5, w_iv1, w_is1, w_ire, trg, true_and, and_true, Nat.reduceAdd, Nat.reduceSub, eq_self, tsh_78, tsh_79, tsh_80, tyk_4, tyk_2, tyk_10, tyk_3, tcq_4, tcq_2, tcq_10, tcq_3, hr, hm1, hm2, hx, hx1, hx2]
  have q02 := BE_tr (BE_1 q1) (BE_2 q2)
  rw [UN_78 q02.1.2]
  refine tc_n (D := 1) (fun d' hd' => z_roundOut (b := b) h0 ⟨BB_u p1 (fun i => q2.2.2 _ _ (by omega)), p2⟩ ra rb hu hb q02.1.1 hd') (by omega) ?_
  rintro M3 ⟨q3, q4⟩
  try simp only [kb_X0_sum_0, w_ald_1, w_gf_4_0, tw_f, w_ald_2, w_iv2, tfr_0, tfr_1, tfr_2, tfr_3, tfr_4, w_gf_4_1, w_ald_0, w_gf_2_5, w_iv1, w_is1, w_ire, trg, true_and, and_true, Nat.reduceAdd, Nat.reduceSub, eq_self, tsh_78, tsh_79, tsh_80, tyk_4, tyk_2, tyk_10, tyk_3, tcq_4, tcq_2, tcq_10, tcq_3, hr, hm1, hm2, hx, hx1, hx2]
  have g1 := dnv_r (v := lo + l2) (show 0 < M 78 5 by omega)
  have g2 := dnv_r (v := -(hi + h2)) (show 0 < M 78 5 by omega)
  refine tc_i (D := 2) (fun d' hd' => z_judged h0 q3 (by unfold NF at r1 r2; unfold RV; omega) (by unfold NF at r1 r2; unfold RV upv; omega) hd') (by omega) ?_
  rintro z M4 ⟨q5, rfl⟩
  try simp only [kb_X0_sum_0, w_ald_1, w_gf_4_0, tw_f, w_ald_2, w_iv2, tfr_0, tfr_1, tfr_2, tfr_3, tfr_4, w_gf_4_1, w_ald_0, w_gf_2_5, w_iv1, w_is1, w_ire, trg, true_and, and_true, Nat.reduceAdd, Nat.reduceSub, eq_self, tsh_78, tsh_79, tsh_80, tyk_4, tyk_2, tyk_10, tyk_3, tcq_4, tcq_2, tcq_10, tcq_3, hr, hm1, hm2, hx, hx1, hx2]
  exact ⟨_, rfl, rfl, ⟨q3, q5⟩, BE_tr q02 q4⟩
theorem z_difference {r x1 : Nat} {lo hi l2 h2 : Int} (h0 : cl r 4) (h1 : cl x1 4) (hn : r ≠ x1) (hv : BX M r lo hi) (hw : BX M x1 l2 h2) (r1 : NF lo ∧ NF hi) (r2 : NF l2 ∧ NF h2) (hu : UU (M 78 5)) (hb : b < 2) (hC : CI M) (hd : 3 ≤ d) : tC e d 513 [.inr (.inr (.inl 78)), .inr (.inr (.inl r)), .inr (.inr (.inl x1))] M n (tQi n (fun z M' => (BX M' r (dnv (M 78 5) (lo - h2)) (upv (M 78 5) (hi - l2)) ∧ ST z (dnv (M 78 5) (lo - h2)) (upv (M 78 5) (hi - l2))) ∧ BE b M M' r)) := by
  have hr := h0.1
  have hm1 := (bxl_1 h0).1
  have hm2 := (bxl_2 h0).1
  have hx := h1.1
  have hx1 := (bxl_1 h1).1
  have hx2 := (bxl_2 h1).1
  have g := bx_ne h0 h1
  have hu1 := hu.1
  have ra : RV (lo - h2) := by unfold NF at r1 r2; unfold RV; omega
  have rb : RV (hi - l2) := by unfold NF at r1 r2; unfold RV; omega
  refine tst_X0_difference ?_
  refine tb_X0_difference_0 (c := false) ?_
  simp only [kb_X0_difference_0, w_ald_1, w_gf_4_0, tw_f, w_ald_2, w_gf_4_1, w_iv2, tfr_0, tfr_1, tfr_2, tfr_3, tfr_4, w_ald_0, w_gf_2_5, w_iv1, w_is1, w_ire, trg, true_and, and_true, Nat.reduceAdd, Nat.reduceSub, eq_self, tsh_78, tsh_79, tsh_80, tyk_4, tyk_2, tyk_10, tyk_3, tcq_4, tcq_2, tcq_10, tcq_3, hr, hm1, hm2, hx, hx1, hx2]
  refine tc_n (D := 0) (fun d' hd' => y_toDifference (b := b) (bxl_1 h0) (bxl_1 h0) (bxl_2 h1) hv.1 hw.2 (NF_r r1.1) (NF_r r2.2) (Or.inl hb) hC) (by omega) ?_
  rintro M1 ⟨p1, q1⟩
  try simp only [kb_X0_difference_0, w_ald_1, w_gf_4_0, tw_f, w_ald_2, w_gf_4_1, w_iv2, tfr_0, tfr_1, tfr_2, tfr_3, tfr_4, w_ald_0, w_gf_2_5, w_iv1, w_is1, w_ire, trg, true_and, and_true, Nat.reduceAdd, Nat.reduceSub, eq_self, tsh_78, tsh_79, tsh_80, tyk_4, tyk_2, tyk_10, tyk_3, tcq_4, tcq_2, tcq_10, tcq_3, hr, hm1, hm2, hx, hx1, hx2]
  refine tc_n (D := 0) (fun d' hd' => y_toDifference (b := b) (bxl_2 h0) (bxl_2 h0) (bxl_1 h1) (BB_u hv.2 (fun i => q1.2.2 _ _ (by omega))) (BB_u hw.1 (fun i => q1.2.2 _ _ (by omega))) (NF_r r1.2) (NF_r r2.1) (Or.inl hb) q1.1) (by omega) ?_
  rintro M2 ⟨p2, q2⟩
  try simp only [kb_X0_difference_0, w_ald_1, w_gf_4_0, tw_f, w_ald_2, w_gf_4_1, w_iv2, tfr_0, tfr_1, tfr_2, tfr_3, tfr_4, w_ald_0, w_gf_2_5, w_iv1, w_is1, w_ire, trg, true_and, and_true, Nat.reduceAdd, Nat.reduceSub, eq_self, tsh_78, tsh_79, tsh_80, tyk_4, tyk_2, tyk_10, tyk_3, tcq_4, tcq_2, tcq_10, tcq_3, hr, hm1, hm2, hx, hx1, hx2]
  have q02 := BE_tr (BE_1 q1) (BE_2 q2)
  rw [UN_78 q02.1.2]
  refine tc_n (D := 1) (fun d' hd' => z_roundOut (b := b) h0 ⟨BB_u p1 (fun i => q2.2.2 _ _ (by omega)), p2⟩ ra rb hu hb q02.1.1 hd') (by omega) ?_
  rintro M3 ⟨q3, q4⟩
  try simp only [kb_X0_difference_0, w_ald_1, w_gf_4_0, tw_f, w_ald_2, w_gf_4_1, w_iv2, tfr_0, tfr_1, tfr_2, tfr_3, tfr_4, w_ald_0, w_gf_2_5, w_iv1, w_is1, w_ire, trg, true_and, and_true, Nat.reduceAdd, Nat.reduceSub, eq_self, tsh_78, tsh_79, tsh_80, tyk_4, tyk_2, tyk_10, tyk_3, tcq_4, tcq_2, tcq_10, tcq_3, hr, hm1, hm2, hx, hx1, hx2]
  have g1 := dnv_r (v := lo - h2) (show 0 < M 78 5 by omega)
  have g2 := dnv_r (v := -(hi - l2)) (show 0 < M 78 5 by omega)
  refine tc_i (D := 2) (fun d' hd' => z_judged h0 q3 (by unfold NF at r1 r2; unfold RV; omega) (by unfold NF at r1 r2; unfold RV upv; omega) hd') (by omega) ?_
  rintro z M4 ⟨q5, rfl⟩
  try simp only [kb_X0_difference_0, w_ald_1, w_gf_4_0, tw_f, w_ald_2, w_gf_4_1, w_iv2, tfr_0, tfr_1, tfr_2, tfr_3, tfr_4, w_ald_0, w_gf_2_5, w_iv1, w_is1, w_ire, trg, true_and, and_true, Nat.reduceAdd, Nat.reduceSub, eq_self, tsh_78, tsh_79, tsh_80, tyk_4, tyk_2, tyk_10, tyk_3, tcq_4, tcq_2, tcq_10, tcq_3, hr, hm1, hm2, hx, hx1, hx2]
  exact ⟨_, rfl, rfl, ⟨q3, q5⟩, BE_tr q02 q4⟩
theorem z_told {r : Nat} {t : Int} (h0 : cl r 4) (hR : RN M t) (rt : RV t) (hu : UU (M 78 5)) (hb : b < 2) (hC : CI M) (hd : 2 ≤ d) : tC e d 524 [.inr (.inr (.inl 78)), .inr (.inr (.inl r))] M n (tQi n (fun z M' => (BX M' r (dn (M 78 5) t) (up (M 78 5) t) ∧ ST z (dn (M 78 5) t) (up (M 78 5) t)) ∧ BE b M M' r)) := by
  have hr := h0.1
  have hm1 := (bxl_1 h0).1
  have hm2 := (bxl_2 h0).1
  have h80 := bx_80 h0
  have h78 : r + 1 ≠ 78 ∧ r + 2 ≠ 78 := ⟨fun q => (by rw [q, tsh_78] at hm1; cases hm1), fun q => (by rw [q, tsh_78] at hm2; cases hm2)⟩
  have h79 : r + 1 ≠ 79 := fun q => by rw [q, tsh_79] at hm1; cases hm1
  have hu1 := hu.1
  refine tst_X0_told ?_
  refine tb_X0_told_0 (c := false) ?_
  simp only [kb_X0_told_0, w_ald_0, w_gf_2_0, tw_f, w_ald_1, w_gf_4_0, w_gf_2_5, w_iv2, tfr_0, tfr_1, tfr_2, tfr_3, tfr_4, w_gf_4_1, w_iv0, w_if_eq, w_ic, w_goto, true_and, and_true, Nat.reduceAdd, Nat.reduceSub, eq_self, tsh_78, tsh_79, tsh_80, tyk_4, tyk_2, tyk_10, tyk_3, tcq_4, tcq_2, tcq_10, tcq_3, hr, hm1, hm2]
  refine tc_n (D := 1) (fun d' hd' => y_tellDown (b := b) (bxl_1 h0) hR rt hu (Or.inl hb) hC hd') (by omega) ?_
  rintro M1 ⟨q1, q2⟩
  try simp only [kb_X0_told_0, w_ald_0, w_gf_2_0, tw_f, w_ald_1, w_gf_4_0, w_gf_2_5, w_iv2, tfr_0, tfr_1, tfr_2, tfr_3, tfr_4, w_gf_4_1, w_iv0, w_if_eq, w_ic, w_goto, true_and, and_true, Nat.reduceAdd, Nat.reduceSub, eq_self, tsh_78, tsh_79, tsh_80, tyk_4, tyk_2, tyk_10, tyk_3, tcq_4, tcq_2, tcq_10, tcq_3, hr, hm1, hm2]
  rw [UN_78 q2.2.1]
  have hR1 : RN M1 t := ⟨BB_u hR.1 (fun i => q2.2.2 _ _ (by omega)), (q2.2.2 79 1 (Ne.symm h79)).trans hR.2⟩
  refine tc_n (D := 1) (fun d' hd' => y_tellUp (b := b) (bxl_2 h0) hR1 rt hu (Or.inl hb) q2.1 hd') (by omega) ?_
  rintro M2 ⟨q3, q4⟩
  try simp only [kb_X0_told_0, w_ald_0, w_gf_2_0, tw_f, w_ald_1, w_gf_4_0, w_gf_2_5, w_iv2, tfr_0, tfr_1, tfr_2, tfr_3, tfr_4, w_gf_4_1, w_iv0, w_if_eq, w_ic, w_goto, true_and, and_true, Nat.reduceAdd, Nat.reduceSub, eq_self, tsh_78, tsh_79, tsh_80, tyk_4, tyk_2, tyk_10, tyk_3, tcq_4, tcq_2, tcq_10, tcq_3, hr, hm1, hm2]
  have bx : BX M2 r (dn (M 78 5) t) (up (M 78 5) t) := ⟨BB_u q1 (fun i => q4.2.2 _ _ (by omega)), q3⟩
  have g1 := dnv_r (v := t / 2) (show 0 < M 78 5 by omega)
  have g2 := dnv_r (v := -t / 2) (show 0 < M 78 5 by omega)
  have ra : RV (dn (M 78 5) t) := by unfold RV at rt ⊢; unfold dn; omega
  have rb : RV (up (M 78 5) t) := by unfold RV at rt ⊢; unfold up dn; omega
  have k1 := NF_z (v := dn (M 78 5) t)
  have k2 := NF_z (v := up (M 78 5) t)
  refine tc_i (D := 1) (fun d' hd' => z_tooGreat h0 bx ra rb hd') (by omega) ?_
  rintro z M3 ⟨q, rfl⟩
  try simp only [kb_X0_told_0, w_ald_0, w_gf_2_0, tw_f, w_ald_1, w_gf_4_0, w_gf_2_5, w_iv2, tfr_0, tfr_1, tfr_2, tfr_3, tfr_4, w_gf_4_1, w_iv0, w_if_eq, w_ic, w_goto, true_and, and_true, Nat.reduceAdd, Nat.reduceSub, eq_self, tsh_78, tsh_79, tsh_80, tyk_4, tyk_2, tyk_10, tyk_3, tcq_4, tcq_2, tcq_10, tcq_3, hr, hm1, hm2]
  have n42 : ∀ z : Int, ST z (dn (M 78 5) t) (up (M 78 5) t) → tT e d 524 42 [some (.inr (.inr (.inl (78)))), some (.inr (.inr (.inl (r))))] [.inl z] M3 n (tQi n (fun z M' => (BX M' r (dn (M 78 5) t) (up (M 78 5) t) ∧ ST z (dn (M 78 5) t) (up (M 78 5) t)) ∧ BE b M M' r)) := by
    intro z hz
    refine tb_X0_told_42 (c := false) ?_
    simp only [kb_X0_told_42, w_ire, trg, true_and, and_true, Nat.reduceAdd, Nat.reduceSub, eq_self]
    exact ⟨_, rfl, rfl, ⟨bx, hz⟩, BE_tr (BE_1 q2) (BE_2 q4)⟩
  refine ⟨by omega, fun h => ?_, fun h => ?_⟩
  · refine tb_X0_told_41 (c := false) ?_
    simp only [kb_X0_told_41, w_ic, w_nil, true_and, and_true, Nat.reduceAdd, Nat.reduceSub, eq_self]
    refine n42 0 (Or.inr ⟨rfl, ?_⟩)
    rcases q with ⟨q, _⟩ | ⟨_, q⟩
    · omega
    · exact ⟨k1.mp (fun g => q (Or.inl g)), k2.mp (fun g => q (Or.inr g))⟩
  · refine n42 2 (Or.inl ⟨rfl, ?_⟩)
    rcases q with ⟨_, q⟩ | ⟨q, _⟩
    · rintro ⟨g1, g2⟩
      rcases q with q | q
      · exact k1.mpr g1 q
      · exact k2.mpr g2 q
    · omega
end HAND
