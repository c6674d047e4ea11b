/-! WHAT HOLDS BETWEEN CALLS: kept by single acts, numbers, values. -/
theorem AR_p {u a num : Int} {s m m' : Nat} {X Y : Int × Int} {B B' : Nat → Int × Int} (ha : a = 43 ∨ a = 45 ∨ a = 42 ∨ a = 47) (h : AR u X Y a num s m B m' B') : m' = m - 1 := by
  have hOO : OOK a s → False := fun q => by unfold OOK at q; omega
  unfold AR at h
  rcases h with ⟨q, _⟩ | ⟨q, _⟩ | ⟨q, _⟩ | ⟨q, _⟩ | ⟨_, _, q, _⟩ | ⟨_, _, q, _⟩ | ⟨_, _, q, _⟩ | ⟨_, _, q, _⟩ | ⟨q, _⟩ | ⟨q, _⟩ | ⟨q, _⟩
  · omega
  · omega
  · omega
  · omega
  · exact q
  · exact q
  · exact q
  · exact q
  · omega
  · omega
  · exact (hOO q).elim
theorem AR_1 {u a num : Int} {s m m' : Nat} {X Y : Int × Int} {B B' : Nat → Int × Int} (ha : a = 126 ∨ a = 98 ∨ OOK a s) (h : AR u X Y a num s m B m' B') : m' = m := by
  have hOO : OOK a s → a = 94 ∨ a = 114 ∨ a = 101 ∨ a = 108 ∨ a = 97 := fun q => by unfold OOK at q; omega
  have ha2 : a = 126 ∨ a = 98 ∨ a = 94 ∨ a = 114 ∨ a = 101 ∨ a = 108 ∨ a = 97 := by
    rcases ha with q | q | q
    · omega
    · omega
    · have := hOO q
      omega
  unfold AR at h
  rcases h with ⟨q, _⟩ | ⟨q, _⟩ | ⟨q, _⟩ | ⟨q, _⟩ | ⟨q, _⟩ | ⟨q, _⟩ | ⟨q, _⟩ | ⟨q, _⟩ | ⟨_, _, q, _⟩ | ⟨_, _, q, _⟩ | ⟨_, _, q, _⟩
  · omega
  · omega
  · omega
  · omega
  · omega
  · omega
  · omega
  · omega
  · exact q
  · exact q
  · exact q
theorem AR_0 {u a num : Int} {s m m' : Nat} {X Y : Int × Int} {B B' : Nat → Int × Int} (ha : a = 35 ∨ a = 112 ∨ a = 69 ∨ a = 120 ∨ a = 121) (h : AR u X Y a num s m B m' B') : m' = m + 1 := by
  have hOO : OOK a s → False := fun q => by unfold OOK at q; omega
  unfold AR at h
  rcases h with ⟨_, q, _⟩ | ⟨_, q, _⟩ | ⟨_, q, _⟩ | ⟨_, q, _⟩ | ⟨q, _⟩ | ⟨q, _⟩ | ⟨q, _⟩ | ⟨q, _⟩ | ⟨q, _⟩ | ⟨q, _⟩ | ⟨q, _⟩
  · exact q
  · exact q
  · exact q
  · exact q
  · omega
  · omega
  · omega
  · omega
  · omega
  · omega
  · exact (hOO q).elim
theorem SK_0 {M : tM} {B : Nat → Int × Int} (h : M 77 2 = 0) : SK M 0 B := ⟨h, fun i q => absurd q (by omega)⟩
/-- an empty stack -/
def B00 : Nat → Int × Int := fun _ => (0, 0)
theorem KU {M : tM} (h : KW M) (hC : CI M) : UU (M 78 5) := by
  rw [h.1.1.1]
  exact un_UU (z00 hC)
theorem KA_p {M M1 M2 : tM} (h : KA M M1) (f : MKF 0 M1 M2) (ro : RO M2) : KA M M2 := KA_tr h.1.2 (KA_m h.2 ro f)
section HAND
variable {e : tE} {d n : Nat} {M : tM}
theorem x_cdef {f : Int} (hf : 0 ≤ f ∧ f ≤ 3) (hC : CI M) : tC e d 3337 [.inr (.inr (.inl 0)), .inl f] M n (tQx n (tQn n (fun M' => (M (M 499 f).toNat 6 = 1) ∧ M' = M)) (fun _ M' => M' = M)) := by
  have hf0 := fm_cl hC hf
  have sf := hf0.1
  have hv2 := CI_i (f := 6) hC hf0 rfl
  have hv2 : 0 ≤ M (M 499 f).toNat 6 ∧ M (M 499 f).toNat 6 ≤ 1 := hv2
  refine tst_X11_checkDefined ?_
  refine tb_X11_checkDefined_0 (c := true) ?_
  simp only [kb_X11_checkDefined_0, w_ald_0, w_gf_13_5, tw_t, w_ild_1, w_aa, w_gf_7_6, w_if_ne, w_new, w64_r, true_and, and_true, Nat.reduceAdd, Nat.reduceSub, eq_self, tsh_0, tyk_13, tsh_77, tyk_8, tcq_8, tsh_5, tyk_11, tcq_13, tcq_11, tyk_4, tcq_4, tsh_113, tsh_499, tyk_27, tel_5, tyk_7, tcq_7, sf]
  repeat refine And.intro (by omega) ?_
  refine ⟨fun q => ?_, fun q => Or.inr ⟨_, rfl, rfl, rfl⟩⟩
  refine tb_X11_checkDefined_23 (c := true) ?_
  simp only [kb_X11_checkDefined_23, w_re, w64_r, true_and, and_true, Nat.reduceAdd, Nat.reduceSub, eq_self]
  exact Or.inl ⟨rfl, rfl, by omega, rfl⟩
theorem x_cfc {x1 x2 x3 x4 : Int} (h1 : (-2147483648 ≤ x1 ∧ x1 ≤ 2147483647)) (h2 : (-2147483648 ≤ x2 ∧ x2 ≤ 2147483647)) (h3 : (-2147483648 ≤ x3 ∧ x3 ≤ 2147483647)) (h4 : (-2147483648 ≤ x4 ∧ x4 ≤ 2147483647)) (hC : CI M) (hd : 3 ≤ d) : tC e d 3339 [.inr (.inr (.inl 0)), .inl x1, .inl x2, .inl x3, .inl x4] M n (tQx n (tQn n (fun M' => (((0 ≤ x1 ∧ x1 ≤ 9) ∧ (0 ≤ x2 ∧ x2 ≤ 3) ∧ (0 ≤ x3 ∧ x3 ≤ 9) ∧ (0 ≤ x4 ∧ x4 ≤ 9)) ∧ M (M 499 x2).toNat 6 = 1) ∧ M' = M)) (fun _ M' => M' = M)) := by
  refine tst_X11_checkFormulaCall ?_
  refine tb_X11_checkFormulaCall_0 (c := true) ?_
  simp only [kb_X11_checkFormulaCall_0, w_ald_0, w_ild_1, w_ild_3, w_ild4, w_iv3, tfr_0, tfr_1, tfr_2, tfr_3, tfr_4, w_ild_2, w_iv1, w_re, w64_r, true_and, and_true, Nat.reduceAdd, Nat.reduceSub, eq_self, tsh_0, tyk_13, tsh_77, tyk_8, tcq_8, tsh_5, tyk_11, tcq_13, tcq_11, tyk_4, tcq_4, tsh_113, tsh_499, tyk_27, tel_5, tyk_7, tcq_7]
  refine tz_xn (D := 1) (fun d' hd' => k_X11_checkShelves cl_0 h1 h3 h4 hd') hC (by omega) rfl ?_ (fun s q => Or.inr ⟨_, rfl, rfl, rfl⟩)
  rintro ⟨a1, a3, a4⟩
  try simp only [kb_X11_checkFormulaCall_0, w_ald_0, w_ild_1, w_ild_3, w_ild4, w_iv3, tfr_0, tfr_1, tfr_2, tfr_3, tfr_4, w_ild_2, w_iv1, w_re, w64_r, true_and, and_true, Nat.reduceAdd, Nat.reduceSub, eq_self, tsh_0, tyk_13, tsh_77, tyk_8, tcq_8, tsh_5, tyk_11, tcq_13, tcq_11, tyk_4, tcq_4, tsh_113, tsh_499, tyk_27, tel_5, tyk_7, tcq_7]
  refine tz_xn (D := 0) (fun d' hd' => k_X11_checkFormula cl_0 h2 hd') hC (by omega) rfl ?_ (fun s q => Or.inr ⟨_, rfl, rfl, rfl⟩)
  intro a2
  try simp only [kb_X11_checkFormulaCall_0, w_ald_0, w_ild_1, w_ild_3, w_ild4, w_iv3, tfr_0, tfr_1, tfr_2, tfr_3, tfr_4, w_ild_2, w_iv1, w_re, w64_r, true_and, and_true, Nat.reduceAdd, Nat.reduceSub, eq_self, tsh_0, tyk_13, tsh_77, tyk_8, tcq_8, tsh_5, tyk_11, tcq_13, tcq_11, tyk_4, tcq_4, tsh_113, tsh_499, tyk_27, tel_5, tyk_7, tcq_7]
  refine tc_xn (D := 0) (fun d' hd' => x_cdef a2 hC) (by omega) rfl ?_ (fun s M' q => Or.inr ⟨_, rfl, rfl, q⟩)
  rintro M1 ⟨a5, rfl⟩
  try simp only [kb_X11_checkFormulaCall_0, w_ald_0, w_ild_1, w_ild_3, w_ild4, w_iv3, tfr_0, tfr_1, tfr_2, tfr_3, tfr_4, w_ild_2, w_iv1, w_re, w64_r, true_and, and_true, Nat.reduceAdd, Nat.reduceSub, eq_self, tsh_0, tyk_13, tsh_77, tyk_8, tcq_8, tsh_5, tyk_11, tcq_13, tcq_11, tyk_4, tcq_4, tsh_113, tsh_499, tyk_27, tel_5, tyk_7, tcq_7]
  refine tz_xn (D := 2) (fun d' hd' => k_X11_checkHeld cl_0 h3 hd') hC (by omega) rfl ?_ (fun s q => Or.inr ⟨_, rfl, rfl, rfl⟩)
  intro _
  try simp only [kb_X11_checkFormulaCall_0, w_ald_0, w_ild_1, w_ild_3, w_ild4, w_iv3, tfr_0, tfr_1, tfr_2, tfr_3, tfr_4, w_ild_2, w_iv1, w_re, w64_r, true_and, and_true, Nat.reduceAdd, Nat.reduceSub, eq_self, tsh_0, tyk_13, tsh_77, tyk_8, tcq_8, tsh_5, tyk_11, tcq_13, tcq_11, tyk_4, tcq_4, tsh_113, tsh_499, tyk_27, tel_5, tyk_7, tcq_7]
  refine tz_xn (D := 2) (fun d' hd' => k_X11_checkHeld cl_0 h4 hd') hC (by omega) rfl ?_ (fun s q => Or.inr ⟨_, rfl, rfl, rfl⟩)
  intro _
  try simp only [kb_X11_checkFormulaCall_0, w_ald_0, w_ild_1, w_ild_3, w_ild4, w_iv3, tfr_0, tfr_1, tfr_2, tfr_3, tfr_4, w_ild_2, w_iv1, w_re, w64_r, true_and, and_true, Nat.reduceAdd, Nat.reduceSub, eq_self, tsh_0, tyk_13, tsh_77, tyk_8, tcq_8, tsh_5, tyk_11, tcq_13, tcq_11, tyk_4, tcq_4, tsh_113, tsh_499, tyk_27, tel_5, tyk_7, tcq_7]
  exact Or.inl ⟨rfl, rfl, ⟨⟨a1, a2, a3, a4⟩, a5⟩, rfl⟩
theorem x_cbc {x1 x2 x3 x4 : Int} (h1 : (-2147483648 ≤ x1 ∧ x1 ≤ 2147483647)) (h2 : (-2147483648 ≤ x2 ∧ x2 ≤ 2147483647)) (h3 : (-2147483648 ≤ x3 ∧ x3 ≤ 2147483647)) (h4 : (-2147483648 ≤ x4 ∧ x4 ≤ 2147483647)) (hC : CI M) (hd : 3 ≤ d) : tC e d 3335 [.inr (.inr (.inl 0)), .inl x1, .inl x2, .inl x3, .inl x4] M n (tQx n (tQn n (fun M' => (((0 ≤ x1 ∧ x1 ≤ 9) ∧ (0 ≤ x2 ∧ x2 ≤ 3) ∧ (0 ≤ x3 ∧ x3 ≤ 9) ∧ (0 ≤ x4 ∧ x4 ≤ 3)) ∧ M (M 499 x2).toNat 6 = 1) ∧ M' = M)) (fun _ M' => M' = M)) := by
  refine tst_X11_checkBoundsCall ?_
  refine tb_X11_checkBoundsCall_0 (c := true) ?_
  simp only [kb_X11_checkBoundsCall_0, w_ald_0, w_ild_1, w_iv1, tfr_0, tfr_1, tfr_2, tfr_3, tfr_4, w_ild_3, w_ild_2, w_ild4, w_ic, w_iv2, w_re, w64_r, true_and, and_true, Nat.reduceAdd, Nat.reduceSub, eq_self, tsh_0, tyk_13, tsh_77, tyk_8, tcq_8, tsh_5, tyk_11, tcq_13, tcq_11, tyk_4, tcq_4, tsh_113, tsh_499, tyk_27, tel_5, tyk_7, tcq_7]
  refine tz_xn (D := 0) (fun d' hd' => k_X11_checkShelf cl_0 h1 hd') hC (by omega) rfl ?_ (fun s q => Or.inr ⟨_, rfl, rfl, rfl⟩)
  intro a1
  try simp only [kb_X11_checkBoundsCall_0, w_ald_0, w_ild_1, w_iv1, tfr_0, tfr_1, tfr_2, tfr_3, tfr_4, w_ild_3, w_ild_2, w_ild4, w_ic, w_iv2, w_re, w64_r, true_and, and_true, Nat.reduceAdd, Nat.reduceSub, eq_self, tsh_0, tyk_13, tsh_77, tyk_8, tcq_8, tsh_5, tyk_11, tcq_13, tcq_11, tyk_4, tcq_4, tsh_113, tsh_499, tyk_27, tel_5, tyk_7, tcq_7]
  refine tz_xn (D := 0) (fun d' hd' => k_X11_checkShelf cl_0 h3 hd') hC (by omega) rfl ?_ (fun s q => Or.inr ⟨_, rfl, rfl, rfl⟩)
  intro a3
  try simp only [kb_X11_checkBoundsCall_0, w_ald_0, w_ild_1, w_iv1, tfr_0, tfr_1, tfr_2, tfr_3, tfr_4, w_ild_3, w_ild_2, w_ild4, w_ic, w_iv2, w_re, w64_r, true_and, and_true, Nat.reduceAdd, Nat.reduceSub, eq_self, tsh_0, tyk_13, tsh_77, tyk_8, tcq_8, tsh_5, tyk_11, tcq_13, tcq_11, tyk_4, tcq_4, tsh_113, tsh_499, tyk_27, tel_5, tyk_7, tcq_7]
  refine tz_xn (D := 0) (fun d' hd' => k_X11_checkFormula cl_0 h2 hd') hC (by omega) rfl ?_ (fun s q => Or.inr ⟨_, rfl, rfl, rfl⟩)
  intro a2
  try simp only [kb_X11_checkBoundsCall_0, w_ald_0, w_ild_1, w_iv1, tfr_0, tfr_1, tfr_2, tfr_3, tfr_4, w_ild_3, w_ild_2, w_ild4, w_ic, w_iv2, w_re, w64_r, true_and, and_true, Nat.reduceAdd, Nat.reduceSub, eq_self, tsh_0, tyk_13, tsh_77, tyk_8, tcq_8, tsh_5, tyk_11, tcq_13, tcq_11, tyk_4, tcq_4, tsh_113, tsh_499, tyk_27, tel_5, tyk_7, tcq_7]
  refine tz_xn (D := 0) (fun d' hd' => k_X11_checkCuts cl_0 h4 (by decide) hd') hC (by omega) rfl ?_ (fun s q => Or.inr ⟨_, rfl, rfl, rfl⟩)
  intro a4
  try simp only [kb_X11_checkBoundsCall_0, w_ald_0, w_ild_1, w_iv1, tfr_0, tfr_1, tfr_2, tfr_3, tfr_4, w_ild_3, w_ild_2, w_ild4, w_ic, w_iv2, w_re, w64_r, true_and, and_true, Nat.reduceAdd, Nat.reduceSub, eq_self, tsh_0, tyk_13, tsh_77, tyk_8, tcq_8, tsh_5, tyk_11, tcq_13, tcq_11, tyk_4, tcq_4, tsh_113, tsh_499, tyk_27, tel_5, tyk_7, tcq_7]
  refine tc_xn (D := 0) (fun d' hd' => x_cdef a2 hC) (by omega) rfl ?_ (fun s M' q => Or.inr ⟨_, rfl, rfl, q⟩)
  rintro M1 ⟨a5, rfl⟩
  try simp only [kb_X11_checkBoundsCall_0, w_ald_0, w_ild_1, w_iv1, tfr_0, tfr_1, tfr_2, tfr_3, tfr_4, w_ild_3, w_ild_2, w_ild4, w_ic, w_iv2, w_re, w64_r, true_and, and_true, Nat.reduceAdd, Nat.reduceSub, eq_self, tsh_0, tyk_13, tsh_77, tyk_8, tcq_8, tsh_5, tyk_11, tcq_13, tcq_11, tyk_4, tcq_4, tsh_113, tsh_499, tyk_27, tel_5, tyk_7, tcq_7]
  refine tz_xn (D := 2) (fun d' hd' => k_X11_checkHeld cl_0 h3 hd') hC (by omega) rfl ?_ (fun s q => Or.inr ⟨_, rfl, rfl, rfl⟩)
  intro _
  try simp only [kb_X11_checkBoundsCall_0, w_ald_0, w_ild_1, w_iv1, tfr_0, tfr_1, tfr_2, tfr_3, tfr_4, w_ild_3, w_ild_2, w_ild4, w_ic, w_iv2, w_re, w64_r, true_and, and_true, Nat.reduceAdd, Nat.reduceSub, eq_self, tsh_0, tyk_13, tsh_77, tyk_8, tcq_8, tsh_5, tyk_11, tcq_13, tcq_11, tyk_4, tcq_4, tsh_113, tsh_499, tyk_27, tel_5, tyk_7, tcq_7]
  refine tz_xn (D := 0) (fun d' hd' => k_X11_checkNoY cl_0 a2 hd') hC (by omega) rfl ?_ (fun s q => Or.inr ⟨_, rfl, rfl, rfl⟩)
  intro _
  try simp only [kb_X11_checkBoundsCall_0, w_ald_0, w_ild_1, w_iv1, tfr_0, tfr_1, tfr_2, tfr_3, tfr_4, w_ild_3, w_ild_2, w_ild4, w_ic, w_iv2, w_re, w64_r, true_and, and_true, Nat.reduceAdd, Nat.reduceSub, eq_self, tsh_0, tyk_13, tsh_77, tyk_8, tcq_8, tsh_5, tyk_11, tcq_13, tcq_11, tyk_4, tcq_4, tsh_113, tsh_499, tyk_27, tel_5, tyk_7, tcq_7]
  exact Or.inl ⟨rfl, rfl, ⟨⟨a1, a2, a3, a4⟩, a5⟩, rfl⟩
theorem v_combine {s a b c : Int} (h1 : (-2147483648 ≤ s ∧ s ≤ 2147483647)) (h2 : (-2147483648 ≤ a ∧ a ≤ 2147483647)) (h3 : (-2147483648 ≤ b ∧ b ≤ 2147483647)) (hc : c = 43 ∨ c = 45 ∨ c = 42 ∨ c = 47) (he : EVr e) (hK : KW M) (hC : CI M) (hd : 9 ≤ d) : tC e d 3348 [.inr (.inr (.inl 0)), .inl s, .inl a, .inl b, .inl c] M n (tQx n (tQi n (fun z M' => (0 ≤ z ∧ z ≤ 1) ∧ KA M M')) (fun _ M' => KA M M')) := by
  refine tst_X11_combine ?_
  refine tb_X11_combine_0 (c := true) ?_
  simp only [kb_X11_combine_0, w_ald_0, w_ild_1, w_ild_2, w_ild_3, w_iv3, tfr_0, tfr_1, tfr_2, tfr_3, tfr_4, w_iv1, w_gf_13_4, tw_t, w_iv0, w_gf_13_3, w_ild4, w_lc0, w_ic, w_iv2, w_ire, trg, w64_r, true_and, and_true, Nat.reduceAdd, Nat.reduceSub, eq_self, tsh_0, tyk_13, tsh_77, tyk_8, tcq_8, tsh_5, tyk_11, tcq_13, tcq_11, tyk_4, tcq_4, tsh_113]
  refine tz_xn (D := 1) (fun d' hd' => k_X11_checkShelves cl_0 h1 h2 h3 hd') hC (by omega) rfl ?_ (fun s q => Or.inr ⟨_, rfl, rfl, KA_refl hC hK⟩)
  rintro ⟨a1, a2, a3⟩
  obtain ⟨i, rfl⟩ : ∃ k : Nat, a = (k : Int) := ⟨a.toNat, by omega⟩
  obtain ⟨j, rfl⟩ : ∃ k : Nat, b = (k : Int) := ⟨b.toNat, by omega⟩
  try simp only [kb_X11_combine_0, w_ald_0, w_ild_1, w_ild_2, w_ild_3, w_iv3, tfr_0, tfr_1, tfr_2, tfr_3, tfr_4, w_iv1, w_gf_13_4, tw_t, w_iv0, w_gf_13_3, w_ild4, w_lc0, w_ic, w_iv2, w_ire, trg, w64_r, true_and, and_true, Nat.reduceAdd, Nat.reduceSub, eq_self, tsh_0, tyk_13, tsh_77, tyk_8, tcq_8, tsh_5, tyk_11, tcq_13, tcq_11, tyk_4, tcq_4, tsh_113]
  refine tz_xn (D := 2) (fun d' hd' => k_X11_checkHeld cl_0 h2 hd') hC (by omega) rfl ?_ (fun s q => Or.inr ⟨_, rfl, rfl, KA_refl hC hK⟩)
  intro _
  try simp only [kb_X11_combine_0, w_ald_0, w_ild_1, w_ild_2, w_ild_3, w_iv3, tfr_0, tfr_1, tfr_2, tfr_3, tfr_4, w_iv1, w_gf_13_4, tw_t, w_iv0, w_gf_13_3, w_ild4, w_lc0, w_ic, w_iv2, w_ire, trg, w64_r, true_and, and_true, Nat.reduceAdd, Nat.reduceSub, eq_self, tsh_0, tyk_13, tsh_77, tyk_8, tcq_8, tsh_5, tyk_11, tcq_13, tcq_11, tyk_4, tcq_4, tsh_113]
  refine tz_xn (D := 2) (fun d' hd' => k_X11_checkHeld cl_0 h3 hd') hC (by omega) rfl ?_ (fun s q => Or.inr ⟨_, rfl, rfl, KA_refl hC hK⟩)
  intro _
  try simp only [kb_X11_combine_0, w_ald_0, w_ild_1, w_ild_2, w_ild_3, w_iv3, tfr_0, tfr_1, tfr_2, tfr_3, tfr_4, w_iv1, w_gf_13_4, tw_t, w_iv0, w_gf_13_3, w_ild4, w_lc0, w_ic, w_iv2, w_ire, trg, w64_r, true_and, and_true, Nat.reduceAdd, Nat.reduceSub, eq_self, tsh_0, tyk_13, tsh_77, tyk_8, tcq_8, tsh_5, tyk_11, tcq_13, tcq_11, tyk_4, tcq_4, tsh_113]
  refine tc_n (D := 0) (fun d' hd' => z_clear (b := 0) (by decide) hC) (by omega) ?_
  rintro M1 ⟨b1, _, b2, b3⟩
  have k1 : KA M M1 := KA_m hK (RO_u hK.1.1.2 (b2 79 4 (by decide)) (b2 79 5 (by decide))) b3
  try simp only [kb_X11_combine_0, w_ald_0, w_ild_1, w_ild_2, w_ild_3, w_iv3, tfr_0, tfr_1, tfr_2, tfr_3, tfr_4, w_iv1, w_gf_13_4, tw_t, w_iv0, w_gf_13_3, w_ild4, w_lc0, w_ic, w_iv2, w_ire, trg, w64_r, true_and, and_true, Nat.reduceAdd, Nat.reduceSub, eq_self, tsh_0, tyk_13, tsh_77, tyk_8, tcq_8, tsh_5, tyk_11, tcq_13, tcq_11, tyk_4, tcq_4, tsh_113]
  refine tc_r (D := 1) (fun d' hd' => z_box (s := i) (by omega) hd') (by omega) ?_
  rintro y M2 ⟨rfl, rfl⟩
  try simp only [kb_X11_combine_0, w_ald_0, w_ild_1, w_ild_2, w_ild_3, w_iv3, tfr_0, tfr_1, tfr_2, tfr_3, tfr_4, w_iv1, w_gf_13_4, tw_t, w_iv0, w_gf_13_3, w_ild4, w_lc0, w_ic, w_iv2, w_ire, trg, w64_r, true_and, and_true, Nat.reduceAdd, Nat.reduceSub, eq_self, tsh_0, tyk_13, tsh_77, tyk_8, tcq_8, tsh_5, tyk_11, tcq_13, tcq_11, tyk_4, tcq_4, tsh_113]
  obtain ⟨v, hv⟩ := k1.2.1.2.1 i (by omega)
  refine tc_n (D := 2) (fun d' hd' => z_push (B := B00) (v := v) (by decide) (SK_0 b1) (cl_sh (by omega)) (by omega) hv k1.1.1 hd') (by omega) ?_
  rintro M3 ⟨c1, c2, c3⟩
  have k3 : KA M M3 := KA_p k1 c2 (RO_u k1.2.1.1.2 c3.1 c3.2)
  try simp only [kb_X11_combine_0, w_ald_0, w_ild_1, w_ild_2, w_ild_3, w_iv3, tfr_0, tfr_1, tfr_2, tfr_3, tfr_4, w_iv1, w_gf_13_4, tw_t, w_iv0, w_gf_13_3, w_ild4, w_lc0, w_ic, w_iv2, w_ire, trg, w64_r, true_and, and_true, Nat.reduceAdd, Nat.reduceSub, eq_self, tsh_0, tyk_13, tsh_77, tyk_8, tcq_8, tsh_5, tyk_11, tcq_13, tcq_11, tyk_4, tcq_4, tsh_113]
  refine tc_r (D := 1) (fun d' hd' => z_box (s := j) (by omega) hd') (by omega) ?_
  rintro y M4 ⟨rfl, rfl⟩
  try simp only [kb_X11_combine_0, w_ald_0, w_ild_1, w_ild_2, w_ild_3, w_iv3, tfr_0, tfr_1, tfr_2, tfr_3, tfr_4, w_iv1, w_gf_13_4, tw_t, w_iv0, w_gf_13_3, w_ild4, w_lc0, w_ic, w_iv2, w_ire, trg, w64_r, true_and, and_true, Nat.reduceAdd, Nat.reduceSub, eq_self, tsh_0, tyk_13, tsh_77, tyk_8, tcq_8, tsh_5, tyk_11, tcq_13, tcq_11, tyk_4, tcq_4, tsh_113]
  obtain ⟨w, hw⟩ := k3.2.1.2.1 j (by omega)
  refine tc_n (D := 2) (fun d' hd' => z_push (v := w) (by decide) c1 (cl_sh (by omega)) (by omega) hw k3.1.1 hd') (by omega) ?_
  rintro M5 ⟨d1, d2, d3⟩
  have k5 : KA M M5 := KA_p k3 d2 (RO_u k3.2.1.1.2 d3.1 d3.2)
  try simp only [kb_X11_combine_0, w_ald_0, w_ild_1, w_ild_2, w_ild_3, w_iv3, tfr_0, tfr_1, tfr_2, tfr_3, tfr_4, w_iv1, w_gf_13_4, tw_t, w_iv0, w_gf_13_3, w_ild4, w_lc0, w_ic, w_iv2, w_ire, trg, w64_r, true_and, and_true, Nat.reduceAdd, Nat.reduceSub, eq_self, tsh_0, tyk_13, tsh_77, tyk_8, tcq_8, tsh_5, tyk_11, tcq_13, tcq_11, tyk_4, tcq_4, tsh_113]
  refine tc_i (D := 7) (fun d' hd' => z_make (b := 0) (s := 0) (m := 2) (X := (0, 0)) (Y := (0, 0)) (xr := 0) (yr := 0) (Or.inr (Or.inr (Or.inr (Or.inr (Or.inr (Or.inl ⟨hc, by decide⟩)))))) (by decide) d1 (fun q => absurd q (by omega)) (fun q => absurd q (by omega)) (KU k5.2 k5.1.1) he k5.2.1.1.2 (by decide) k5.1.1 hd') (by omega) ?_
  rintro z M6 ⟨f1, f2, f3, f4⟩
  have k6 : KA M M6 := KA_p k5 f4 f3
  try simp only [kb_X11_combine_0, w_ald_0, w_ild_1, w_ild_2, w_ild_3, w_iv3, tfr_0, tfr_1, tfr_2, tfr_3, tfr_4, w_iv1, w_gf_13_4, tw_t, w_iv0, w_gf_13_3, w_ild4, w_lc0, w_ic, w_iv2, w_ire, trg, w64_r, true_and, and_true, Nat.reduceAdd, Nat.reduceSub, eq_self, tsh_0, tyk_13, tsh_77, tyk_8, tcq_8, tsh_5, tyk_11, tcq_13, tcq_11, tyk_4, tcq_4, tsh_113]
  refine tc_xi (D := 5) (fun d' hd' => v_become a1 f1 (fun q => by
    obtain ⟨m', B', g1, g2⟩ := f2 q
    rw [AR_p hc g1] at g2
    exact ⟨B', g2⟩) k6.2 k6.1.1 hd') (by omega) rfl ?_ (fun s M' q => Or.inr ⟨_, rfl, rfl, KA_tr k6.1.2 q⟩)
  rintro z2 M7 ⟨p1, p2⟩
  try simp only [kb_X11_combine_0, w_ald_0, w_ild_1, w_ild_2, w_ild_3, w_iv3, tfr_0, tfr_1, tfr_2, tfr_3, tfr_4, w_iv1, w_gf_13_4, tw_t, w_iv0, w_gf_13_3, w_ild4, w_lc0, w_ic, w_iv2, w_ire, trg, w64_r, true_and, and_true, Nat.reduceAdd, Nat.reduceSub, eq_self, tsh_0, tyk_13, tsh_77, tyk_8, tcq_8, tsh_5, tyk_11, tcq_13, tcq_11, tyk_4, tcq_4, tsh_113]
  exact ⟨by omega, Or.inl ⟨_, rfl, rfl, p1, KA_tr k6.1.2 p2⟩⟩
theorem v_change {s a c : Int} {y : Nat} (h1 : 0 ≤ s ∧ s ≤ 9) (h2 : (-2147483648 ≤ a ∧ a ≤ 2147483647)) (hc : c = 126 ∨ c = 98 ∨ OOK c y) (he : EVr e) (hK : KW M) (hC : CI M) (hd : 9 ≤ d) : tC e d 3334 [.inr (.inr (.inl 0)), .inl s, .inl a, .inl c, .inl (y : Int)] M n (tQx n (tQi n (fun z M' => (0 ≤ z ∧ z ≤ 1) ∧ KA M M')) (fun _ M' => KA M M')) := by
  refine tst_X11_change ?_
  refine tb_X11_change_0 (c := true) ?_
  simp only [kb_X11_change_0, w_ald_0, w_ild_2, w_iv1, tfr_0, tfr_1, tfr_2, tfr_3, tfr_4, w_gf_13_4, tw_t, w_iv0, w_gf_13_3, w_ild_1, w_ild_3, w_lc0, w_ild4, w_iv3, w_iv2, w_ire, trg, w64_r, true_and, and_true, Nat.reduceAdd, Nat.reduceSub, eq_self, tsh_0, tyk_13, tsh_77, tyk_8, tcq_8, tsh_5, tyk_11, tcq_13, tcq_11, tyk_4, tcq_4, tsh_113]
  refine tz_xn (D := 2) (fun d' hd' => k_X11_checkHeld cl_0 h2 hd') hC (by omega) rfl ?_ (fun s q => Or.inr ⟨_, rfl, rfl, KA_refl hC hK⟩)
  intro a2
  obtain ⟨i, rfl⟩ : ∃ k : Nat, a = (k : Int) := ⟨a.toNat, by omega⟩
  try simp only [kb_X11_change_0, w_ald_0, w_ild_2, w_iv1, tfr_0, tfr_1, tfr_2, tfr_3, tfr_4, w_gf_13_4, tw_t, w_iv0, w_gf_13_3, w_ild_1, w_ild_3, w_lc0, w_ild4, w_iv3, w_iv2, w_ire, trg, w64_r, true_and, and_true, Nat.reduceAdd, Nat.reduceSub, eq_self, tsh_0, tyk_13, tsh_77, tyk_8, tcq_8, tsh_5, tyk_11, tcq_13, tcq_11, tyk_4, tcq_4, tsh_113]
  refine tc_n (D := 0) (fun d' hd' => z_clear (b := 0) (by decide) hC) (by omega) ?_
  rintro M1 ⟨b1, _, b2, b3⟩
  have k1 : KA M M1 := KA_m hK (RO_u hK.1.1.2 (b2 79 4 (by decide)) (b2 79 5 (by decide))) b3
  try simp only [kb_X11_change_0, w_ald_0, w_ild_2, w_iv1, tfr_0, tfr_1, tfr_2, tfr_3, tfr_4, w_gf_13_4, tw_t, w_iv0, w_gf_13_3, w_ild_1, w_ild_3, w_lc0, w_ild4, w_iv3, w_iv2, w_ire, trg, w64_r, true_and, and_true, Nat.reduceAdd, Nat.reduceSub, eq_self, tsh_0, tyk_13, tsh_77, tyk_8, tcq_8, tsh_5, tyk_11, tcq_13, tcq_11, tyk_4, tcq_4, tsh_113]
  refine tc_r (D := 1) (fun d' hd' => z_box (s := i) (by omega) hd') (by omega) ?_
  rintro y2 M2 ⟨rfl, rfl⟩
  try simp only [kb_X11_change_0, w_ald_0, w_ild_2, w_iv1, tfr_0, tfr_1, tfr_2, tfr_3, tfr_4, w_gf_13_4, tw_t, w_iv0, w_gf_13_3, w_ild_1, w_ild_3, w_lc0, w_ild4, w_iv3, w_iv2, w_ire, trg, w64_r, true_and, and_true, Nat.reduceAdd, Nat.reduceSub, eq_self, tsh_0, tyk_13, tsh_77, tyk_8, tcq_8, tsh_5, tyk_11, tcq_13, tcq_11, tyk_4, tcq_4, tsh_113]
  obtain ⟨v, hv⟩ := k1.2.1.2.1 i (by omega)
  refine tc_n (D := 2) (fun d' hd' => z_push (B := B00) (v := v) (by decide) (SK_0 b1) (cl_sh (by omega)) (by omega) hv k1.1.1 hd') (by omega) ?_
  rintro M3 ⟨c1, c2, c3⟩
  have k3 : KA M M3 := KA_p k1 c2 (RO_u k1.2.1.1.2 c3.1 c3.2)
  try simp only [kb_X11_change_0, w_ald_0, w_ild_2, w_iv1, tfr_0, tfr_1, tfr_2, tfr_3, tfr_4, w_gf_13_4, tw_t, w_iv0, w_gf_13_3, w_ild_1, w_ild_3, w_lc0, w_ild4, w_iv3, w_iv2, w_ire, trg, w64_r, true_and, and_true, Nat.reduceAdd, Nat.reduceSub, eq_self, tsh_0, tyk_13, tsh_77, tyk_8, tcq_8, tsh_5, tyk_11, tcq_13, tcq_11, tyk_4, tcq_4, tsh_113]
  have hOO : OOK c y → c = 94 ∨ c = 114 ∨ c = 101 ∨ c = 108 ∨ c = 97 := fun q => by unfold OOK at q; omega
  have hc2 : c = 126 ∨ c = 98 ∨ c = 94 ∨ c = 114 ∨ c = 101 ∨ c = 108 ∨ c = 97 := by
    rcases hc with q | q | q
    · omega
    · omega
    · have := hOO q
      omega
  refine tc_i (D := 7) (fun d' hd' => z_make (b := 0) (s := y) (m := 1) (X := (0, 0)) (Y := (0, 0)) (xr := 0) (yr := 0) (Or.inr (Or.inr (Or.inr (Or.inr (Or.inr (Or.inr ⟨hc, by decide⟩)))))) (by decide) c1 (fun q => absurd q (by omega)) (fun q => absurd q (by omega)) (KU k3.2 k3.1.1) he k3.2.1.1.2 (by decide) k3.1.1 hd') (by omega) ?_
  rintro z M6 ⟨f1, f2, f3, f4⟩
  have k6 : KA M M6 := KA_p k3 f4 f3
  try simp only [kb_X11_change_0, w_ald_0, w_ild_2, w_iv1, tfr_0, tfr_1, tfr_2, tfr_3, tfr_4, w_gf_13_4, tw_t, w_iv0, w_gf_13_3, w_ild_1, w_ild_3, w_lc0, w_ild4, w_iv3, w_iv2, w_ire, trg, w64_r, true_and, and_true, Nat.reduceAdd, Nat.reduceSub, eq_self, tsh_0, tyk_13, tsh_77, tyk_8, tcq_8, tsh_5, tyk_11, tcq_13, tcq_11, tyk_4, tcq_4, tsh_113]
  refine tc_xi (D := 5) (fun d' hd' => v_become h1 f1 (fun q => by
    obtain ⟨m', B', g1, g2⟩ := f2 q
    rw [AR_1 hc g1] at g2
    exact ⟨B', g2⟩) k6.2 k6.1.1 hd') (by omega) rfl ?_ (fun s M' q => Or.inr ⟨_, rfl, rfl, KA_tr k6.1.2 q⟩)
  rintro z2 M7 ⟨p1, p2⟩
  try simp only [kb_X11_change_0, w_ald_0, w_ild_2, w_iv1, tfr_0, tfr_1, tfr_2, tfr_3, tfr_4, w_gf_13_4, tw_t, w_iv0, w_gf_13_3, w_ild_1, w_ild_3, w_lc0, w_ild4, w_iv3, w_iv2, w_ire, trg, w64_r, true_and, and_true, Nat.reduceAdd, Nat.reduceSub, eq_self, tsh_0, tyk_13, tsh_77, tyk_8, tcq_8, tsh_5, tyk_11, tcq_13, tcq_11, tyk_4, tcq_4, tsh_113]
  exact ⟨by omega, Or.inl ⟨_, rfl, rfl, p1, KA_tr k6.1.2 p2⟩⟩
theorem v_add {x1 x2 x3 : Int} (h1 : (-2147483648 ≤ x1 ∧ x1 ≤ 2147483647)) (h2 : (-2147483648 ≤ x2 ∧ x2 ≤ 2147483647)) (h3 : (-2147483648 ≤ x3 ∧ x3 ≤ 2147483647)) (he : EVr e) (hK : KW M) (hC : CI M) (hd : 10 ≤ d) : tC e d 3329 [.inr (.inr (.inl 0)), .inl x1, .inl x2, .inl x3] M n (tQx n (tQi n (fun z M' => (0 ≤ z ∧ z ≤ 1) ∧ KA M M')) (fun _ M' => KA M M')) := by
  refine tst_X11_add ?_
  refine tb_X11_add_0 (c := true) ?_
  simp only [kb_X11_add_0, w_ald_0, w_ild_1, w_ild_2, w_ild_3, w_bi, w_iv4, tfr_0, tfr_1, tfr_2, tfr_3, tfr_4, w_ire, trg, w64_r, true_and, and_true, Nat.reduceAdd, Nat.reduceSub, eq_self, tsh_0, tyk_13, tsh_77, tyk_8, tcq_8, tsh_5, tyk_11, tcq_13, tcq_11, tyk_4, tcq_4, tsh_113]
  refine tc_xi (D := 9) (fun d' hd' => v_combine h1 h2 h3 (by decide) he hK hC hd') (by omega) rfl ?_ (fun s M' q => Or.inr ⟨_, rfl, rfl, q⟩)
  rintro z2 M7 ⟨p1, p2⟩
  try simp only [kb_X11_add_0, w_ald_0, w_ild_1, w_ild_2, w_ild_3, w_bi, w_iv4, tfr_0, tfr_1, tfr_2, tfr_3, tfr_4, w_ire, trg, w64_r, true_and, and_true, Nat.reduceAdd, Nat.reduceSub, eq_self, tsh_0, tyk_13, tsh_77, tyk_8, tcq_8, tsh_5, tyk_11, tcq_13, tcq_11, tyk_4, tcq_4, tsh_113]
  exact ⟨by omega, Or.inl ⟨_, rfl, rfl, p1, p2⟩⟩
theorem v_subtract {x1 x2 x3 : Int} (h1 : (-2147483648 ≤ x1 ∧ x1 ≤ 2147483647)) (h2 : (-2147483648 ≤ x2 ∧ x2 ≤ 2147483647)) (h3 : (-2147483648 ≤ x3 ∧ x3 ≤ 2147483647)) (he : EVr e) (hK : KW M) (hC : CI M) (hd : 10 ≤ d) : tC e d 3391 [.inr (.inr (.inl 0)), .inl x1, .inl x2, .inl x3] M n (tQx n (tQi n (fun z M' => (0 ≤ z ∧ z ≤ 1) ∧ KA M M')) (fun _ M' => KA M M')) := by
  refine tst_X11_subtract ?_
  refine tb_X11_subtract_0 (c := true) ?_
  simp only [kb_X11_subtract_0, w_ald_0, w_ild_1, w_ild_2, w_ild_3, w_bi, w_iv4, tfr_0, tfr_1, tfr_2, tfr_3, tfr_4, w_ire, trg, w64_r, true_and, and_true, Nat.reduceAdd, Nat.reduceSub, eq_self, tsh_0, tyk_13, tsh_77, tyk_8, tcq_8, tsh_5, tyk_11, tcq_13, tcq_11, tyk_4, tcq_4, tsh_113]
  refine tc_xi (D := 9) (fun d' hd' => v_combine h1 h2 h3 (by decide) he hK hC hd') (by omega) rfl ?_ (fun s M' q => Or.inr ⟨_, rfl, rfl, q⟩)
  rintro z2 M7 ⟨p1, p2⟩
  try simp only [kb_X11_subtract_0, w_ald_0, w_ild_1, w_ild_2, w_ild_3, w_bi, w_iv4, tfr_0, tfr_1, tfr_2, tfr_3, tfr_4, w_ire, trg, w64_r, true_and, and_true, Nat.reduceAdd, Nat.reduceSub, eq_self, tsh_0, tyk_13, tsh_77, tyk_8, tcq_8, tsh_5, tyk_11, tcq_13, tcq_11, tyk_4, tcq_4, tsh_113]
  exact ⟨by omega, Or.inl ⟨_, rfl, rfl, p1, p2⟩⟩
theorem v_multiply {x1 x2 x3 : Int} (h1 : (-2147483648 ≤ x1 ∧ x1 ≤ 2147483647)) (h2 : (-2147483648 ≤ x2 ∧ x2 ≤ 2147483647)) (h3 : (-2147483648 ≤ x3 ∧ x3 ≤ 2147483647)) (he : EVr e) (hK : KW M) (hC : CI M) (hd : 10 ≤ d) : tC e d 3376 [.inr (.inr (.inl 0)), .inl x1, .inl x2, .inl x3] M n (tQx n (tQi n (fun z M' => (0 ≤ z ∧ z ≤ 1) ∧ KA M M')) (fun _ M' => KA M M')) := by
  refine tst_X11_multiply ?_
  refine tb_X11_multiply_0 (c := true) ?_
  simp only [kb_X11_multiply_0, w_ald_0, w_ild_1, w_ild_2, w_ild_3, w_bi, w_iv4, tfr_0, tfr_1, tfr_2, tfr_3, tfr_4, w_ire, trg, w64_r, true_and, and_true, Nat.reduceAdd, Nat.reduceSub, eq_self, tsh_0, tyk_13, tsh_77, tyk_8, tcq_8, tsh_5, tyk_11, tcq_13, tcq_11, tyk_4, tcq_4, tsh_113]
  refine tc_xi (D := 9) (fun d' hd' => v_combine h1 h2 h3 (by decide) he hK hC hd') (by omega) rfl ?_ (fun s M' q => Or.inr ⟨_, rfl, rfl, q⟩)
  rintro z2 M7 ⟨p1, p2⟩
  try simp only [kb_X11_multiply_0, w_ald_0, w_ild_1, w_ild_2, w_ild_3, w_bi, w_iv4, tfr_0, tfr_1, tfr_2, tfr_3, tfr_4, w_ire, trg, w64_r, true_and, and_true, Nat.reduceAdd, Nat.reduceSub, eq_self, tsh_0, tyk_13, tsh_77, tyk_8, tcq_8, tsh_5, tyk_11, tcq_13, tcq_11, tyk_4, tcq_4, tsh_113]
  exact ⟨by omega, Or.inl ⟨_, rfl, rfl, p1, p2⟩⟩
theorem v_divide {x1 x2 x3 : Int} (h1 : (-2147483648 ≤ x1 ∧ x1 ≤ 2147483647)) (h2 : (-2147483648 ≤ x2 ∧ x2 ≤ 2147483647)) (h3 : (-2147483648 ≤ x3 ∧ x3 ≤ 2147483647)) (he : EVr e) (hK : KW M) (hC : CI M) (hd : 10 ≤ d) : tC e d 3355 [.inr (.inr (.inl 0)), .inl x1, .inl x2, .inl x3] M n (tQx n (tQi n (fun z M' => (0 ≤ z ∧ z ≤ 1) ∧ KA M M')) (fun _ M' => KA M M')) := by
  refine tst_X11_divide ?_
  refine tb_X11_divide_0 (c := true) ?_
  simp only [kb_X11_divide_0, w_ald_0, w_ild_1, w_ild_2, w_ild_3, w_bi, w_iv4, tfr_0, tfr_1, tfr_2, tfr_3, tfr_4, w_ire, trg, w64_r, true_and, and_true, Nat.reduceAdd, Nat.reduceSub, eq_self, tsh_0, tyk_13, tsh_77, tyk_8, tcq_8, tsh_5, tyk_11, tcq_13, tcq_11, tyk_4, tcq_4, tsh_113]
  refine tc_xi (D := 9) (fun d' hd' => v_combine h1 h2 h3 (by decide) he hK hC hd') (by omega) rfl ?_ (fun s M' q => Or.inr ⟨_, rfl, rfl, q⟩)
  rintro z2 M7 ⟨p1, p2⟩
  try simp only [kb_X11_divide_0, w_ald_0, w_ild_1, w_ild_2, w_ild_3, w_bi, w_iv4, tfr_0, tfr_1, tfr_2, tfr_3, tfr_4, w_ire, trg, w64_r, true_and, and_true, Nat.reduceAdd, Nat.reduceSub, eq_self, tsh_0, tyk_13, tsh_77, tyk_8, tcq_8, tsh_5, tyk_11, tcq_13, tcq_11, tyk_4, tcq_4, tsh_113]
  exact ⟨by omega, Or.inl ⟨_, rfl, rfl, p1, p2⟩⟩
theorem v_power {x1 x2 x3 : Int} (h1 : (-2147483648 ≤ x1 ∧ x1 ≤ 2147483647)) (h2 : (-2147483648 ≤ x2 ∧ x2 ≤ 2147483647)) (h3 : (-2147483648 ≤ x3 ∧ x3 ≤ 2147483647)) (he : EVr e) (hK : KW M) (hC : CI M) (hd : 10 ≤ d) : tC e d 3381 [.inr (.inr (.inl 0)), .inl x1, .inl x2, .inl x3] M n (tQx n (tQi n (fun z M' => (0 ≤ z ∧ z ≤ 1) ∧ KA M M')) (fun _ M' => KA M M')) := by
  refine tst_X11_power ?_
  refine tb_X11_power_0 (c := true) ?_
  simp only [kb_X11_power_0, w_ald_0, w_ild_1, w_iv1, tfr_0, tfr_1, tfr_2, tfr_3, tfr_4, w_ild_2, w_ild_3, w_if_lt, w_bi, w_ic_le, w_nil, w64_r, true_and, and_true, Nat.reduceAdd, Nat.reduceSub, eq_self, tsh_0, tyk_13, tsh_77, tyk_8, tcq_8, tsh_5, tyk_11, tcq_13, tcq_11, tyk_4, tcq_4, tsh_113]
  refine tz_xn (D := 0) (fun d' hd' => k_X11_checkShelf cl_0 h1 hd') hC (by omega) rfl ?_ (fun s q => Or.inr ⟨_, rfl, rfl, KA_refl hC hK⟩)
  intro a1
  try simp only [kb_X11_power_0, w_ald_0, w_ild_1, w_iv1, tfr_0, tfr_1, tfr_2, tfr_3, tfr_4, w_ild_2, w_ild_3, w_if_lt, w_bi, w_ic_le, w_nil, w64_r, true_and, and_true, Nat.reduceAdd, Nat.reduceSub, eq_self, tsh_0, tyk_13, tsh_77, tyk_8, tcq_8, tsh_5, tyk_11, tcq_13, tcq_11, tyk_4, tcq_4, tsh_113]
  refine tz_xn (D := 0) (fun d' hd' => k_X11_checkShelf cl_0 h2 hd') hC (by omega) rfl ?_ (fun s q => Or.inr ⟨_, rfl, rfl, KA_refl hC hK⟩)
  intro a2
  try simp only [kb_X11_power_0, w_ald_0, w_ild_1, w_iv1, tfr_0, tfr_1, tfr_2, tfr_3, tfr_4, w_ild_2, w_ild_3, w_if_lt, w_bi, w_ic_le, w_nil, w64_r, true_and, and_true, Nat.reduceAdd, Nat.reduceSub, eq_self, tsh_0, tyk_13, tsh_77, tyk_8, tcq_8, tsh_5, tyk_11, tcq_13, tcq_11, tyk_4, tcq_4, tsh_113]
  have n20 : tT e d 3381 20 [some (.inr (.inr (.inl (0)))), some (.inl (x1)), some (.inl (x2)), some (.inl (x3))] [] M n (tQx n (tQi n (fun z M' => (0 ≤ z ∧ z ≤ 1) ∧ KA M M')) (fun _ M' => KA M M')) := by
    refine tb_X11_power_20 (c := true) ?_
    simp only [kb_X11_power_20, w_new, w64_r, true_and, and_true, Nat.reduceAdd, Nat.reduceSub, eq_self]
    exact Or.inr ⟨_, rfl, rfl, KA_refl hC hK⟩
  repeat refine And.intro (by omega) ?_
  refine ⟨fun _ => n20, fun g => ?_⟩
  repeat refine And.intro (by omega) ?_
  refine ⟨fun g2 => ?_, fun _ => n20⟩
  obtain ⟨y, rfl⟩ : ∃ k : Nat, x3 = (k : Int) := ⟨x3.toNat, by omega⟩
  refine tb_X11_power_30 (c := true) ?_
  simp only [kb_X11_power_30, w_ald_0, w_ild_1, w_ild_2, w_bi, w_ild_3, w_iv4, tfr_0, tfr_1, tfr_2, tfr_3, tfr_4, w_ire, trg, w64_r, true_and, and_true, Nat.reduceAdd, Nat.reduceSub, eq_self, tsh_0, tyk_13, tsh_77, tyk_8, tcq_8, tsh_5, tyk_11, tcq_13, tcq_11, tyk_4, tcq_4, tsh_113]
  refine tc_xi (D := 9) (fun d' hd' => v_change a1 h2 (Or.inr (Or.inr (by unfold OOK; omega))) he hK hC hd') (by omega) rfl ?_ (fun s M' q => Or.inr ⟨_, rfl, rfl, q⟩)
  rintro z2 M7 ⟨p1, p2⟩
  try simp only [kb_X11_power_30, w_ald_0, w_ild_1, w_ild_2, w_bi, w_ild_3, w_iv4, tfr_0, tfr_1, tfr_2, tfr_3, tfr_4, w_ire, trg, w64_r, true_and, and_true, Nat.reduceAdd, Nat.reduceSub, eq_self, tsh_0, tyk_13, tsh_77, tyk_8, tcq_8, tsh_5, tyk_11, tcq_13, tcq_11, tyk_4, tcq_4, tsh_113]
  exact ⟨by omega, Or.inl ⟨_, rfl, rfl, p1, p2⟩⟩
theorem v_root {x1 x2 x3 : Int} (h1 : (-2147483648 ≤ x1 ∧ x1 ≤ 2147483647)) (h2 : (-2147483648 ≤ x2 ∧ x2 ≤ 2147483647)) (h3 : (-2147483648 ≤ x3 ∧ x3 ≤ 2147483647)) (he : EVr e) (hK : KW M) (hC : CI M) (hd : 10 ≤ d) : tC e d 3384 [.inr (.inr (.inl 0)), .inl x1, .inl x2, .inl x3] M n (tQx n (tQi n (fun z M' => (0 ≤ z ∧ z ≤ 1) ∧ KA M M')) (fun _ M' => KA M M')) := by
  refine tst_X11_root ?_
  refine tb_X11_root_0 (c := true) ?_
  simp only [kb_X11_root_0, w_ald_0, w_ild_1, w_iv1, tfr_0, tfr_1, tfr_2, tfr_3, tfr_4, w_ild_2, w_ild_3, w_ic, w_ic_lt, w_ic_le, w_nil, w64_r, true_and, and_true, Nat.reduceAdd, Nat.reduceSub, eq_self, tsh_0, tyk_13, tsh_77, tyk_8, tcq_8, tsh_5, tyk_11, tcq_13, tcq_11, tyk_4, tcq_4, tsh_113]
  refine tz_xn (D := 0) (fun d' hd' => k_X11_checkShelf cl_0 h1 hd') hC (by omega) rfl ?_ (fun s q => Or.inr ⟨_, rfl, rfl, KA_refl hC hK⟩)
  intro a1
  try simp only [kb_X11_root_0, w_ald_0, w_ild_1, w_iv1, tfr_0, tfr_1, tfr_2, tfr_3, tfr_4, w_ild_2, w_ild_3, w_ic, w_ic_lt, w_ic_le, w_nil, w64_r, true_and, and_true, Nat.reduceAdd, Nat.reduceSub, eq_self, tsh_0, tyk_13, tsh_77, tyk_8, tcq_8, tsh_5, tyk_11, tcq_13, tcq_11, tyk_4, tcq_4, tsh_113]
  refine tz_xn (D := 0) (fun d' hd' => k_X11_checkShelf cl_0 h2 hd') hC (by omega) rfl ?_ (fun s q => Or.inr ⟨_, rfl, rfl, KA_refl hC hK⟩)
  intro a2
  try simp only [kb_X11_root_0, w_ald_0, w_ild_1, w_iv1, tfr_0, tfr_1, tfr_2, tfr_3, tfr_4, w_ild_2, w_ild_3, w_ic, w_ic_lt, w_ic_le, w_nil, w64_r, true_and, and_true, Nat.reduceAdd, Nat.reduceSub, eq_self, tsh_0, tyk_13, tsh_77, tyk_8, tcq_8, tsh_5, tyk_11, tcq_13, tcq_11, tyk_4, tcq_4, tsh_113]
  have n20 : tT e d 3384 20 [some (.inr (.inr (.inl (0)))), some (.inl (x1)), some (.inl (x2)), some (.inl (x3))] [] M n (tQx n (tQi n (fun z M' => (0 ≤ z ∧ z ≤ 1) ∧ KA M M')) (fun _ M' => KA M M')) := by
    refine tb_X11_root_20 (c := true) ?_
    simp only [kb_X11_root_20, w_new, w64_r, true_and, and_true, Nat.reduceAdd, Nat.reduceSub, eq_self]
    exact Or.inr ⟨_, rfl, rfl, KA_refl hC hK⟩
  repeat refine And.intro (by omega) ?_
  refine ⟨fun _ => n20, fun g => ?_⟩
  repeat refine And.intro (by omega) ?_
  refine ⟨fun g2 => ?_, fun _ => n20⟩
  obtain ⟨y, rfl⟩ : ∃ k : Nat, x3 = (k : Int) := ⟨x3.toNat, by omega⟩
  refine tb_X11_root_30 (c := true) ?_
  simp only [kb_X11_root_30, w_ald_0, w_ild_1, w_ild_2, w_bi, w_ild_3, w_iv4, tfr_0, tfr_1, tfr_2, tfr_3, tfr_4, w_ire, trg, w64_r, true_and, and_true, Nat.reduceAdd, Nat.reduceSub, eq_self, tsh_0, tyk_13, tsh_77, tyk_8, tcq_8, tsh_5, tyk_11, tcq_13, tcq_11, tyk_4, tcq_4, tsh_113]
  refine tc_xi (D := 9) (fun d' hd' => v_change a1 h2 (Or.inr (Or.inr (by unfold OOK; omega))) he hK hC hd') (by omega) rfl ?_ (fun s M' q => Or.inr ⟨_, rfl, rfl, q⟩)
  rintro z2 M7 ⟨p1, p2⟩
  try simp only [kb_X11_root_30, w_ald_0, w_ild_1, w_ild_2, w_bi, w_ild_3, w_iv4, tfr_0, tfr_1, tfr_2, tfr_3, tfr_4, w_ire, trg, w64_r, true_and, and_true, Nat.reduceAdd, Nat.reduceSub, eq_self, tsh_0, tyk_13, tsh_77, tyk_8, tcq_8, tsh_5, tyk_11, tcq_13, tcq_11, tyk_4, tcq_4, tsh_113]
  exact ⟨by omega, Or.inl ⟨_, rfl, rfl, p1, p2⟩⟩
theorem v_apply {x1 x2 x3 : Int} (h1 : (-2147483648 ≤ x1 ∧ x1 ≤ 2147483647)) (h2 : (-2147483648 ≤ x2 ∧ x2 ≤ 2147483647)) (h3 : 0 ≤ x3 ∧ x3 ≤ 65535) (he : EVr e) (hK : KW M) (hC : CI M) (hd : 10 ≤ d) : tC e d 3330 [.inr (.inr (.inl 0)), .inl x1, .inl x2, .inl x3] M n (tQx n (tQi n (fun z M' => (0 ≤ z ∧ z ≤ 1) ∧ KA M M')) (fun _ M' => KA M M')) := by
  refine tst_X11_apply ?_
  refine tb_X11_apply_0 (c := true) ?_
  simp only [kb_X11_apply_0, w_ald_0, w_ild_1, w_iv1, tfr_0, tfr_1, tfr_2, tfr_3, tfr_4, w_ild_2, w_ild_3, w_bi, w_ic_eq, w_new, w64_r, true_and, and_true, Nat.reduceAdd, Nat.reduceSub, eq_self, tsh_0, tyk_13, tsh_77, tyk_8, tcq_8, tsh_5, tyk_11, tcq_13, tcq_11, tyk_4, tcq_4, tsh_113]
  refine tz_xn (D := 0) (fun d' hd' => k_X11_checkShelf cl_0 h1 hd') hC (by omega) rfl ?_ (fun s q => Or.inr ⟨_, rfl, rfl, KA_refl hC hK⟩)
  intro a1
  try simp only [kb_X11_apply_0, w_ald_0, w_ild_1, w_iv1, tfr_0, tfr_1, tfr_2, tfr_3, tfr_4, w_ild_2, w_ild_3, w_bi, w_ic_eq, w_new, w64_r, true_and, and_true, Nat.reduceAdd, Nat.reduceSub, eq_self, tsh_0, tyk_13, tsh_77, tyk_8, tcq_8, tsh_5, tyk_11, tcq_13, tcq_11, tyk_4, tcq_4, tsh_113]
  refine tz_xn (D := 0) (fun d' hd' => k_X11_checkShelf cl_0 h2 hd') hC (by omega) rfl ?_ (fun s q => Or.inr ⟨_, rfl, rfl, KA_refl hC hK⟩)
  intro a2
  try simp only [kb_X11_apply_0, w_ald_0, w_ild_1, w_iv1, tfr_0, tfr_1, tfr_2, tfr_3, tfr_4, w_ild_2, w_ild_3, w_bi, w_ic_eq, w_new, w64_r, true_and, and_true, Nat.reduceAdd, Nat.reduceSub, eq_self, tsh_0, tyk_13, tsh_77, tyk_8, tcq_8, tsh_5, tyk_11, tcq_13, tcq_11, tyk_4, tcq_4, tsh_113]
  have n65 : ∀ c : Int, (c = 126 ∨ c = 98 ∨ OOK c 0) → (0 ≤ c ∧ c ≤ 65535) → tT e d 3330 65 [some (.inr (.inr (.inl (0)))), some (.inl (x1)), some (.inl (x2)), some (.inl (x3))] [.inl c, .inl x2, .inl x1, .inr (.inr (.inl 0))] M n (tQx n (tQi n (fun z M' => (0 ≤ z ∧ z ≤ 1) ∧ KA M M')) (fun _ M' => KA M M')) := by
    intro c hc hc2
    refine tb_X11_apply_65 (c := true) ?_
    simp only [kb_X11_apply_65, w_ic, w_iv4, tfr_0, tfr_1, tfr_2, tfr_3, tfr_4, w_ire, trg, w64_r, true_and, and_true, Nat.reduceAdd, Nat.reduceSub, eq_self, tsh_0, tyk_13, tsh_77, tyk_8, tcq_8, tsh_5, tyk_11, tcq_13, tcq_11, tyk_4, tcq_4, tsh_113]
    refine tc_xi (D := 9) (fun d' hd' => v_change (y := 0) a1 h2 hc he hK hC hd') (by omega) rfl ?_ (fun s M' q => Or.inr ⟨_, rfl, rfl, q⟩)
    rintro z2 M7 ⟨p1, p2⟩
    try simp only [kb_X11_apply_65, w_ic, w_iv4, tfr_0, tfr_1, tfr_2, tfr_3, tfr_4, w_ire, trg, w64_r, true_and, and_true, Nat.reduceAdd, Nat.reduceSub, eq_self, tsh_0, tyk_13, tsh_77, tyk_8, tcq_8, tsh_5, tyk_11, tcq_13, tcq_11, tyk_4, tcq_4, tsh_113]
    exact ⟨by omega, Or.inl ⟨_, rfl, rfl, p1, p2⟩⟩
  have n50 : (x3 = 45 ∨ x3 = 98 ∨ x3 = 101 ∨ x3 = 108 ∨ x3 = 97) → tT e d 3330 50 [some (.inr (.inr (.inl (0)))), some (.inl (x1)), some (.inl (x2)), some (.inl (x3))] [] M n (tQx n (tQi n (fun z M' => (0 ≤ z ∧ z ≤ 1) ∧ KA M M')) (fun _ M' => KA M M')) := by
    intro g
    refine tb_X11_apply_50 (c := true) ?_
    simp only [kb_X11_apply_50, w_ald_0, w_ild_1, w_ild_2, w_ild_3, w_bi, w_ic_ne, w_goto, w64_r, true_and, and_true, Nat.reduceAdd, Nat.reduceSub, eq_self]
    repeat refine And.intro (by omega) ?_
    refine ⟨fun q => ?_, fun q => n65 126 (Or.inl rfl) (by decide)⟩
    refine tb_X11_apply_64 (c := true) ?_
    simp only [kb_X11_apply_64, w_ild_3, w_nil, w64_r, true_and, and_true, Nat.reduceAdd, Nat.reduceSub, eq_self]
    refine n65 x3 ?_ h3
    unfold OOK
    omega
  repeat refine And.intro (by omega) ?_
  refine ⟨fun q => n50 (by omega), fun _ => ?_⟩
  repeat refine And.intro (by omega) ?_
  refine ⟨fun q => n50 (by omega), fun _ => ?_⟩
  repeat refine And.intro (by omega) ?_
  refine ⟨fun q => n50 (by omega), fun _ => ?_⟩
  repeat refine And.intro (by omega) ?_
  refine ⟨fun q => n50 (by omega), fun _ => ?_⟩
  repeat refine And.intro (by omega) ?_
  refine ⟨fun q => n50 (by omega), fun _ => ?_⟩
  exact Or.inr ⟨_, rfl, rfl, KA_refl hC hK⟩
theorem v_put {x1 x2 x3 : Int} (h1 : (-2147483648 ≤ x1 ∧ x1 ≤ 2147483647)) (h2 : -9223372036854775808 ≤ x2 ∧ x2 < 9223372036854775808) (h3 : (-2147483648 ≤ x3 ∧ x3 ≤ 2147483647)) (he : EVr e) (hK : KW M) (hC : CI M) (hd : 9 ≤ d) : tC e d 3382 [.inr (.inr (.inl 0)), .inl x1, .inr (.inl x2), .inl x3] M n (tQx n (tQi n (fun z M' => (0 ≤ z ∧ z ≤ 1) ∧ KA M M')) (fun _ M' => KA M M')) := by
  refine tst_X11_put ?_
  refine tb_X11_put_0 (c := true) ?_
  simp only [kb_X11_put_0, w_ald_0, w_ild_1, w_iv1, tfr_0, tfr_1, tfr_2, tfr_3, tfr_4, w_ild4, w_if_lt, w_bi, w_ic_le, w_nil, w64_r, true_and, and_true, Nat.reduceAdd, Nat.reduceSub, eq_self, tsh_0, tyk_13, tsh_77, tyk_8, tcq_8, tsh_5, tyk_11, tcq_13, tcq_11, tyk_4, tcq_4, tsh_113]
  refine tz_xn (D := 0) (fun d' hd' => k_X11_checkShelf cl_0 h1 hd') hC (by omega) rfl ?_ (fun s q => Or.inr ⟨_, rfl, rfl, KA_refl hC hK⟩)
  intro a1
  try simp only [kb_X11_put_0, w_ald_0, w_ild_1, w_iv1, tfr_0, tfr_1, tfr_2, tfr_3, tfr_4, w_ild4, w_if_lt, w_bi, w_ic_le, w_nil, w64_r, true_and, and_true, Nat.reduceAdd, Nat.reduceSub, eq_self, tsh_0, tyk_13, tsh_77, tyk_8, tcq_8, tsh_5, tyk_11, tcq_13, tcq_11, tyk_4, tcq_4, tsh_113]
  have n17 : tT e d 3382 17 [some (.inr (.inr (.inl (0)))), some (.inl (x1)), some (.inr (.inl (x2))), none, some (.inl (x3))] [] M n (tQx n (tQi n (fun z M' => (0 ≤ z ∧ z ≤ 1) ∧ KA M M')) (fun _ M' => KA M M')) := by
    refine tb_X11_put_17 (c := true) ?_
    simp only [kb_X11_put_17, w_new, w64_r, true_and, and_true, Nat.reduceAdd, Nat.reduceSub, eq_self]
    exact Or.inr ⟨_, rfl, rfl, KA_refl hC hK⟩
  repeat refine And.intro (by omega) ?_
  refine ⟨fun _ => n17, fun g => ?_⟩
  repeat refine And.intro (by omega) ?_
  refine ⟨fun g2 => ?_, fun _ => n17⟩
  obtain ⟨y, rfl⟩ : ∃ k : Nat, x3 = (k : Int) := ⟨x3.toNat, by omega⟩
  refine tb_X11_put_27 (c := true) ?_
  simp only [kb_X11_put_27, w_ald_0, w_gf_13_4, tw_t, w_iv0, tfr_0, tfr_1, tfr_2, tfr_3, tfr_4, w_ild_1, w_bi, w_lld_2, w_ild4, w_iv3, w_iv2, w_ire, trg, w64_r, true_and, and_true, Nat.reduceAdd, Nat.reduceSub, eq_self, tsh_0, tyk_13, tsh_77, tyk_8, tcq_8, tsh_5, tyk_11, tcq_13, tcq_11, tyk_4, tcq_4, tsh_113]
  refine tc_n (D := 0) (fun d' hd' => z_clear (b := 0) (by decide) hC) (by omega) ?_
  rintro M1 ⟨b1, _, b2, b3⟩
  have k1 : KA M M1 := KA_m hK (RO_u hK.1.1.2 (b2 79 4 (by decide)) (b2 79 5 (by decide))) b3
  try simp only [kb_X11_put_27, w_ald_0, w_gf_13_4, tw_t, w_iv0, tfr_0, tfr_1, tfr_2, tfr_3, tfr_4, w_ild_1, w_bi, w_lld_2, w_ild4, w_iv3, w_iv2, w_ire, trg, w64_r, true_and, and_true, Nat.reduceAdd, Nat.reduceSub, eq_self, tsh_0, tyk_13, tsh_77, tyk_8, tcq_8, tsh_5, tyk_11, tcq_13, tcq_11, tyk_4, tcq_4, tsh_113]
  refine tc_i (D := 7) (fun d' hd' => z_make (b := 0) (a := 35) (s := y) (m := 0) (B := B00) (X := (0, 0)) (Y := (0, 0)) (xr := 0) (yr := 0) (Or.inl ⟨rfl, h2, by omega⟩) (by decide) (SK_0 b1) (fun q => absurd q (by decide)) (fun q => absurd q (by decide)) (KU k1.2 k1.1.1) he k1.2.1.1.2 (by decide) k1.1.1 hd') (by omega) ?_
  rintro z M6 ⟨f1, f2, f3, f4⟩
  have k6 : KA M M6 := KA_p k1 f4 f3
  try simp only [kb_X11_put_27, w_ald_0, w_gf_13_4, tw_t, w_iv0, tfr_0, tfr_1, tfr_2, tfr_3, tfr_4, w_ild_1, w_bi, w_lld_2, w_ild4, w_iv3, w_iv2, w_ire, trg, w64_r, true_and, and_true, Nat.reduceAdd, Nat.reduceSub, eq_self, tsh_0, tyk_13, tsh_77, tyk_8, tcq_8, tsh_5, tyk_11, tcq_13, tcq_11, tyk_4, tcq_4, tsh_113]
  refine tc_xi (D := 5) (fun d' hd' => v_become a1 f1 (fun q => by
    obtain ⟨m', B', g1, g2⟩ := f2 q
    rw [AR_0 (Or.inl rfl) g1] at g2
    exact ⟨B', g2⟩) k6.2 k6.1.1 hd') (by omega) rfl ?_ (fun s M' q => Or.inr ⟨_, rfl, rfl, KA_tr k6.1.2 q⟩)
  rintro z2 M7 ⟨p1, p2⟩
  try simp only [kb_X11_put_27, w_ald_0, w_gf_13_4, tw_t, w_iv0, tfr_0, tfr_1, tfr_2, tfr_3, tfr_4, w_ild_1, w_bi, w_lld_2, w_ild4, w_iv3, w_iv2, w_ire, trg, w64_r, true_and, and_true, Nat.reduceAdd, Nat.reduceSub, eq_self, tsh_0, tyk_13, tsh_77, tyk_8, tcq_8, tsh_5, tyk_11, tcq_13, tcq_11, tyk_4, tcq_4, tsh_113]
  exact ⟨by omega, Or.inl ⟨_, rfl, rfl, p1, KA_tr k6.1.2 p2⟩⟩
theorem v_constant {x1 x2 : Int} (h1 : (-2147483648 ≤ x1 ∧ x1 ≤ 2147483647)) (h2 : 0 ≤ x2 ∧ x2 ≤ 65535) (he : EVr e) (hK : KW M) (hC : CI M) (hd : 9 ≤ d) : tC e d 3350 [.inr (.inr (.inl 0)), .inl x1, .inl x2] M n (tQx n (tQi n (fun z M' => (0 ≤ z ∧ z ≤ 1) ∧ KA M M')) (fun _ M' => KA M M')) := by
  refine tst_X11_constant ?_
  refine tb_X11_constant_0 (c := true) ?_
  simp only [kb_X11_constant_0, w_ald_0, w_ild_1, w_iv1, tfr_0, tfr_1, tfr_2, tfr_3, tfr_4, w_ild_2, w_bi, w_ic_eq, w_new, w64_r, true_and, and_true, Nat.reduceAdd, Nat.reduceSub, eq_self, tsh_0, tyk_13, tsh_77, tyk_8, tcq_8, tsh_5, tyk_11, tcq_13, tcq_11, tyk_4, tcq_4, tsh_113]
  refine tz_xn (D := 0) (fun d' hd' => k_X11_checkShelf cl_0 h1 hd') hC (by omega) rfl ?_ (fun s q => Or.inr ⟨_, rfl, rfl, KA_refl hC hK⟩)
  intro a1
  try simp only [kb_X11_constant_0, w_ald_0, w_ild_1, w_iv1, tfr_0, tfr_1, tfr_2, tfr_3, tfr_4, w_ild_2, w_bi, w_ic_eq, w_new, w64_r, true_and, and_true, Nat.reduceAdd, Nat.reduceSub, eq_self, tsh_0, tyk_13, tsh_77, tyk_8, tcq_8, tsh_5, tyk_11, tcq_13, tcq_11, tyk_4, tcq_4, tsh_113]
  have n53 : ∀ (M1 : tM) (c : Int), KA M M1 → M1 77 2 = 0 → (c = 112 ∨ c = 69) → tT e d 3350 53 [some (.inr (.inr (.inl (0)))), some (.inl (x1)), some (.inl (x2))] [.inl c, .inr (.inr (.inl 77)), .inl x1, .inr (.inr (.inl 0))] M1 n (tQx n (tQi n (fun z M' => (0 ≤ z ∧ z ≤ 1) ∧ KA M M')) (fun _ M' => KA M M')) := by
    intro M1 c k1 b1 hc
    refine tb_X11_constant_53 (c := true) ?_
    simp only [kb_X11_constant_53, w_lc0, w_ic, w_iv3, tfr_0, tfr_1, tfr_2, tfr_3, tfr_4, w_iv2, w_ire, trg, w64_r, true_and, and_true, Nat.reduceAdd, Nat.reduceSub, eq_self, tsh_0, tyk_13, tsh_77, tyk_8, tcq_8, tsh_5, tyk_11, tcq_13, tcq_11, tyk_4, tcq_4, tsh_113]
    refine tc_i (D := 7) (fun d' hd' => z_make (b := 0) (a := c) (s := 0) (m := 0) (B := B00) (X := (0, 0)) (Y := (0, 0)) (xr := 0) (yr := 0) (by
      rcases hc with q | q
      · exact Or.inr (Or.inl q)
      · exact Or.inr (Or.inr (Or.inl q))) (by decide) (SK_0 b1) (fun q => absurd q (by omega)) (fun q => absurd q (by omega)) (KU k1.2 k1.1.1) he k1.2.1.1.2 (by decide) k1.1.1 hd') (by omega) ?_
    rintro z M6 ⟨f1, f2, f3, f4⟩
    have k6 : KA M M6 := KA_p k1 f4 f3
    try simp only [kb_X11_constant_53, w_lc0, w_ic, w_iv3, tfr_0, tfr_1, tfr_2, tfr_3, tfr_4, w_iv2, w_ire, trg, w64_r, true_and, and_true, Nat.reduceAdd, Nat.reduceSub, eq_self, tsh_0, tyk_13, tsh_77, tyk_8, tcq_8, tsh_5, tyk_11, tcq_13, tcq_11, tyk_4, tcq_4, tsh_113]
    refine tc_xi (D := 5) (fun d' hd' => v_become a1 f1 (fun q => by
      obtain ⟨m', B', g1, g2⟩ := f2 q
      rw [AR_0 (by omega) g1] at g2
      exact ⟨B', g2⟩) k6.2 k6.1.1 hd') (by omega) rfl ?_ (fun s M' q => Or.inr ⟨_, rfl, rfl, KA_tr k6.1.2 q⟩)
    rintro z2 M7 ⟨p1, p2⟩
    try simp only [kb_X11_constant_53, w_lc0, w_ic, w_iv3, tfr_0, tfr_1, tfr_2, tfr_3, tfr_4, w_iv2, w_ire, trg, w64_r, true_and, and_true, Nat.reduceAdd, Nat.reduceSub, eq_self, tsh_0, tyk_13, tsh_77, tyk_8, tcq_8, tsh_5, tyk_11, tcq_13, tcq_11, tyk_4, tcq_4, tsh_113]
    exact ⟨by omega, Or.inl ⟨_, rfl, rfl, p1, KA_tr k6.1.2 p2⟩⟩
  have n27 : tT e d 3350 27 [some (.inr (.inr (.inl (0)))), some (.inl (x1)), some (.inl (x2))] [] M n (tQx n (tQi n (fun z M' => (0 ≤ z ∧ z ≤ 1) ∧ KA M M')) (fun _ M' => KA M M')) := by
    refine tb_X11_constant_27 (c := true) ?_
    simp only [kb_X11_constant_27, w_ald_0, w_gf_13_4, tw_t, w_iv0, tfr_0, tfr_1, tfr_2, tfr_3, tfr_4, w_ild_1, w_ild_2, w_bi, w_ic_ne, w_goto, w64_r, true_and, and_true, Nat.reduceAdd, Nat.reduceSub, eq_self, tsh_0, tyk_13, tsh_77, tyk_8, tcq_8, tsh_5, tyk_11, tcq_13, tcq_11, tyk_4, tcq_4, tsh_113]
    refine tc_n (D := 0) (fun d' hd' => z_clear (b := 0) (by decide) hC) (by omega) ?_
    rintro M1 ⟨b1, _, b2, b3⟩
    have k1 : KA M M1 := KA_m hK (RO_u hK.1.1.2 (b2 79 4 (by decide)) (b2 79 5 (by decide))) b3
    try simp only [kb_X11_constant_27, w_ald_0, w_gf_13_4, tw_t, w_iv0, tfr_0, tfr_1, tfr_2, tfr_3, tfr_4, w_ild_1, w_ild_2, w_bi, w_ic_ne, w_goto, w64_r, true_and, and_true, Nat.reduceAdd, Nat.reduceSub, eq_self, tsh_0, tyk_13, tsh_77, tyk_8, tcq_8, tsh_5, tyk_11, tcq_13, tcq_11, tyk_4, tcq_4, tsh_113]
    repeat refine And.intro (by omega) ?_
    refine ⟨fun q => ?_, fun q => n53 M1 112 k1 b1 (Or.inl rfl)⟩
    refine tb_X11_constant_51 (c := true) ?_
    simp only [kb_X11_constant_51, w_bi, w_nil, w64_r, true_and, and_true, Nat.reduceAdd, Nat.reduceSub, eq_self]
    exact n53 M1 69 k1 b1 (Or.inr rfl)
  repeat refine And.intro (by omega) ?_
  refine ⟨fun _ => n27, fun _ => ?_⟩
  repeat refine And.intro (by omega) ?_
  refine ⟨fun _ => n27, fun _ => ?_⟩
  exact Or.inr ⟨_, rfl, rfl, KA_refl hC hK⟩
end HAND
