/-! WHAT HOLDS BETWEEN CALLS: boxes in a row. -/
/-- the rows of boxes -/
def PCS (P : Nat) : Prop := P = 530 ∨ P = 560 ∨ P = 590 ∨ P = 620
theorem PC_of {P : Nat} (h : PCS P) : tsh P = 9 ∧ tsh (P + 1) = 29 ∧ tqo (P + 1) = 1 ∧ tsh (P + 26) = 30 ∧ tsh (P + 27) = 4 := by
  rcases h with rfl | rfl | rfl | rfl <;> (refine ⟨?_, ?_, rfl, ?_, ?_⟩ <;> (rw [tsh_def]; decide +kernel))
theorem cl_pc {P i : Nat} (h : PCS P) (hi : i < 8) : cl (P + 1 + 1 + 3 * i) 4 := by
  have g : (List.range 8).all (fun i => Nat.beq (tshl.getD (530 + 1 + 1 + 3 * i) 0) 4 && Nat.beq (tshl.getD (560 + 1 + 1 + 3 * i) 0) 4 && Nat.beq (tshl.getD (590 + 1 + 1 + 3 * i) 0) 4 && Nat.beq (tshl.getD (620 + 1 + 1 + 3 * i) 0) 4) = true := by decide +kernel
  have q := List.all_eq_true.mp g i (List.mem_range.mpr hi)
  have q : (Nat.beq (tshl.getD (530 + 1 + 1 + 3 * i) 0) 4 && Nat.beq (tshl.getD (560 + 1 + 1 + 3 * i) 0) 4 && Nat.beq (tshl.getD (590 + 1 + 1 + 3 * i) 0) 4 && Nat.beq (tshl.getD (620 + 1 + 1 + 3 * i) 0) 4) = true := q
  simp only [Bool.and_eq_true] at q
  refine ⟨?_, by unfold PCS at h; omega⟩
  rw [tsh_def]
  rcases h with rfl | rfl | rfl | rfl
  · exact Nat.eq_of_beq_eq_true q.1.1.1
  · exact Nat.eq_of_beq_eq_true q.1.1.2
  · exact Nat.eq_of_beq_eq_true q.1.2
  · exact Nat.eq_of_beq_eq_true q.2
theorem cl_P {P : Nat} (h : PCS P) : cl P 9 := ⟨(PC_of h).1, by unfold PCS at h; omega⟩
theorem cl_md {P : Nat} (h : PCS P) : cl (P + 27) 4 := ⟨(PC_of h).2.2.2.2, by unfold PCS at h; omega⟩
/-- the boxes that are counted are good -/
def PCG (M : tM) (P c : Nat) : Prop := (M P 3 = (c : Int) ∧ c ≤ 8) ∧ ∀ i : Nat, i < c → BXG M (P + 1 + 1 + 3 * i)
theorem tyk_9 : tyk 9 = (0, 9, 4) := rfl
theorem tcq_9 : ((9 : Nat) : Int) = 9 := rfl
theorem tyk_29 : tyk 29 = (3, 4, 8) := rfl
theorem tyk_30 : tyk 30 = (1, 1, 8) := rfl
theorem KA_P {P : Nat} {f v : Int} {M : tM} (hP : PCS P) (h : KW M) (c : CI (tU M P f v)) (p : pE 0 M (tU M P f v)) : KA M (tU M P f v) := by
  have e1 : (79 : Nat) ≠ P := by unfold PCS at hP; omega
  exact KA_f h c p (RO_u h.1.1.2 (tU_nk e1) (tU_nk e1)) (fun k i g => tU_nk (by unfold KPC at g; unfold PCS at hP; omega))
theorem KA_Q {P : Nat} {f v : Int} {M : tM} (hP : PCS P) (h : KW M) (c : CI (tU M (P + 26) f v)) (p : pE 0 M (tU M (P + 26) f v)) : KA M (tU M (P + 26) f v) := by
  have e1 : (79 : Nat) ≠ P + 26 := by unfold PCS at hP; omega
  exact KA_f h c p (RO_u h.1.1.2 (tU_nk e1) (tU_nk e1)) (fun k i g => tU_nk (by unfold KPC at g; unfold PCS at hP; omega))
section HAND
variable {e : tE} {d n : Nat} {M : tM}
theorem z_pclear {P : Nat} (hP : PCS P) (hK : KW M) (hC : CI M) : tC e d 2307 [.inr (.inr (.inl P))] M n (tQn n (fun M' => KA M M' ∧ PCG M' P 0 ∧ ∀ (k : Nat) (i : Int), k ≠ P → M' k i = M k i)) := by
  obtain ⟨hp, -⟩ := PC_of hP
  refine tst_X7_clear ?_
  refine tb_X7_clear_0 (c := false) ?_
  simp only [kb_X7_clear_0, w_ald_0, w_ic, w_pf_9_3, w_re, true_and, and_true, Nat.reduceAdd, Nat.reduceSub, eq_self, tyk_9, tcq_9, tyk_29, tyk_30, tel_4, tyk_4, tcq_4, hp]
  have c2 : CI (tU M P 3 0) := CI_put hC hp (fun _ => by show (0 : Int) ≤ 0 ∧ (0 : Int) ≤ 8; decide)
  have p2 : pE 0 M (tU M P 3 0) := pE_put (prt_f (a := 9) (f := 3) (Or.inl (by decide)) (cl_P hP) (by decide) (fun q => absurd q (by decide)) (by decide))
  exact ⟨rfl, rfl, KA_P hP hK c2 p2, ⟨⟨tU_eq .., by decide⟩, fun i q => absurd q (by omega)⟩, fun k i q => tU_nk q⟩
theorem z_pwithin {P : Nat} {i : Int} (hi : 0 ≤ i ∧ i ≤ 7) : tC e d 2312 [.inr (.inr (.inl P)), .inl i] M n (tQi n (fun z M' => z = i ∧ M' = M)) := by
  refine tst_X7_within ?_
  refine tb_X7_within_0 (c := false) ?_
  simp only [kb_X7_within_0, w_ild_1, w_if_lt, w_bi, w_ic_lt, w_nil, true_and, and_true, Nat.reduceAdd, Nat.reduceSub, eq_self]
  repeat refine And.intro (by omega) ?_
  first | refine ⟨fun q => absurd q (by omega), fun _ => ?_⟩ | refine fun _ => ?_
  repeat refine And.intro (by omega) ?_
  refine ⟨fun _ => ?_, fun q => absurd (by omega) q⟩
  refine tb_X7_within_14 (c := false) ?_
  simp only [kb_X7_within_14, w_ild_1, w_nil, true_and, and_true, Nat.reduceAdd, Nat.reduceSub, eq_self]
  refine tb_X7_within_15 (c := false) ?_
  simp only [kb_X7_within_15, w_ire, trg, true_and, and_true, Nat.reduceAdd, Nat.reduceSub, eq_self]
  exact ⟨_, rfl, rfl, rfl, rfl⟩
theorem z_pbox {P i : Nat} (hP : PCS P) (hi : i < 8) (hd : 1 ≤ d) : tC e d 2306 [.inr (.inr (.inl P)), .inl (i : Int)] M n (tQr n (fun z M' => z = P + 1 + 1 + 3 * i ∧ M' = M)) := by
  obtain ⟨hp, hq, hr, -⟩ := PC_of hP
  refine tst_X7_box ?_
  refine tb_X7_box_0 (c := false) ?_
  simp only [kb_X7_box_0, w_ald_0, w_gf_9_0, tw_f, w_ild_1, w_iv1, tfr_0, tfr_1, tfr_2, tfr_3, tfr_4, w_aa, w_are, true_and, and_true, Nat.reduceAdd, Nat.reduceSub, eq_self, tyk_9, tcq_9, tyk_29, tyk_30, tel_4, tyk_4, tcq_4, hp, hq, hr]
  refine tc_i (D := 0) (fun d' hd' => z_pwithin (by omega)) (by omega) ?_
  rintro z M1 ⟨rfl, rfl⟩
  try simp only [kb_X7_box_0, w_ald_0, w_gf_9_0, tw_f, w_ild_1, w_iv1, tfr_0, tfr_1, tfr_2, tfr_3, tfr_4, w_aa, w_are, true_and, and_true, Nat.reduceAdd, Nat.reduceSub, eq_self, tyk_9, tcq_9, tyk_29, tyk_30, tel_4, tyk_4, tcq_4, hp, hq, hr]
  refine ⟨by omega, _, rfl, rfl, ?_, rfl⟩
  rw [nat_n]
theorem PCG_c {P c x : Nat} {M M1 : tM} (hP : PCS P) (h : PCG M P c) (hx : cl x 4) (f : BE 0 M M1 x) (g : BXG M1 x) : PCG M1 P c := by
  obtain ⟨⟨h1, h2⟩, h3⟩ := h
  have n3 : tsh P ≠ 3 := by rw [(PC_of hP).1]; decide
  refine ⟨⟨(f.2 P 3 (fun q => n3 (by rw [q]; exact (bxl_1 hx).1)) (fun q => n3 (by rw [q]; exact (bxl_2 hx).1))).trans h1, h2⟩, fun i hi => BXG_c (h3 i hi) (cl_pc hP (by omega)) hx f g⟩
theorem PCG_u {P c : Nat} {M M1 : tM} (h : PCG M P c) (e3 : M1 P 3 = M P 3) (f : ∀ (k : Nat) (i : Int), P + 1 < k → k < P + 26 → M1 k i = M k i) : PCG M1 P c := by
  obtain ⟨⟨h1, h2⟩, h3⟩ := h
  exact ⟨⟨e3.trans h1, h2⟩, fun i hi => BXG_f (h3 i hi) (fun j => f _ _ (by omega) (by omega)) (fun j => f _ _ (by omega) (by omega))⟩
/-- a box is put behind -/
theorem z_append {P y c : Nat} {v : Int × Int} {mk : Int} (hP : PCS P) (hc : PCG M P c) (hy : cl y 4) (hv : BX M y v.1 v.2 ∧ GBX v) (hm : -2147483648 ≤ mk ∧ mk ≤ 2147483647) (hK : KW M) (hC : CI M) (hd : 2 ≤ d) : tC e d 2305 [.inr (.inr (.inl P)), .inr (.inr (.inl y)), .inl mk] M n (tQn n (fun M' => KA M M' ∧ (PCG M' P (c + 1) ∨ (8 ≤ c ∧ PCG M' P c)) ∧ ∀ (k : Nat) (i : Int), (k < P ∨ P + 26 < k) → M' k i = M k i)) := by
  obtain ⟨hp, hq, hr, hs, -⟩ := PC_of hP
  have hys := hy.1
  have h3 := hc.1.1
  have h8 := hc.1.2
  refine tst_X7_append ?_
  refine tb_X7_append_0 (c := false) ?_
  simp only [kb_X7_append_0, w_ald_0, w_gf_9_3, tw_f, w_bi, w_ic_ge, w_gf_9_0, w_aa, w_ald_1, w_iv1, tfr_0, tfr_1, tfr_2, tfr_3, tfr_4, w_gf_9_1, w_ild_2, w_ias, ne_eq, eq_self, not_true_eq_false, false_implies, w_dupi, w_dupr, w_ic, w_iadd, w_pf_9_3, w_nil, true_and, and_true, Nat.reduceAdd, Nat.reduceSub, eq_self, tyk_9, tcq_9, tyk_29, tyk_30, tel_4, tyk_4, tcq_4, hp, hq, hr, hs, hys]
  rw [h3]
  repeat refine And.intro (by omega) ?_
  refine ⟨fun g => ?_, fun g => ?_⟩
  · refine tb_X7_append_42 (c := false) ?_
    simp only [kb_X7_append_42, w_re, true_and, and_true, Nat.reduceAdd, Nat.reduceSub, eq_self]
    exact ⟨rfl, rfl, KA_refl hC hK, Or.inr ⟨by omega, hc⟩, fun _ _ _ => rfl⟩
  repeat refine And.intro (by omega) ?_
  rw [nat_n]
  have ck := cl_pc hP (i := c) (by omega)
  have cks := ck.1
  try simp only [kb_X7_append_0, w_ald_0, w_gf_9_3, tw_f, w_bi, w_ic_ge, w_gf_9_0, w_aa, w_ald_1, w_iv1, tfr_0, tfr_1, tfr_2, tfr_3, tfr_4, w_gf_9_1, w_ild_2, w_ias, ne_eq, eq_self, not_true_eq_false, false_implies, w_dupi, w_dupr, w_ic, w_iadd, w_pf_9_3, w_nil, true_and, and_true, Nat.reduceAdd, Nat.reduceSub, eq_self, tyk_9, tcq_9, tyk_29, tyk_30, tel_4, tyk_4, tcq_4, hp, hq, hr, hs, hys, cks]
  repeat refine And.intro (by omega) ?_
  refine tc_n (D := 1) (fun d' hd' => z_copy (b := 0) ck hy hv.1 (by decide) hC hd') (by omega) ?_
  rintro M1 ⟨x1, f1⟩
  have g1 : BXG M1 (P + 1 + 1 + 3 * c) := ⟨v, x1, hv.2⟩
  have w1 : KW M1 := KW_c hK ck f1 g1
  have q1 := PCG_c hP hc ck f1 g1
  have t1 := q1.1.1
  try simp only [kb_X7_append_0, w_ald_0, w_gf_9_3, tw_f, w_bi, w_ic_ge, w_gf_9_0, w_aa, w_ald_1, w_iv1, tfr_0, tfr_1, tfr_2, tfr_3, tfr_4, w_gf_9_1, w_ild_2, w_ias, ne_eq, eq_self, not_true_eq_false, false_implies, w_dupi, w_dupr, w_ic, w_iadd, w_pf_9_3, w_nil, true_and, and_true, Nat.reduceAdd, Nat.reduceSub, eq_self, tyk_9, tcq_9, tyk_29, tyk_30, tel_4, tyk_4, tcq_4, hp, hq, hr, hs, hys, cks]
  rw [t1]
  repeat refine And.intro (by omega) ?_
  have c2 : CI (tU M1 (P + 26) (c : Int) mk) := CI_put f1.1.1 hs (fun _ => by show -2147483648 ≤ mk ∧ mk ≤ 2147483647; exact hm)
  have p2 : pE 0 M1 (tU M1 (P + 26) (c : Int) mk) := pE_put (prt_a (t := 1) (Or.inl (by decide)) ⟨by unfold PCS at hP; omega, by rw [hs]; rfl, by omega, by rw [hs]; show _ < (8 : Int); omega⟩ (by decide) (fun _ => rfl))
  have k2 := KA_Q hP w1 c2 p2
  have u2 : ∀ (k : Nat) (i : Int), k ≠ P + 26 → tU M1 (P + 26) (c : Int) mk k i = M1 k i := fun k i q => tU_nk q
  generalize tU M1 (P + 26) (c : Int) mk = M2 at *
  have t2 : M2 P 3 = (c : Int) := (u2 P 3 (by omega)).trans t1
  try simp only [kb_X7_append_0, w_ald_0, w_gf_9_3, tw_f, w_bi, w_ic_ge, w_gf_9_0, w_aa, w_ald_1, w_iv1, tfr_0, tfr_1, tfr_2, tfr_3, tfr_4, w_gf_9_1, w_ild_2, w_ias, ne_eq, eq_self, not_true_eq_false, false_implies, w_dupi, w_dupr, w_ic, w_iadd, w_pf_9_3, w_nil, true_and, and_true, Nat.reduceAdd, Nat.reduceSub, eq_self, tyk_9, tcq_9, tyk_29, tyk_30, tel_4, tyk_4, tcq_4, hp, hq, hr, hs, hys, cks]
  rw [t2]
  repeat refine And.intro (by omega) ?_
  have c3 : CI (tU M2 P 3 ((c : Int) + 1)) := CI_put c2 hp (fun _ => by show 0 ≤ (c : Int) + 1 ∧ (c : Int) + 1 ≤ 8; omega)
  have p3 : pE 0 M2 (tU M2 P 3 ((c : Int) + 1)) := pE_put (prt_f (a := 9) (f := 3) (Or.inl (by decide)) (cl_P hP) (by decide) (fun q => absurd q (by decide)) (by decide))
  have k3 := KA_P hP k2.2 c3 p3
  have u3 : ∀ (k : Nat) (i : Int), k ≠ P → tU M2 P 3 ((c : Int) + 1) k i = M2 k i := fun k i q => tU_nk q
  have t3 : tU M2 P 3 ((c : Int) + 1) P 3 = (c : Int) + 1 := tU_eq ..
  generalize tU M2 P 3 ((c : Int) + 1) = M3 at *
  refine tb_X7_append_42 (c := false) ?_
  simp only [kb_X7_append_42, w_re, true_and, and_true, Nat.reduceAdd, Nat.reduceSub, eq_self]
  have bx : ∀ i : Nat, i < c + 1 → BXG M3 (P + 1 + 1 + 3 * i) := fun i hi => by
    have h : BXG M1 (P + 1 + 1 + 3 * i) := by
      rcases Nat.lt_or_ge i c with g2 | g2
      · exact q1.2 i g2
      · have g3 : i = c := by omega
        rw [g3]
        exact g1
    exact BXG_f h (fun j => (u3 _ _ (by omega)).trans (u2 _ _ (by omega))) (fun j => (u3 _ _ (by omega)).trans (u2 _ _ (by omega)))
  exact ⟨rfl, rfl, KA_tr (pE_tr f1.1.2 p2) k3, Or.inl ⟨⟨t3.trans (by omega), by omega⟩, bx⟩, fun k i q => (u3 k i (by omega)).trans ((u2 k i (by omega)).trans (f1.2 k i (by omega) (by omega)))⟩
/-- the last box is taken off -/
theorem z_takeLast {P y c : Nat} (hP : PCS P) (hc : PCG M P (c + 1)) (hy : cl y 4) (hn : 649 < y) (hK : KW M) (hC : CI M) (hd : 2 ≤ d) : tC e d 2311 [.inr (.inr (.inl P)), .inr (.inr (.inl y))] M n (tQi n (fun z M' => (-2147483648 ≤ z ∧ z ≤ 2147483647) ∧ KA M M' ∧ PCG M' P c ∧ BXG M' y ∧ ∀ (k : Nat) (i : Int), k ≠ P → k ≠ y + 1 → k ≠ y + 2 → M' k i = M k i)) := by
  obtain ⟨hp, hq, hr, hs, -⟩ := PC_of hP
  have hys := hy.1
  have h3 := hc.1.1
  have h8 := hc.1.2
  have e3 : M P 3 - 1 = (c : Int) := by omega
  refine tst_X7_takeLast ?_
  refine tb_X7_takeLast_0 (c := false) ?_
  simp only [kb_X7_takeLast_0, w_ald_0, w_gf_9_3, tw_f, w_if_le, w_dupi, w_dupr, w_ic, w_isub, w_pf_9_3, w_nil, true_and, and_true, Nat.reduceAdd, Nat.reduceSub, eq_self, tyk_9, tcq_9, tyk_29, tyk_30, tel_4, tyk_4, tcq_4, hp, hq, hr, hs, hys]
  repeat refine And.intro (by omega) ?_
  first | refine ⟨fun q => absurd q (by omega), fun _ => ?_⟩ | refine fun _ => ?_
  repeat refine And.intro (by omega) ?_
  rw [e3]
  have c3 : CI (tU M P 3 (c : Int)) := CI_put hC hp (fun _ => by show 0 ≤ (c : Int) ∧ (c : Int) ≤ 8; omega)
  have p3 : pE 0 M (tU M P 3 (c : Int)) := pE_put (prt_f (a := 9) (f := 3) (Or.inl (by decide)) (cl_P hP) (by decide) (fun q => absurd q (by decide)) (by decide))
  have k3 := KA_P hP hK c3 p3
  have u3 : ∀ (k : Nat) (i : Int), k ≠ P → tU M P 3 (c : Int) k i = M k i := fun k i q => tU_nk q
  have t3 : tU M P 3 (c : Int) P 3 = (c : Int) := tU_eq ..
  generalize tU M P 3 (c : Int) = M1 at *
  have q1 : ∀ i : Nat, i < c + 1 → BXG M1 (P + 1 + 1 + 3 * i) := fun i hi => BXG_f (hc.2 i hi) (fun j => u3 _ _ (by omega)) (fun j => u3 _ _ (by omega))
  have ck := cl_pc hP (i := c) (by omega)
  have cks := ck.1
  refine tb_X7_takeLast_17 (c := false) ?_
  simp only [kb_X7_takeLast_17, w_ald_1, w_ald_0, w_gf_9_0, tw_f, w_gf_9_3, w_aa, w_iv1, tfr_0, tfr_1, tfr_2, tfr_3, tfr_4, w_gf_9_1, w_ia, w_iax, w_ire, trg, true_and, and_true, Nat.reduceAdd, Nat.reduceSub, eq_self, tyk_9, tcq_9, tyk_29, tyk_30, tel_4, tyk_4, tcq_4, hp, hq, hr, hs, hys]
  rw [t3]
  repeat refine And.intro (by omega) ?_
  rw [nat_n]
  try simp only [kb_X7_takeLast_17, w_ald_1, w_ald_0, w_gf_9_0, tw_f, w_gf_9_3, w_aa, w_iv1, tfr_0, tfr_1, tfr_2, tfr_3, tfr_4, w_gf_9_1, w_ia, w_iax, w_ire, trg, true_and, and_true, Nat.reduceAdd, Nat.reduceSub, eq_self, tyk_9, tcq_9, tyk_29, tyk_30, tel_4, tyk_4, tcq_4, hp, hq, hr, hs, hys, cks]
  repeat refine And.intro (by omega) ?_
  obtain ⟨v, g1, g2⟩ := q1 c (by omega)
  refine tc_n (D := 1) (fun d' hd' => z_copy (b := 0) hy ck g1 (by decide) k3.1.1 hd') (by omega) ?_
  rintro M2 ⟨x2, f2⟩
  have kb := KA_b k3.2 hn f2
  have t2 : M2 P 3 = (c : Int) := (f2.2 P 3 (by unfold PCS at hP; omega) (by unfold PCS at hP; omega)).trans t3
  have mr := kb.1.1.1 (P + 26) (c : Int) (by unfold PCS at hP; omega) (by omega)
  rw [hs] at mr
  have mr : -2147483648 ≤ M2 (P + 26) (c : Int) ∧ M2 (P + 26) (c : Int) ≤ 2147483647 := mr
  try simp only [kb_X7_takeLast_17, w_ald_1, w_ald_0, w_gf_9_0, tw_f, w_gf_9_3, w_aa, w_iv1, tfr_0, tfr_1, tfr_2, tfr_3, tfr_4, w_gf_9_1, w_ia, w_iax, w_ire, trg, true_and, and_true, Nat.reduceAdd, Nat.reduceSub, eq_self, tyk_9, tcq_9, tyk_29, tyk_30, tel_4, tyk_4, tcq_4, hp, hq, hr, hs, hys, cks]
  rw [t2]
  repeat refine And.intro (by omega) ?_
  exact ⟨_, rfl, rfl, mr, KA_tr k3.1.2 kb, ⟨⟨t2, by omega⟩, fun i hi => BXG_f (q1 i (by omega)) (fun j => f2.2 _ _ (by unfold PCS at hP; omega) (by unfold PCS at hP; omega)) (fun j => f2.2 _ _ (by unfold PCS at hP; omega) (by unfold PCS at hP; omega))⟩, ⟨v, x2, g2⟩, fun k i a1 a2 a3 => (f2.2 k i a2 a3).trans (u3 k i a1)⟩
end HAND
