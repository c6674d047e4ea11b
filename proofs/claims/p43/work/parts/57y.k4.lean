/-! WHAT HOLDS BETWEEN CALLS: a box is cut into parts. -/
/-- the rows of parts -/
def PPS (P : Nat) : Prop := P = 590 ∨ P = 620
theorem PP_S {P : Nat} (h : PPS P) : PCS P := by
  unfold PPS at h
  unfold PCS
  omega
/-- only a row of parts changes -/
def PF (P : Nat) (M M' : tM) : Prop := (CI M' ∧ pE 0 M M') ∧ ∀ (k : Nat) (i : Int), (k < P ∨ P + 29 < k) → M' k i = M k i
theorem PF_refl {P : Nat} {M : tM} (hC : CI M) : PF P M M := ⟨⟨hC, pE_refl⟩, fun _ _ _ => rfl⟩
theorem PF_tr {P : Nat} {M M1 M2 : tM} (h1 : PF P M M1) (h2 : PF P M1 M2) : PF P M M2 := ⟨⟨h2.1.1, pE_tr h1.1.2 h2.1.2⟩, fun k i g => (h2.2 k i g).trans (h1.2 k i g)⟩
theorem PF_b {P x : Nat} {M M1 : tM} (hx : P ≤ x + 1 ∧ x + 2 ≤ P + 29) (h : BE 0 M M1 x) : PF P M M1 := ⟨h.1, fun k i g => h.2 k i (by omega) (by omega)⟩
theorem PF_d {P x : Nat} {M M1 : tM} (hx : P ≤ x ∧ x ≤ P + 29) (h : BD 0 M M1 x) : PF P M M1 := ⟨⟨h.1, h.2.1⟩, fun k i g => h.2.2 k i (by omega)⟩
theorem KA_pf {P : Nat} {M M1 : tM} (hP : PPS P) (h : KW M) (f : PF P M M1) : KA M M1 := KA_f h f.1.1 f.1.2 (RO_u h.1.1.2 (f.2 79 4 (by unfold PPS at hP; omega)) (f.2 79 5 (by unfold PPS at hP; omega))) (fun k i g => f.2 k i (by unfold PPS at hP; unfold KPC at g; omega))
section HAND
variable {e : tE} {d n : Nat} {M : tM}
theorem z_split {P x c : Nat} {v : Int × Int} {m : Int} (hP : PPS P) (hc : PCG M P c) (hx : x < c) (hv : BX M (P + 1 + 1 + 3 * x) v.1 v.2 ∧ GBX v) (hm : BX M (P + 27) m m) (m1 : v.1 ≤ m ∧ m ≤ v.2) (hC : CI M) (hd : 2 ≤ d) : tC e d 2310 [.inr (.inr (.inl P)), .inl (x : Int)] M n (tQn n (fun M' => (∃ c' : Nat, c ≤ c' ∧ PCG M' P c') ∧ PF P M M')) := by
  have hP2 := PP_S hP
  obtain ⟨hp, hq, hr, hs, ht⟩ := PC_of hP2
  have pb : 590 ≤ P ∧ P ≤ 620 := by unfold PPS at hP; omega
  have h3 := hc.1.1
  have h8 := hc.1.2
  refine tst_X7_split ?_
  refine tb_X7_split_0 (c := false) ?_
  simp only [kb_X7_split_0, w_ald_0, w_gf_9_3, tw_f, w_bi, w_ic_lt, w_re, true_and, and_true, Nat.reduceAdd, Nat.reduceSub, eq_self, tyk_9, tcq_9, tyk_29, tyk_30, tel_4, tyk_4, tcq_4, hp, hq, hr, hs, ht]
  rw [h3]
  repeat refine And.intro (by omega) ?_
  refine ⟨fun g => ?_, fun g => ⟨rfl, rfl, ⟨c, Nat.le_refl _, hc⟩, PF_refl hC⟩⟩
  refine tb_X7_split_10 (c := false) ?_
  simp only [kb_X7_split_10, w_ald_0, w_gf_9_3, tw_f, w_ist_2, tkl_n, tkl_i, tkl_l, tkl_r, w_nil, true_and, and_true, Nat.reduceAdd, Nat.reduceSub, eq_self, tyk_9, tcq_9, tyk_29, tyk_30, tel_4, tyk_4, tcq_4, hp, hq, hr, hs, ht]
  rw [h3]
  have nl : ∀ (fu : Nat) (M1 : tM) (i : Nat), i - x = fu → x ≤ i → i ≤ c → M1 P 3 = (c : Int) → PF P M M1 → (∀ j : Nat, j ≤ c → j ≠ i → BXG M1 (P + 1 + 1 + 3 * j)) → BX M1 (P + 1 + 1 + 3 * x) v.1 v.2 → (i ≤ x → BX M1 (P + 1 + 1 + 3 * (x + 1)) v.1 v.2) → BX M1 (P + 27) m m → tT e d 2310 15 [some (.inr (.inr (.inl (P)))), some (.inl ((x : Int))), some (.inl ((i : Int)))] [] M1 n (tQn n (fun M' => (∃ c' : Nat, c ≤ c' ∧ PCG M' P c') ∧ PF P M M')) := by
    intro fu
    induction fu with
    | zero =>
      intro M1 i hf hi1 hi2 t1 f1 b1 bx1 by1 bm1
      have hix : i = x := by omega
      subst hix
      have by1 := by1 (Nat.le_refl _)
      refine tb_X7_split_15 (c := false) ?_
      simp only [kb_X7_split_15, w_ild_2, w_ild_1, w_ic_le, w_ald_0, w_gf_9_0, tw_f, w_aa, w_ic, w_isub, w_iv1, tfr_0, tfr_1, tfr_2, tfr_3, tfr_4, w_inc2, tkl_n, tkl_i, tkl_l, tkl_r, w_goto, true_and, and_true, Nat.reduceAdd, Nat.reduceSub, eq_self, tyk_9, tcq_9, tyk_29, tyk_30, tel_4, tyk_4, tcq_4, hp, hq, hr, hs, ht]
      repeat refine And.intro (by omega) ?_
      refine ⟨fun _ => ?_, fun q => absurd (by omega) q⟩
      have ck1 := cl_pc hP2 (i := i) (by omega)
      have ck2 := cl_pc hP2 (i := i + 1) (by omega)
      have cs1 := ck1.1
      have cs2 := ck2.1
      have cm := cl_md hP2
      refine tb_X7_split_43 (c := false) ?_
      simp only [kb_X7_split_43, w_ald_0, w_dupi, w_dupr, w_gf_9_3, tw_f, w_ic, w_iadd, w_pf_9_3, w_gf_9_0, w_ild_1, w_aa, w_gf_4_1, w_gf_9_2, w_gf_4_0, w_iv1, tfr_0, tfr_1, tfr_2, tfr_3, tfr_4, w_re, true_and, and_true, Nat.reduceAdd, Nat.reduceSub, eq_self, tyk_9, tcq_9, tyk_29, tyk_30, tel_4, tyk_4, tcq_4, hp, hq, hr, hs, ht, cs1, cs2]
      rw [t1]
      repeat refine And.intro (by omega) ?_
      have c3 : CI (tU M1 P 3 ((c : Int) + 1)) := CI_put f1.1.1 hp (fun _ => by show 0 ≤ (c : Int) + 1 ∧ (c : Int) + 1 ≤ 8; omega)
      have p3 : pE 0 M1 (tU M1 P 3 ((c : Int) + 1)) := pE_put (prt_f (a := 9) (f := 3) (Or.inl (by decide)) (cl_P hP2) (by decide) (fun q => absurd q (by decide)) (by decide))
      have u3 : ∀ (k : Nat) (i : Int), k ≠ P → tU M1 P 3 ((c : Int) + 1) k i = M1 k i := fun k i q => tU_nk q
      have t3 : tU M1 P 3 ((c : Int) + 1) P 3 = (c : Int) + 1 := tU_eq ..
      generalize tU M1 P 3 ((c : Int) + 1) = M2 at *
      have f2 : PF P M M2 := PF_tr f1 ⟨⟨c3, p3⟩, fun k i g => u3 k i (by omega)⟩
      rw [nat_n]
      try simp only [kb_X7_split_43, w_ald_0, w_dupi, w_dupr, w_gf_9_3, tw_f, w_ic, w_iadd, w_pf_9_3, w_gf_9_0, w_ild_1, w_aa, w_gf_4_1, w_gf_9_2, w_gf_4_0, w_iv1, tfr_0, tfr_1, tfr_2, tfr_3, tfr_4, w_re, true_and, and_true, Nat.reduceAdd, Nat.reduceSub, eq_self, tyk_9, tcq_9, tyk_29, tyk_30, tel_4, tyk_4, tcq_4, hp, hq, hr, hs, ht, cs1, cs2]
      repeat refine And.intro (by omega) ?_
      have bm2 : BX M2 (P + 27) m m := BX_f bm1 (fun j => u3 _ _ (by omega)) (fun j => u3 _ _ (by omega))
      have cb1 := (bxl_2 ck1).1
      have cb2 := (bxl_1 ck2).1
      rw [cb1]
      refine ⟨⟨rfl, rfl⟩, ?_⟩
      refine tc_n (D := 0) (fun d' hd' => y_copy (b := 0) (bxl_2 ck1) (bxl_1 cm) bm2.1 (Or.inl (by decide)) c3) (by omega) ?_
      rintro M3 ⟨x3, f3⟩
      try simp only [kb_X7_split_43, w_ald_0, w_dupi, w_dupr, w_gf_9_3, tw_f, w_ic, w_iadd, w_pf_9_3, w_gf_9_0, w_ild_1, w_aa, w_gf_4_1, w_gf_9_2, w_gf_4_0, w_iv1, tfr_0, tfr_1, tfr_2, tfr_3, tfr_4, w_re, true_and, and_true, Nat.reduceAdd, Nat.reduceSub, eq_self, tyk_9, tcq_9, tyk_29, tyk_30, tel_4, tyk_4, tcq_4, hp, hq, hr, hs, ht, cs1, cs2]
      repeat refine And.intro (by omega) ?_
      rw [show ((i : Nat) : Int) + 1 = ((i + 1 : Nat) : Int) by omega, nat_n]
      try simp only [kb_X7_split_43, w_ald_0, w_dupi, w_dupr, w_gf_9_3, tw_f, w_ic, w_iadd, w_pf_9_3, w_gf_9_0, w_ild_1, w_aa, w_gf_4_1, w_gf_9_2, w_gf_4_0, w_iv1, tfr_0, tfr_1, tfr_2, tfr_3, tfr_4, w_re, true_and, and_true, Nat.reduceAdd, Nat.reduceSub, eq_self, tyk_9, tcq_9, tyk_29, tyk_30, tel_4, tyk_4, tcq_4, hp, hq, hr, hs, ht, cs1, cs2]
      repeat refine And.intro (by omega) ?_
      have ff3 : PF P M M3 := PF_tr f2 (PF_d (by omega) f3)
      have bm3 : BX M3 (P + 27) m m := BX_f bm2 (fun j => f3.2.2 _ _ (by omega)) (fun j => f3.2.2 _ _ (by omega))
      rw [cb2]
      refine ⟨⟨rfl, rfl⟩, ?_⟩
      refine tc_n (D := 0) (fun d' hd' => y_copy (b := 0) (bxl_1 ck2) (bxl_1 cm) bm3.1 (Or.inl (by decide)) f3.1) (by omega) ?_
      rintro M4 ⟨x4, f4⟩
      try simp only [kb_X7_split_43, w_ald_0, w_dupi, w_dupr, w_gf_9_3, tw_f, w_ic, w_iadd, w_pf_9_3, w_gf_9_0, w_ild_1, w_aa, w_gf_4_1, w_gf_9_2, w_gf_4_0, w_iv1, tfr_0, tfr_1, tfr_2, tfr_3, tfr_4, w_re, true_and, and_true, Nat.reduceAdd, Nat.reduceSub, eq_self, tyk_9, tcq_9, tyk_29, tyk_30, tel_4, tyk_4, tcq_4, hp, hq, hr, hs, ht, cs1, cs2]
      have ff4 : PF P M M4 := PF_tr ff3 (PF_d (by omega) f4)
      have gx : ∀ j : Nat, j < c + 1 → BXG M4 (P + 1 + 1 + 3 * j) := fun j hj => by
        by_cases j1 : j = i
        · subst j1
          refine ⟨(v.1, m), ⟨BB_u bx1.1 (fun q => (f4.2.2 _ _ (by omega)).trans ((f3.2.2 _ _ (by omega)).trans (u3 _ _ (by omega)))), BB_u x3 (fun q => f4.2.2 _ _ (by omega))⟩, ⟨⟨hv.2.1.1, ?_⟩, m1.1⟩⟩
          have n1 := hv.2.1.1
          have n2 := hv.2.1.2
          unfold NF at n1 n2 ⊢
          omega
        · by_cases j2 : j = i + 1
          · subst j2
            refine ⟨(m, v.2), ⟨x4, BB_u by1.2 (fun q => (f4.2.2 _ _ (by omega)).trans ((f3.2.2 _ _ (by omega)).trans (u3 _ _ (by omega))))⟩, ⟨⟨?_, hv.2.1.2⟩, m1.2⟩⟩
            have n1 := hv.2.1.1
            have n2 := hv.2.1.2
            unfold NF at n1 n2 ⊢
            omega
          · exact BXG_f (b1 j (by omega) j1) (fun q => (f4.2.2 _ _ (by omega)).trans ((f3.2.2 _ _ (by omega)).trans (u3 _ _ (by omega)))) (fun q => (f4.2.2 _ _ (by omega)).trans ((f3.2.2 _ _ (by omega)).trans (u3 _ _ (by omega))))
      exact ⟨rfl, rfl, ⟨c + 1, by omega, ⟨⟨((f4.2.2 _ _ (by omega)).trans (f3.2.2 _ _ (by omega))).trans (t3.trans (by omega)), by omega⟩, gx⟩⟩, ff4⟩
    | succ fu ih =>
      intro M1 i hf hi1 hi2 t1 f1 b1 bx1 by1 bm1
      obtain ⟨i, rfl⟩ : ∃ k, i = k + 1 := ⟨i - 1, by omega⟩
      have ck1 := cl_pc hP2 (i := i + 1) (by omega)
      have ck2 := cl_pc hP2 (i := i) (by omega)
      have cs1 := ck1.1
      have cs2 := ck2.1
      refine tb_X7_split_15 (c := false) ?_
      simp only [kb_X7_split_15, w_ild_2, w_ild_1, w_ic_le, w_ald_0, w_gf_9_0, tw_f, w_aa, w_ic, w_isub, w_iv1, tfr_0, tfr_1, tfr_2, tfr_3, tfr_4, w_inc2, tkl_n, tkl_i, tkl_l, tkl_r, w_goto, true_and, and_true, Nat.reduceAdd, Nat.reduceSub, eq_self, tyk_9, tcq_9, tyk_29, tyk_30, tel_4, tyk_4, tcq_4, hp, hq, hr, hs, ht, cs1, cs2]
      repeat refine And.intro (by omega) ?_
      first | refine ⟨fun q => absurd q (by omega), fun _ => ?_⟩ | refine fun _ => ?_
      rw [nat_n, show ((i + 1 : Nat) : Int) - 1 = (i : Int) by omega, nat_n]
      try simp only [kb_X7_split_15, w_ild_2, w_ild_1, w_ic_le, w_ald_0, w_gf_9_0, tw_f, w_aa, w_ic, w_isub, w_iv1, tfr_0, tfr_1, tfr_2, tfr_3, tfr_4, w_inc2, tkl_n, tkl_i, tkl_l, tkl_r, w_goto, true_and, and_true, Nat.reduceAdd, Nat.reduceSub, eq_self, tyk_9, tcq_9, tyk_29, tyk_30, tel_4, tyk_4, tcq_4, hp, hq, hr, hs, ht, cs1, cs2]
      repeat refine And.intro (by omega) ?_
      obtain ⟨w, g1, g2, g3⟩ : ∃ w : Int × Int, BX M1 (P + 1 + 1 + 3 * i) w.1 w.2 ∧ GBX w ∧ (i = x → w = v) := by
        by_cases h : i = x
        · exact ⟨v, by rw [h]; exact bx1, hv.2, fun _ => rfl⟩
        · obtain ⟨w, g1, g2⟩ := b1 i (by omega) (by omega)
          exact ⟨w, g1, g2, fun q => absurd q h⟩
      refine tc_n (D := 1) (fun d' hd' => z_copy (b := 0) ck1 ck2 g1 (by decide) f1.1.1 hd') (by omega) ?_
      rintro M2 ⟨x2, f2⟩
      try simp only [kb_X7_split_15, w_ild_2, w_ild_1, w_ic_le, w_ald_0, w_gf_9_0, tw_f, w_aa, w_ic, w_isub, w_iv1, tfr_0, tfr_1, tfr_2, tfr_3, tfr_4, w_inc2, tkl_n, tkl_i, tkl_l, tkl_r, w_goto, true_and, and_true, Nat.reduceAdd, Nat.reduceSub, eq_self, tyk_9, tcq_9, tyk_29, tyk_30, tel_4, tyk_4, tcq_4, hp, hq, hr, hs, ht, cs1, cs2]
      repeat refine And.intro (by omega) ?_
      rw [show ((i + 1 : Nat) : Int) + -1 = (i : Int) by omega]
      refine ih M2 i (by omega) (by omega) (by omega) ((f2.2 _ _ (by omega) (by omega)).trans t1) (PF_tr f1 (PF_b (by omega) f2)) (fun j j1 j2 => ?_) (BX_f bx1 (fun q => f2.2 _ _ (by omega) (by omega)) (fun q => f2.2 _ _ (by omega) (by omega))) (fun q => ?_) (BX_f bm1 (fun q => f2.2 _ _ (by omega) (by omega)) (fun q => f2.2 _ _ (by omega) (by omega)))
      · by_cases h : j = i + 1
        · subst h
          exact ⟨w, x2, g2⟩
        · exact BXG_f (b1 j j1 h) (fun q => f2.2 _ _ (by omega) (by omega)) (fun q => f2.2 _ _ (by omega) (by omega))
      · have hix : i = x := by omega
        rw [← g3 hix, ← hix]
        exact x2
  exact nl (c - x) M c rfl (by omega) (Nat.le_refl _) h3 (PF_refl hC) (fun j j1 j2 => hc.2 j (by omega)) hv.1 (fun q => absurd q (by omega)) hm
/-- parts of a box -/
theorem z_cut {P y k : Nat} {v : Int × Int} {u : Int} (hP : PPS P) (hy : cl y 4) (hv : BX M y v.1 v.2 ∧ GBX v) (hk : k ≤ 3) (hu : UU u) (hK : KW M) (hC : CI M) (hd : 3 ≤ d) : tC e d 2308 [.inr (.inr (.inl P)), .inr (.inr (.inl y)), .inl (k : Int), .inr (.inl u)] M n (tQn n (fun M' => (∃ c : Nat, 1 ≤ c ∧ PCG M' P c) ∧ PF P M M')) := by
  have hP2 := PP_S hP
  obtain ⟨hp, hq, hr, hs, ht⟩ := PC_of hP2
  have pb : 590 ≤ P ∧ P ≤ 620 := by unfold PPS at hP; omega
  have hys := hy.1
  have hu1 := hu.1
  refine tst_X7_cut ?_
  refine tb_X7_cut_0 (c := false) ?_
  simp only [kb_X7_cut_0, w_ald_0, w_iv0, tfr_0, tfr_1, tfr_2, tfr_3, tfr_4, w_ald_1, w_ic, w_iv2, w_ist5, tkl_n, tkl_i, tkl_l, tkl_r, w_nil, true_and, and_true, Nat.reduceAdd, Nat.reduceSub, eq_self, tyk_9, tcq_9, tyk_29, tyk_30, tel_4, tyk_4, tcq_4, hp, hq, hr, hs, ht, hys]
  refine tc_n (D := 0) (fun d' hd' => z_pclear hP2 hK hC) (by omega) ?_
  rintro M1 ⟨k1, c1, f1⟩
  try simp only [kb_X7_cut_0, w_ald_0, w_iv0, tfr_0, tfr_1, tfr_2, tfr_3, tfr_4, w_ald_1, w_ic, w_iv2, w_ist5, tkl_n, tkl_i, tkl_l, tkl_r, w_nil, true_and, and_true, Nat.reduceAdd, Nat.reduceSub, eq_self, tyk_9, tcq_9, tyk_29, tyk_30, tel_4, tyk_4, tcq_4, hp, hq, hr, hs, ht, hys]
  repeat refine And.intro (by omega) ?_
  refine tc_n (D := 2) (fun d' hd' => z_append (c := 0) (v := v) hP2 c1 hy ⟨BX_f hv.1 (fun j => f1 _ _ (fun q => by have := (bxl_1 hy).1; rw [q, hp] at this; cases this)) (fun j => f1 _ _ (fun q => by have := (bxl_2 hy).1; rw [q, hp] at this; cases this)), hv.2⟩ (by decide) k1.2 k1.1.1 hd') (by omega) ?_
  rintro M2 ⟨k2, c2, f2⟩
  try simp only [kb_X7_cut_0, w_ald_0, w_iv0, tfr_0, tfr_1, tfr_2, tfr_3, tfr_4, w_ald_1, w_ic, w_iv2, w_ist5, tkl_n, tkl_i, tkl_l, tkl_r, w_nil, true_and, and_true, Nat.reduceAdd, Nat.reduceSub, eq_self, tyk_9, tcq_9, tyk_29, tyk_30, tel_4, tyk_4, tcq_4, hp, hq, hr, hs, ht, hys]
  have c2 : PCG M2 P 1 := by
    rcases c2 with q | ⟨q, _⟩
    · exact q
    · omega
  have ff2 : PF P M M2 := ⟨⟨k2.1.1, pE_tr k1.1.2 k2.1.2⟩, fun k i g => (f2 k i (by omega)).trans (f1 k i (by omega))⟩
  have no : ∀ (fu : Nat) (M1 : tM) (r c : Nat) (w6 w7 : Option tV), k - r = fu → r ≤ k → 1 ≤ c → PCG M1 P c → PF P M M1 → tT e d 2308 13 [some (.inr (.inr (.inl (P)))), some (.inr (.inr (.inl (y)))), some (.inl ((k : Int))), some (.inr (.inl (u))), none, some (.inl ((r : Int))), w6, w7] [] M1 n (tQn n (fun M' => (∃ c : Nat, 1 ≤ c ∧ PCG M' P c) ∧ PF P M M')) := by
    intro fu
    induction fu with
    | zero =>
      intro M1 r c w6 w7 hf hr1 h1 g1 f1
      refine tb_X7_cut_13 (c := false) ?_
      simp only [kb_X7_cut_13, w_ild5, w_ild_2, w_ic_ge, w_ald_0, w_gf_9_3, tw_f, w_ist6, tkl_n, tkl_i, tkl_l, tkl_r, w_ild6, w_ic, w_isub, w_ist7, w_nil, true_and, and_true, Nat.reduceAdd, Nat.reduceSub, eq_self, tyk_9, tcq_9, tyk_29, tyk_30, tel_4, tyk_4, tcq_4, hp, hq, hr, hs, ht, hys]
      repeat refine And.intro (by omega) ?_
      refine ⟨fun _ => ?_, fun q => absurd (by omega) q⟩
      refine tb_X7_cut_72 (c := false) ?_
      simp only [kb_X7_cut_72, w_re, true_and, and_true, Nat.reduceAdd, Nat.reduceSub, eq_self]
      exact ⟨rfl, rfl, ⟨c, h1, g1⟩, f1⟩
    | succ fu ih =>
      intro M1 r c w6 w7 hf hr1 h1 g1 f1
      have h8 := g1.1.2
      have ni : ∀ (i : Nat) (M2 : tM) (c2 : Nat), i ≤ c2 → 1 ≤ c2 → PCG M2 P c2 → PF P M M2 → tT e d 2308 31 [some (.inr (.inr (.inl (P)))), some (.inr (.inr (.inl (y)))), some (.inl ((k : Int))), some (.inr (.inl (u))), none, some (.inl ((r : Int))), some (.inl ((c : Int))), some (.inl ((i : Int) - 1))] [] M2 n (tQn n (fun M' => (∃ c : Nat, 1 ≤ c ∧ PCG M' P c) ∧ PF P M M')) := by
        intro i
        induction i with
        | zero =>
          intro M2 c2 i1 i2 g2 f2
          refine tb_X7_cut_31 (c := false) ?_
          simp only [kb_X7_cut_31, w_ild7, w_if_lt, w_ald_0, w_gf_9_2, tw_f, w_gf_9_0, w_aa, w_lld_3, w_iv2, tfr_0, tfr_1, tfr_2, tfr_3, tfr_4, w_if_eq, w_iv1, w_nil, true_and, and_true, Nat.reduceAdd, Nat.reduceSub, eq_self, tyk_9, tcq_9, tyk_29, tyk_30, tel_4, tyk_4, tcq_4, hp, hq, hr, hs, ht, hys]
          repeat refine And.intro (by omega) ?_
          refine ⟨fun _ => ?_, fun q => absurd (by omega) q⟩
          refine tb_X7_cut_66 (c := false) ?_
          simp only [kb_X7_cut_66, w_inc5, tkl_n, tkl_i, tkl_l, tkl_r, w_goto, true_and, and_true, Nat.reduceAdd, Nat.reduceSub, eq_self]
          repeat refine And.intro (by omega) ?_
          rw [show ((r : Nat) : Int) + 1 = ((r + 1 : Nat) : Int) by omega]
          exact ih M2 (r + 1) c2 _ _ (by omega) (by omega) i2 g2 f2
        | succ i ih2 =>
          intro M2 c2 i1 i2 g2 f2
          have h82 := g2.1.2
          have n60 : ∀ (M3 : tM) (c3 : Nat), c2 ≤ c3 → PCG M3 P c3 → PF P M M3 → tT e d 2308 60 [some (.inr (.inr (.inl (P)))), some (.inr (.inr (.inl (y)))), some (.inl ((k : Int))), some (.inr (.inl (u))), none, some (.inl ((r : Int))), some (.inl ((c : Int))), some (.inl (((i + 1 : Nat) : Int) - 1))] [] M3 n (tQn n (fun M' => (∃ c : Nat, 1 ≤ c ∧ PCG M' P c) ∧ PF P M M')) := by
            intro M3 c3 j1 g3 f3
            refine tb_X7_cut_60 (c := false) ?_
            simp only [kb_X7_cut_60, w_inc7, tkl_n, tkl_i, tkl_l, tkl_r, w_goto, true_and, and_true, Nat.reduceAdd, Nat.reduceSub, eq_self]
            repeat refine And.intro (by omega) ?_
            rw [show ((i + 1 : Nat) : Int) - 1 + -1 = (i : Int) - 1 by omega]
            exact ih2 M3 c3 (by omega) (by omega) g3 f3
          have ck := cl_pc hP2 (i := i) (by omega)
          have cks := ck.1
          have cm := cl_md hP2
          have e1 : ((i + 1 : Nat) : Int) - 1 = (i : Int) := by omega
          obtain ⟨w, a1, a2⟩ := g2.2 i (by omega)
          have md := md_in hu a2
          rw [e1] at n60 ⊢
          refine tb_X7_cut_31 (c := false) ?_
          simp only [kb_X7_cut_31, w_ild7, w_if_lt, w_ald_0, w_gf_9_2, tw_f, w_gf_9_0, w_aa, w_lld_3, w_iv2, tfr_0, tfr_1, tfr_2, tfr_3, tfr_4, w_if_eq, w_iv1, w_nil, true_and, and_true, Nat.reduceAdd, Nat.reduceSub, eq_self, tyk_9, tcq_9, tyk_29, tyk_30, tel_4, tyk_4, tcq_4, hp, hq, hr, hs, ht, hys, cks]
          repeat refine And.intro (by omega) ?_
          first | refine ⟨fun q => absurd q (by omega), fun _ => ?_⟩ | refine fun _ => ?_
          repeat refine And.intro (by omega) ?_
          rw [nat_n]
          try simp only [kb_X7_cut_31, w_ild7, w_if_lt, w_ald_0, w_gf_9_2, tw_f, w_gf_9_0, w_aa, w_lld_3, w_iv2, tfr_0, tfr_1, tfr_2, tfr_3, tfr_4, w_if_eq, w_iv1, w_nil, true_and, and_true, Nat.reduceAdd, Nat.reduceSub, eq_self, tyk_9, tcq_9, tyk_29, tyk_30, tel_4, tyk_4, tcq_4, hp, hq, hr, hs, ht, hys, cks]
          repeat refine And.intro (by omega) ?_
          refine tc_i (D := 2) (fun d' hd' => z_toMiddle (b := 0) cm ck (by omega) a1 a2.1 hu (by decide) f2.1.1 hd') (by omega) ?_
          rintro z M3 ⟨b1, b2, b3⟩
          try simp only [kb_X7_cut_31, w_ild7, w_if_lt, w_ald_0, w_gf_9_2, tw_f, w_gf_9_0, w_aa, w_lld_3, w_iv2, tfr_0, tfr_1, tfr_2, tfr_3, tfr_4, w_if_eq, w_iv1, w_nil, true_and, and_true, Nat.reduceAdd, Nat.reduceSub, eq_self, tyk_9, tcq_9, tyk_29, tyk_30, tel_4, tyk_4, tcq_4, hp, hq, hr, hs, ht, hys, cks]
          have f3 : PF P M M3 := PF_tr f2 (PF_b (by omega) b2)
          have g3 : PCG M3 P c2 := PCG_u g2 (b2.2 _ _ (by omega) (by omega)) (fun k i p1 p2 => b2.2 k i (by omega) (by omega))
          repeat refine And.intro (by omega) ?_
          refine ⟨fun _ => n60 M3 c2 (Nat.le_refl _) g3 f3, fun _ => ?_⟩
          repeat refine And.intro (by omega) ?_
          refine tc_n (D := 2) (fun d' hd' => z_split hP g3 (by omega) (v := w) ⟨BX_f a1 (fun j => b2.2 _ _ (by omega) (by omega)) (fun j => b2.2 _ _ (by omega) (by omega)), a2⟩ b1 md.1 f3.1.1 hd') (by omega) ?_
          rintro M4 ⟨⟨c4, d1, d2⟩, d3⟩
          try simp only [kb_X7_cut_31, w_ild7, w_if_lt, w_ald_0, w_gf_9_2, tw_f, w_gf_9_0, w_aa, w_lld_3, w_iv2, tfr_0, tfr_1, tfr_2, tfr_3, tfr_4, w_if_eq, w_iv1, w_nil, true_and, and_true, Nat.reduceAdd, Nat.reduceSub, eq_self, tyk_9, tcq_9, tyk_29, tyk_30, tel_4, tyk_4, tcq_4, hp, hq, hr, hs, ht, hys, cks]
          exact n60 M4 c4 d1 d2 (PF_tr f3 d3)
      have t1 := g1.1.1
      refine tb_X7_cut_13 (c := false) ?_
      simp only [kb_X7_cut_13, w_ild5, w_ild_2, w_ic_ge, w_ald_0, w_gf_9_3, tw_f, w_ist6, tkl_n, tkl_i, tkl_l, tkl_r, w_ild6, w_ic, w_isub, w_ist7, w_nil, true_and, and_true, Nat.reduceAdd, Nat.reduceSub, eq_self, tyk_9, tcq_9, tyk_29, tyk_30, tel_4, tyk_4, tcq_4, hp, hq, hr, hs, ht, hys]
      repeat refine And.intro (by omega) ?_
      first | refine ⟨fun q => absurd q (by omega), fun _ => ?_⟩ | refine fun _ => ?_
      rw [t1]
      repeat refine And.intro (by omega) ?_
      exact ni c M1 c (Nat.le_refl _) h1 g1 f1
  exact no k M2 0 1 _ _ rfl (by omega) (by decide) c2 ff2
end HAND
