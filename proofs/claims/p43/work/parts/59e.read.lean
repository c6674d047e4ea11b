/-! THE MODEL: numbers put and read, pieces taken, whether a formula has y. -/

theorem tz_t20 : tn 20 = 100000000000000000000 := (tn_def 20).trans (by decide)
theorem tz_t22 : tn 22 = 10000000000000000000000 := (tn_def 22).trans (by decide)
theorem tz_dN {x : Int} (h : -9223372036854775808 ≤ x ∧ x < 9223372036854775808) : (-9223372037 ≤ x.tdiv 1000000000 ∧ x.tdiv 1000000000 ≤ 9223372037) ∧ (-1000000000 < x.tmod 1000000000 ∧ x.tmod 1000000000 < 1000000000) := by
  by_cases h0 : 0 ≤ x
  · rw [Int.tdiv_eq_ediv_of_nonneg h0, Int.tmod_eq_emod_of_nonneg h0]
    omega
  · obtain ⟨y, hy⟩ : ∃ y : Int, y = -x := ⟨_, rfl⟩
    have hx : x = -y := by omega
    have hy0 : 0 ≤ y := by omega
    rw [hx, Int.neg_tdiv, Int.neg_tmod, Int.tdiv_eq_ediv_of_nonneg hy0, Int.tmod_eq_emod_of_nonneg hy0]
    omega
theorem Vr_z {M : tM} {r : Int} (h : M 666 r = 0) : Vr M r 0 := ⟨0, ⟨h, by omega, pw_pos 0, fun i hi => absurd hi (Nat.not_lt_zero i)⟩, Or.inl rfl⟩
theorem Vr_same {M M' : tM} {r : Int} {x : Nat} (h : ∀ (k : Nat) (i : Int), k = 665 ∨ k = 666 → M' k i = M k i) (hv : Vr M r x) : Vr M' r x := by
  obtain ⟨m, ⟨a1, a2, a3, a4⟩, a5⟩ := hv
  exact ⟨m, ⟨(h 666 r (by omega)).trans a1, a2, a3, fun i hi => (h 665 _ (by omega)).trans (a4 i hi)⟩, a5⟩
theorem MF_x {M M1 : tM} {D : Nat} (h : MF M D) (hx : xE (toF 60 60) M M1) : MF M1 D ∧ MC M M1 := MF_me h (MP_x h.1 hx).1 (MP_x h.1 hx).2
theorem MF_r {S : Int → Prop} {M M1 : tM} {D : Nat} (h : MF M D) (hx : rE S M M1) (h1 : ¬ S 11) (h2 : ¬ S 12) (h3 : ¬ S 13) : MF M1 D ∧ MC M M1 := MF_x h (xE_U (rU_r hx) h1 h2 h3)
section MODEL
variable {e : tE} {d n D : Nat} {M : tM}
theorem o_becomes_f {x y : Int} (hP : MF M D) (hx : 0 ≤ x ∧ x ≤ 9) (hy : 0 ≤ y ∧ y < 700) (hO : OB M y) (hd : 2 ≤ d) : tC e d 3593 [.inr (.inr (.inl 664)), .inl x, .inl y] M n (tQi n (fun z M' => (z = 0 ∨ z = 1) ∧ MF M' D ∧ MC M M')) := by
  refine tC_mono (o_becomes_p hP.1 hx hy hO hd) ?_
  rintro v M2 n' ⟨z, r1, r2, p1, p2, p3⟩
  exact ⟨z, r1, r2, p1, MF_me hP p2 p3⟩
theorem o_makes_f {x1 x2 x3 x4 : Int} (hP : MF M D) (h1 : 0 ≤ x1 ∧ x1 ≤ 9) (h2 : x2 = 0 ∨ x2 = 1 ∨ x2 = 2) (hO : x2 = 0 → OB M 60) (h3 : 1 ≤ x3 ∧ x3 ≤ 100) (h4 : 1 ≤ x4 ∧ x4 ≤ 100) (hd : 3 ≤ d) : tC e d 3652 [.inr (.inr (.inl 664)), .inl x1, .inl x2, .inl x3, .inl x4] M n (tQi n (fun z M' => (z = 0 ∨ z = 1) ∧ MF M' D ∧ MC M M')) := by
  refine tC_mono (o_makes hP.1 h1 h2 hO h3 h4 hd) ?_
  rintro v M2 n' ⟨z, r1, r2, p1, p2, p3⟩
  exact ⟨z, r1, r2, p1, MF_me hP p2 p3⟩
/-- what put and read end with -/
theorem o_put {x1 x2 x3 : Int} (hP : MF M D) (h1 : (-2147483648 ≤ x1 ∧ x1 < 2147483648)) (h2 : -9223372036854775808 ≤ x2 ∧ x2 < 9223372036854775808) (h3 : (-2147483648 ≤ x3 ∧ x3 < 2147483648)) (hd : 6 ≤ d) : tC e d 3683 [.inr (.inr (.inl 664)), .inl x1, .inr (.inl x2), .inl x3] M n (tQi n (fun _ M' => MF M' D ∧ MC M M')) := by
  refine tst_X12_put ?_
  have n138 : ∀ (L : tL) (M1 : tM), MF M1 D ∧ MC M M1 → tT e d 3683 138 (some (.inr (.inr (.inl 664))) :: L) [] M1 n (tQi n (fun _ M' => MF M' D ∧ MC M M')) := by
    intro L M1 q
    refine tb_X12_put_138 (c := false) ?_
    simp only [kb_X12_put_138, w_ic, w_nil, true_and, and_true, Nat.reduceAdd, Nat.reduceSub, eq_self]
    refine tb_X12_put_139 (c := false) ?_
    simp only [kb_X12_put_139, w_ire, trg, true_and, and_true, Nat.reduceAdd, Nat.reduceSub, eq_self]
    exact ⟨by omega, 0, rfl, rfl, q⟩
  have n118 : ∀ (A B C E : Option tV) (M1 : tM) (v : Int), MF M1 D ∧ MC M M1 → (0 ≤ x1 ∧ x1 ≤ 9) → (v = 0 ∨ v = 3) → (v = 0 → OB M1 60) → tT e d 3683 118 [some (.inr (.inr (.inl 664))), some (.inl x1), some (.inr (.inl x2)), none, some (.inl x3), A, B, C, E] [.inl v, .inr (.inr (.inl 664))] M1 n (tQi n (fun _ M' => MF M' D ∧ MC M M')) := by
    intro A B C E M1 v q g1 hv hO
    refine tb_X12_put_118 (c := false) ?_
    simp only [kb_X12_put_118, w_iv1, tfr_0, tfr_1, tfr_2, tfr_3, tfr_4, w_if_ne, w_ald_0, w_ild_1, w_bi, w_iv2, w_if_eq, w_ic, w_goto, true_and, and_true, Nat.reduceAdd, Nat.reduceSub, eq_self, tshm_14, tshm_31, tshm_32, tykm_31, tykm_32, tci_15, tci_960, tykm_14, tci_14, tshm_667, tshm_668, tshm_669, tshm_670, tykm_33, tci_700, tsn_671, tyn_17, tcn_10, tzs_672, tzs_673, tzs_680, tzs_681, tzs_682, tzs_683, tzs_684, tzs_685, tzs_686, tzs_687, tzs_688, tzs_689, tzy_15, tzy_35, tzy_36, tzy_37, tzy_38, tzy_39, tzy_40, tzc_60, tzc_320, tzc_5, tzc_4, tzc_8]
    refine tc_i (D := 0) (fun d' hd' => o_fails (by omega)) (by omega) ?_
    rintro z M2 ⟨q2, rfl⟩
    try simp only [kb_X12_put_118, w_iv1, tfr_0, tfr_1, tfr_2, tfr_3, tfr_4, w_if_ne, w_ald_0, w_ild_1, w_bi, w_iv2, w_if_eq, w_ic, w_goto, true_and, and_true, Nat.reduceAdd, Nat.reduceSub, eq_self, tshm_14, tshm_31, tshm_32, tykm_31, tykm_32, tci_15, tci_960, tykm_14, tci_14, tshm_667, tshm_668, tshm_669, tshm_670, tykm_33, tci_700, tsn_671, tyn_17, tcn_10, tzs_672, tzs_673, tzs_680, tzs_681, tzs_682, tzs_683, tzs_684, tzs_685, tzs_686, tzs_687, tzs_688, tzs_689, tzy_15, tzy_35, tzy_36, tzy_37, tzy_38, tzy_39, tzy_40, tzc_60, tzc_320, tzc_5, tzc_4, tzc_8]
    have h4 := MF_3 (v := v) q.1
    refine ⟨by omega, fun h => n138 _ _ ⟨h4.1, MC_tr q.2 h4.2⟩, fun h => ?_⟩
    refine tc_i (D := 2) (fun d' hd' => o_becomes_f h4.1 g1 (by omega) (OB_same (fun k g => tU_nk (by unfold isB at g; omega)) (hO (by omega))) hd') (by omega) ?_
    rintro z M3 ⟨r1, r2, r3⟩
    try simp only [kb_X12_put_118, w_iv1, tfr_0, tfr_1, tfr_2, tfr_3, tfr_4, w_if_ne, w_ald_0, w_ild_1, w_bi, w_iv2, w_if_eq, w_ic, w_goto, true_and, and_true, Nat.reduceAdd, Nat.reduceSub, eq_self, tshm_14, tshm_31, tshm_32, tykm_31, tykm_32, tci_15, tci_960, tykm_14, tci_14, tshm_667, tshm_668, tshm_669, tshm_670, tykm_33, tci_700, tsn_671, tyn_17, tcn_10, tzs_672, tzs_673, tzs_680, tzs_681, tzs_682, tzs_683, tzs_684, tzs_685, tzs_686, tzs_687, tzs_688, tzs_689, tzy_15, tzy_35, tzy_36, tzy_37, tzy_38, tzy_39, tzy_40, tzc_60, tzc_320, tzc_5, tzc_4, tzc_8]
    have h5 := MC_tr (MC_tr q.2 h4.2) r3
    refine ⟨by omega, fun h => n138 _ _ ⟨r2, h5⟩, fun h => ?_⟩
    refine tb_X12_put_139 (c := false) ?_
    simp only [kb_X12_put_139, w_ire, trg, true_and, and_true, Nat.reduceAdd, Nat.reduceSub, eq_self]
    exact ⟨by omega, 1, rfl, rfl, r2, h5⟩
  have n107 : ∀ (A B C E : Option tV) (M1 : tM) (v : Int) (x s : Nat), MF M1 D ∧ MC M M1 → (0 ≤ x1 ∧ x1 ≤ 9) → (v = 0 ∨ v = 1) → Vr M1 9 x → x < tn 60 → x3 = (s : Int) → s ≤ 18 → tT e d 3683 107 [some (.inr (.inr (.inl 664))), some (.inl x1), some (.inr (.inl x2)), none, some (.inl x3), A, B, C, E] [.inl v, .inl x3, .inl 9, .inl 60, .inr (.inr (.inl 664)), .inr (.inr (.inl 664))] M1 n (tQi n (fun _ M' => MF M' D ∧ MC M M')) := by
    intro A B C E M1 v x s q g1 hv hV hx hs hs2
    subst hs
    refine tb_X12_put_107 (c := false) ?_
    simp only [kb_X12_put_107, w_iv4, tfr_0, tfr_1, tfr_2, tfr_3, tfr_4, w_if_le, w_ic, w_goto, true_and, and_true, Nat.reduceAdd, Nat.reduceSub, eq_self, tshm_14, tshm_31, tshm_32, tykm_31, tykm_32, tci_15, tci_960, tykm_14, tci_14, tshm_667, tshm_668, tshm_669, tshm_670, tykm_33, tci_700, tsn_671, tyn_17, tcn_10, tzs_672, tzs_673, tzs_680, tzs_681, tzs_682, tzs_683, tzs_684, tzs_685, tzs_686, tzs_687, tzs_688, tzs_689, tzy_15, tzy_35, tzy_36, tzy_37, tzy_38, tzy_39, tzy_40, tzc_60, tzc_320, tzc_5, tzc_4, tzc_8]
    refine tc_i (D := 5) (fun d' hd' => o_number q.1.1.1 (by omega) (by omega) (by omega) hV hx (by omega) hv hd') (by omega) ?_
    rintro z M2 ⟨p1, p2⟩
    try simp only [kb_X12_put_107, w_iv4, tfr_0, tfr_1, tfr_2, tfr_3, tfr_4, w_if_le, w_ic, w_goto, true_and, and_true, Nat.reduceAdd, Nat.reduceSub, eq_self, tshm_14, tshm_31, tshm_32, tykm_31, tykm_32, tci_15, tci_960, tykm_14, tci_14, tshm_667, tshm_668, tshm_669, tshm_670, tykm_33, tci_700, tsn_671, tyn_17, tcn_10, tzs_672, tzs_673, tzs_680, tzs_681, tzs_682, tzs_683, tzs_684, tzs_685, tzs_686, tzs_687, tzs_688, tzs_689, tzy_15, tzy_35, tzy_36, tzy_37, tzy_38, tzy_39, tzy_40, tzc_60, tzc_320, tzc_5, tzc_4, tzc_8]
    have h4 := MF_x q.1 p2
    unfold OK3 at p1
    refine ⟨by omega, fun h => ?_, fun h => n118 _ _ _ _ M2 3 ⟨h4.1, MC_tr q.2 h4.2⟩ g1 (by omega) (by omega)⟩
    refine tb_X12_put_117 (c := false) ?_
    simp only [kb_X12_put_117, w_ic, w_nil, true_and, and_true, Nat.reduceAdd, Nat.reduceSub, eq_self]
    exact n118 _ _ _ _ M2 0 ⟨h4.1, MC_tr q.2 h4.2⟩ g1 (by omega) (fun _ => p1.2 (by omega))
  have n85 : ∀ (A B C E : Option tV) (M1 : tM) (a b : Int), MF M1 D ∧ MC M M1 → (0 ≤ x1 ∧ x1 ≤ 9) → (0 ≤ x3 ∧ x3 ≤ 18) → (0 ≤ a ∧ a ≤ 9223372037) → (0 ≤ b ∧ b < 1000000000) → tT e d 3683 85 [some (.inr (.inr (.inl 664))), some (.inl x1), some (.inr (.inl x2)), none, some (.inl x3), A, B, C, E] [.inr (.inl b), .inr (.inl a), .inl 9, .inr (.inr (.inl 664))] M1 n (tQi n (fun _ M' => MF M' D ∧ MC M M')) := by
    intro A B C E M1 a b q g1 g3 ha hb
    obtain ⟨a', rfl⟩ : ∃ a' : Nat, a = (a' : Int) := ⟨a.toNat, by omega⟩
    obtain ⟨b', rfl⟩ : ∃ b' : Nat, b = (b' : Int) := ⟨b.toNat, by omega⟩
    refine tb_X12_put_85 (c := false) ?_
    simp only [kb_X12_put_85, w_iv3, tfr_0, tfr_1, tfr_2, tfr_3, tfr_4, w_ald_0, w_bi, w_ild4, w_lld_2, w_lc0, w_lcmp, ne_eq, tlc_r, tlc_eq, tlc_lt, tlc_ge, tlc_gt, tlc_le, w_if_ge, w_ic, w_goto, true_and, and_true, Nat.reduceAdd, Nat.reduceSub, eq_self, tshm_14, tshm_31, tshm_32, tykm_31, tykm_32, tci_15, tci_960, tykm_14, tci_14, tshm_667, tshm_668, tshm_669, tshm_670, tykm_33, tci_700, tsn_671, tyn_17, tcn_10, tzs_672, tzs_673, tzs_680, tzs_681, tzs_682, tzs_683, tzs_684, tzs_685, tzs_686, tzs_687, tzs_688, tzs_689, tzy_15, tzy_35, tzy_36, tzy_37, tzy_38, tzy_39, tzy_40, tzc_60, tzc_320, tzc_5, tzc_4, tzc_8]
    refine tc_n (D := 1) (fun d' hd' => c_sets (by omega) (by omega) (by omega) hd') (by omega) ?_
    rintro M2 ⟨p1, p2⟩
    have h4 := MF_r q.1 p2 (by omega) (by omega) (by omega)
    have hx : a' * 1000000000 + b' < tn 60 := Nat.lt_of_lt_of_le (by rw [tz_t20]; omega) (tn_mono (show 20 ≤ 60 by omega))
    obtain ⟨s, hs⟩ : ∃ s : Nat, x3 = (s : Int) := ⟨x3.toNat, by omega⟩
    try simp only [kb_X12_put_85, w_iv3, tfr_0, tfr_1, tfr_2, tfr_3, tfr_4, w_ald_0, w_bi, w_ild4, w_lld_2, w_lc0, w_lcmp, ne_eq, tlc_r, tlc_eq, tlc_lt, tlc_ge, tlc_gt, tlc_le, w_if_ge, w_ic, w_goto, true_and, and_true, Nat.reduceAdd, Nat.reduceSub, eq_self, tshm_14, tshm_31, tshm_32, tykm_31, tykm_32, tci_15, tci_960, tykm_14, tci_14, tshm_667, tshm_668, tshm_669, tshm_670, tykm_33, tci_700, tsn_671, tyn_17, tcn_10, tzs_672, tzs_673, tzs_680, tzs_681, tzs_682, tzs_683, tzs_684, tzs_685, tzs_686, tzs_687, tzs_688, tzs_689, tzy_15, tzy_35, tzy_36, tzy_37, tzy_38, tzy_39, tzy_40, tzc_60, tzc_320, tzc_5, tzc_4, tzc_8]
    refine ⟨by omega, fun h => ?_, fun h => ?_⟩
    · refine tb_X12_put_106 (c := false) ?_
      simp only [kb_X12_put_106, w_ic, w_nil, true_and, and_true, Nat.reduceAdd, Nat.reduceSub, eq_self]
      exact n107 _ _ _ _ M2 0 _ s ⟨h4.1, MC_tr q.2 h4.2⟩ g1 (by omega) p1 hx hs (by omega)
    · exact n107 _ _ _ _ M2 1 _ s ⟨h4.1, MC_tr q.2 h4.2⟩ g1 (by omega) p1 hx hs (by omega)
  have n38 : ∀ (A B C E : Option tV) (M1 : tM), MF M1 D ∧ MC M M1 → (0 ≤ x1 ∧ x1 ≤ 9) → (0 ≤ x3 ∧ x3 ≤ 18) → tT e d 3683 38 [some (.inr (.inr (.inl 664))), some (.inl x1), some (.inr (.inl x2)), none, some (.inl x3), A, B, C, E] [] M1 n (tQi n (fun _ M' => MF M' D ∧ MC M M')) := by
    intro A B C E M1 q g1 g3
    have f := tz_dN h2
    generalize hh : x2.tdiv 1000000000 = h at f
    generalize hr : x2.tmod 1000000000 = r at f
    have n70 : ∀ a : Int, (0 ≤ a ∧ a ≤ 9223372037) → tT e d 3683 70 [some (.inr (.inr (.inl 664))), some (.inl x1), some (.inr (.inl x2)), none, some (.inl x3), some (.inr (.inl h)), none, some (.inr (.inl r)), none] [.inr (.inl a), .inl 9, .inr (.inr (.inl 664))] M1 n (tQi n (fun _ M' => MF M' D ∧ MC M M')) := by
      intro a ha
      refine tb_X12_put_70 (c := false) ?_
      simp only [kb_X12_put_70, w_lld7, w_lc0, w_lcmp, ne_eq, tlc_r, tlc_eq, tlc_lt, tlc_ge, tlc_gt, tlc_le, w_if_ge, w_lneg, tw_f, w_goto, true_and, and_true, Nat.reduceAdd, Nat.reduceSub, eq_self]
      refine ⟨by omega, fun g => ?_, fun g => n85 _ _ _ _ M1 a (-r) q g1 g3 ha (by omega)⟩
      refine tb_X12_put_83 (c := false) ?_
      simp only [kb_X12_put_83, w_lld7, w_nil, true_and, and_true, Nat.reduceAdd, Nat.reduceSub, eq_self]
      exact n85 _ _ _ _ M1 a r q g1 g3 ha (by omega)
    refine tb_X12_put_38 (c := false) ?_
    simp only [kb_X12_put_38, w_lld_2, w_ld2, w_ldiv, tw_f, w_lst5, tkl_n, tkl_i, tkl_l, tkl_r, w_lrem, w_lst7, w_ald_0, w_bi, w_lld5, w_lc0, w_lcmp, ne_eq, tlc_r, tlc_eq, tlc_lt, tlc_ge, tlc_gt, tlc_le, w_if_ge, w_lneg, w_goto, true_and, and_true, Nat.reduceAdd, Nat.reduceSub, eq_self]
    rw [hh, hr]
    refine ⟨by omega, by omega, by omega, fun g => ?_, fun g => n70 (-h) (by omega)⟩
    refine tb_X12_put_68 (c := false) ?_
    simp only [kb_X12_put_68, w_lld5, w_nil, true_and, and_true, Nat.reduceAdd, Nat.reduceSub, eq_self]
    exact n70 h (by omega)
  have n30 : ∀ v : Int, (0 ≤ v ∧ v ≤ 2) → (v = 0 → (0 ≤ x1 ∧ x1 ≤ 9) ∧ (0 ≤ x3 ∧ x3 ≤ 18)) → tT e d 3683 30 [some (.inr (.inr (.inl 664))), some (.inl x1), some (.inr (.inl x2)), none, some (.inl x3), none, none, none, none] [.inl v, .inr (.inr (.inl 664))] M n (tQi n (fun _ M' => MF M' D ∧ MC M M')) := by
    intro v hv hv0
    refine tb_X12_put_30 (c := false) ?_
    simp only [kb_X12_put_30, w_iv1, tfr_0, tfr_1, tfr_2, tfr_3, tfr_4, w_if_eq, w_ic, w_ire, trg, true_and, and_true, Nat.reduceAdd, Nat.reduceSub, eq_self, tshm_14, tshm_31, tshm_32, tykm_31, tykm_32, tci_15, tci_960, tykm_14, tci_14, tshm_667, tshm_668, tshm_669, tshm_670, tykm_33, tci_700, tsn_671, tyn_17, tcn_10, tzs_672, tzs_673, tzs_680, tzs_681, tzs_682, tzs_683, tzs_684, tzs_685, tzs_686, tzs_687, tzs_688, tzs_689, tzy_15, tzy_35, tzy_36, tzy_37, tzy_38, tzy_39, tzy_40, tzc_60, tzc_320, tzc_5, tzc_4, tzc_8]
    refine tc_i (D := 0) (fun d' hd' => o_fails (by omega)) (by omega) ?_
    rintro z M2 ⟨q2, rfl⟩
    try simp only [kb_X12_put_30, w_iv1, tfr_0, tfr_1, tfr_2, tfr_3, tfr_4, w_if_eq, w_ic, w_ire, trg, true_and, and_true, Nat.reduceAdd, Nat.reduceSub, eq_self, tshm_14, tshm_31, tshm_32, tykm_31, tykm_32, tci_15, tci_960, tykm_14, tci_14, tshm_667, tshm_668, tshm_669, tshm_670, tykm_33, tci_700, tsn_671, tyn_17, tcn_10, tzs_672, tzs_673, tzs_680, tzs_681, tzs_682, tzs_683, tzs_684, tzs_685, tzs_686, tzs_687, tzs_688, tzs_689, tzy_15, tzy_35, tzy_36, tzy_37, tzy_38, tzy_39, tzy_40, tzc_60, tzc_320, tzc_5, tzc_4, tzc_8]
    have h4 := MF_3 (v := v) hP
    refine ⟨by omega, fun h => n38 _ _ _ _ _ h4 (hv0 (by omega)).1 (hv0 (by omega)).2, fun h => ⟨by omega, 0, rfl, rfl, h4⟩⟩
  refine tb_X12_put_0 (c := false) ?_
  simp only [kb_X12_put_0, w_ald_0, w_ild_1, w_is1, tfr_0, tfr_1, tfr_2, tfr_3, tfr_4, w_if_ne, w_ic, w_goto, true_and, and_true, Nat.reduceAdd, Nat.reduceSub, eq_self]
  refine tc_i (D := 1) (fun d' hd' => o_isShelf h1 hd') (by omega) ?_
  rintro z1 M1 ⟨q1, rfl⟩
  try simp only [kb_X12_put_0, w_ald_0, w_ild_1, w_is1, tfr_0, tfr_1, tfr_2, tfr_3, tfr_4, w_if_ne, w_ic, w_goto, true_and, and_true, Nat.reduceAdd, Nat.reduceSub, eq_self]
  refine ⟨by omega, fun h => ?_, fun h => n30 1 (by omega) (fun g => absurd g (by decide))⟩
  refine tb_X12_put_12 (c := false) ?_
  simp only [kb_X12_put_12, w_ild4, w_i2l, w_lc0, w_ld2, w_is3, tfr_0, tfr_1, tfr_2, tfr_3, tfr_4, w_if_ne, w_ic, w_goto, true_and, and_true, Nat.reduceAdd, Nat.reduceSub, eq_self]
  refine ⟨by omega, ?_⟩
  refine tc_i (D := 0) (fun d' hd' => c_in (by omega) (by omega) (by omega)) (by omega) ?_
  rintro z2 M2 ⟨q2, rfl⟩
  try simp only [kb_X12_put_12, w_ild4, w_i2l, w_lc0, w_ld2, w_is3, tfr_0, tfr_1, tfr_2, tfr_3, tfr_4, w_if_ne, w_ic, w_goto, true_and, and_true, Nat.reduceAdd, Nat.reduceSub, eq_self]
  refine ⟨by omega, fun h => ?_, fun h => n30 2 (by omega) (fun g => absurd g (by decide))⟩
  refine tb_X12_put_29 (c := false) ?_
  simp only [kb_X12_put_29, w_ic, w_nil, true_and, and_true, Nat.reduceAdd, Nat.reduceSub, eq_self]
  exact n30 0 (by omega) (fun _ => by omega)
theorem o_hasYOf {f : Int} (hF : FI M) (hf : 0 ≤ f ∧ f ≤ 3) (hu : M 687 f ≠ 0) : tC e d 3620 [.inr (.inr (.inl 664)), .inl f] M n (tQi n (fun z M' => (z = 0 ∨ z = 1) ∧ M' = M)) := by
  refine tst_X12_hasYOf ?_
  have g := hF f (by omega) (by omega)
  have n4 : ∀ (fu : Nat) (s k : Int), (s = 0 ∨ s = 1) → (0 ≤ k ∧ k ≤ M 686 f) → M 686 f < k + (fu : Int) → tT e d 3620 4 [some (.inr (.inr (.inl 664))), some (.inl f), some (.inl s), some (.inl k)] [] M n (tQi n (fun z M' => (z = 0 ∨ z = 1) ∧ M' = M)) := by
    intro fu
    induction fu with
    | zero => intro s k a1 a2 a3; exfalso; omega
    | succ fu ih =>
      intro s k a1 a2 a3
      have n36 : ∀ v : Int, (v = 0 ∨ v = 1) → k < M 686 f → tT e d 3620 36 [some (.inr (.inr (.inl 664))), some (.inl f), some (.inl s), some (.inl k)] [.inl v, .inl s] M n (tQi n (fun z M' => (z = 0 ∨ z = 1) ∧ M' = M)) := by
        intro v hv hk
        refine tb_X12_hasYOf_36 (c := false) ?_
        simp only [kb_X12_hasYOf_36, w_ior, w_ist_2, tkl_n, tkl_i, tkl_l, tkl_r, w_inc3, w_goto, true_and, and_true, Nat.reduceAdd, Nat.reduceSub, eq_self]
        refine ⟨by omega, ?_⟩
        exact ih _ (k + 1) (by split <;> omega) (by omega) (by omega)
      have gk : k < M 686 f → 0 ≤ M 680 (64 * f + k) ∧ M 680 (64 * f + k) ≤ 65535 := fun h => by
        have := (g.2.2 hu).2 (64 * f + k) (by omega) (by omega)
        unfold FN at this
        omega
      refine tb_X12_hasYOf_4 (c := false) ?_
      simp only [kb_X12_hasYOf_4, w_ild_3, w_ald_0, w_gf_14_32, tw_f, w_ild_1, w_ia, w_iax, w_ic_ge, w_ild_2, w_gf_14_26, w_bi, w_imul, w_iadd, w_ca, w_ic_ne, w_ic, w_goto, true_and, and_true, Nat.reduceAdd, Nat.reduceSub, eq_self, tshm_14, tshm_31, tshm_32, tykm_31, tykm_32, tci_15, tci_960, tykm_14, tci_14, tshm_667, tshm_668, tshm_669, tshm_670, tykm_33, tci_700, tsn_671, tyn_17, tcn_10, tzs_672, tzs_673, tzs_680, tzs_681, tzs_682, tzs_683, tzs_684, tzs_685, tzs_686, tzs_687, tzs_688, tzs_689, tzy_15, tzy_35, tzy_36, tzy_37, tzy_38, tzy_39, tzy_40, tzc_60, tzc_320, tzc_5, tzc_4, tzc_8]
      refine ⟨by omega, by omega, fun h => ?_, fun h => ⟨by omega, by have := gk (by omega); omega, fun h => ?_, fun h => n36 1 (by omega) (by omega)⟩⟩
      · refine tb_X12_hasYOf_44 (c := false) ?_
        simp only [kb_X12_hasYOf_44, w_ild_2, w_ire, trg, true_and, and_true, Nat.reduceAdd, Nat.reduceSub, eq_self]
        exact ⟨by omega, s, rfl, rfl, a1, rfl⟩
      · refine tb_X12_hasYOf_35 (c := false) ?_
        simp only [kb_X12_hasYOf_35, w_ic, w_nil, true_and, and_true, Nat.reduceAdd, Nat.reduceSub, eq_self]
        exact n36 0 (by omega) (by omega)
  refine tb_X12_hasYOf_0 (c := false) ?_
  simp only [kb_X12_hasYOf_0, w_ic, w_ist_2, tkl_n, tkl_i, tkl_l, tkl_r, w_ist_3, w_nil, true_and, and_true, Nat.reduceAdd, Nat.reduceSub, eq_self]
  exact n4 61 0 0 (by omega) (by omega) (by omega)
theorem o_hasY {f : Int} (hP : MF M D) (hf : (-2147483648 ≤ f ∧ f < 2147483648)) (hd : 2 ≤ d) : tC e d 3619 [.inr (.inr (.inl 664)), .inl f] M n (tQi n (fun _ M' => MF M' D ∧ MC M M')) := by
  refine tst_X12_hasY ?_
  have n45 : ∀ (v : Int) (M1 : tM), (v = 0 ∨ v = 1) → MF M1 D ∧ MC M M1 → tT e d 3619 45 [some (.inr (.inr (.inl 664))), some (.inl f)] [.inl v] M1 n (tQi n (fun _ M' => MF M' D ∧ MC M M')) := by
    intro v M1 hv q
    refine tb_X12_hasY_45 (c := false) ?_
    simp only [kb_X12_hasY_45, w_ire, trg, true_and, and_true, Nat.reduceAdd, Nat.reduceSub, eq_self]
    exact ⟨by omega, v, rfl, rfl, q⟩
  have n26 : ∀ v : Int, (0 ≤ v ∧ v ≤ 2) → (v = 0 → (0 ≤ f ∧ f ≤ 3) ∧ M 687 f ≠ 0) → tT e d 3619 26 [some (.inr (.inr (.inl 664))), some (.inl f)] [.inl v, .inr (.inr (.inl 664))] M n (tQi n (fun _ M' => MF M' D ∧ MC M M')) := by
    intro v hv hv0
    refine tb_X12_hasY_26 (c := false) ?_
    simp only [kb_X12_hasY_26, w_iv1, tfr_0, tfr_1, tfr_2, tfr_3, tfr_4, w_if_ne, w_ald_0, w_ild_1, w_if_eq, w_ic, w_goto, true_and, and_true, Nat.reduceAdd, Nat.reduceSub, eq_self, tshm_14, tshm_31, tshm_32, tykm_31, tykm_32, tci_15, tci_960, tykm_14, tci_14, tshm_667, tshm_668, tshm_669, tshm_670, tykm_33, tci_700, tsn_671, tyn_17, tcn_10, tzs_672, tzs_673, tzs_680, tzs_681, tzs_682, tzs_683, tzs_684, tzs_685, tzs_686, tzs_687, tzs_688, tzs_689, tzy_15, tzy_35, tzy_36, tzy_37, tzy_38, tzy_39, tzy_40, tzc_60, tzc_320, tzc_5, tzc_4, tzc_8]
    refine tc_i (D := 0) (fun d' hd' => o_fails (by omega)) (by omega) ?_
    rintro z M2 ⟨q2, rfl⟩
    try simp only [kb_X12_hasY_26, w_iv1, tfr_0, tfr_1, tfr_2, tfr_3, tfr_4, w_if_ne, w_ald_0, w_ild_1, w_if_eq, w_ic, w_goto, true_and, and_true, Nat.reduceAdd, Nat.reduceSub, eq_self, tshm_14, tshm_31, tshm_32, tykm_31, tykm_32, tci_15, tci_960, tykm_14, tci_14, tshm_667, tshm_668, tshm_669, tshm_670, tykm_33, tci_700, tsn_671, tyn_17, tcn_10, tzs_672, tzs_673, tzs_680, tzs_681, tzs_682, tzs_683, tzs_684, tzs_685, tzs_686, tzs_687, tzs_688, tzs_689, tzy_15, tzy_35, tzy_36, tzy_37, tzy_38, tzy_39, tzy_40, tzc_60, tzc_320, tzc_5, tzc_4, tzc_8]
    have h4 := MF_3 (v := v) hP
    refine ⟨by omega, fun h => ?_, fun h => ?_⟩
    · refine tb_X12_hasY_44 (c := false) ?_
      simp only [kb_X12_hasY_44, w_ic, w_nil, true_and, and_true, Nat.reduceAdd, Nat.reduceSub, eq_self]
      exact n45 0 _ (by omega) h4
    have g := hv0 (by omega)
    refine tc_i (D := 0) (fun d' hd' => o_hasYOf h4.1.2.2.1 g.1 (by rw [tU_nk (by decide)]; exact g.2)) (by omega) ?_
    rintro z M3 ⟨q3, rfl⟩
    try simp only [kb_X12_hasY_26, w_iv1, tfr_0, tfr_1, tfr_2, tfr_3, tfr_4, w_if_ne, w_ald_0, w_ild_1, w_if_eq, w_ic, w_goto, true_and, and_true, Nat.reduceAdd, Nat.reduceSub, eq_self, tshm_14, tshm_31, tshm_32, tykm_31, tykm_32, tci_15, tci_960, tykm_14, tci_14, tshm_667, tshm_668, tshm_669, tshm_670, tykm_33, tci_700, tsn_671, tyn_17, tcn_10, tzs_672, tzs_673, tzs_680, tzs_681, tzs_682, tzs_683, tzs_684, tzs_685, tzs_686, tzs_687, tzs_688, tzs_689, tzy_15, tzy_35, tzy_36, tzy_37, tzy_38, tzy_39, tzy_40, tzc_60, tzc_320, tzc_5, tzc_4, tzc_8]
    refine ⟨by omega, fun h => ?_, fun h => n45 1 _ (by omega) h4⟩
    refine tb_X12_hasY_44 (c := false) ?_
    simp only [kb_X12_hasY_44, w_ic, w_nil, true_and, and_true, Nat.reduceAdd, Nat.reduceSub, eq_self]
    exact n45 0 _ (by omega) h4
  refine tb_X12_hasY_0 (c := false) ?_
  simp only [kb_X12_hasY_0, w_ald_0, w_ild_1, w_is1, tfr_0, tfr_1, tfr_2, tfr_3, tfr_4, w_if_ne, w_ic, w_goto, true_and, and_true, Nat.reduceAdd, Nat.reduceSub, eq_self]
  refine tc_i (D := 1) (fun d' hd' => o_isFormula hf hd') (by omega) ?_
  rintro z1 M1 ⟨q1, rfl⟩
  try simp only [kb_X12_hasY_0, w_ald_0, w_ild_1, w_is1, tfr_0, tfr_1, tfr_2, tfr_3, tfr_4, w_if_ne, w_ic, w_goto, true_and, and_true, Nat.reduceAdd, Nat.reduceSub, eq_self]
  refine ⟨by omega, fun h => ?_, fun h => n26 1 (by omega) (fun g => absurd g (by decide))⟩
  refine tb_X12_hasY_12 (c := false) ?_
  simp only [kb_X12_hasY_12, w_ald_0, w_gf_14_33, tw_f, w_ild_1, w_ba, w_if_eq, w_ic, w_goto, true_and, and_true, Nat.reduceAdd, Nat.reduceSub, eq_self, tshm_14, tshm_31, tshm_32, tykm_31, tykm_32, tci_15, tci_960, tykm_14, tci_14, tshm_667, tshm_668, tshm_669, tshm_670, tykm_33, tci_700, tsn_671, tyn_17, tcn_10, tzs_672, tzs_673, tzs_680, tzs_681, tzs_682, tzs_683, tzs_684, tzs_685, tzs_686, tzs_687, tzs_688, tzs_689, tzy_15, tzy_35, tzy_36, tzy_37, tzy_38, tzy_39, tzy_40, tzc_60, tzc_320, tzc_5, tzc_4, tzc_8]
  have g := hP.2.2.1 f (by omega) (by omega)
  refine ⟨by omega, by omega, fun h => ?_, fun h => n26 0 (by omega) (fun _ => by omega)⟩
  refine tb_X12_hasY_25 (c := false) ?_
  simp only [kb_X12_hasY_25, w_ic, w_nil, true_and, and_true, Nat.reduceAdd, Nat.reduceSub, eq_self]
  exact n26 2 (by omega) (fun g => absurd g (by decide))
theorem o_piece {x y : Int} (hP : MF M D) (hx : (-2147483648 ≤ x ∧ x < 2147483648)) (hy : (-2147483648 ≤ y ∧ y < 2147483648)) (hd : 3 ≤ d) : tC e d 3677 [.inr (.inr (.inl 664)), .inl x, .inl y] M n (tQi n (fun _ M' => MF M' D ∧ MC M M')) := by
  refine tst_X12_piece ?_
  have h41 := hP.2.2.2.1
  have n33 : ∀ v : Int, (0 ≤ v ∧ v ≤ 2) → (v = 0 → (0 ≤ x ∧ x ≤ 9) ∧ (0 ≤ y ∧ y ≤ 7)) → tT e d 3677 33 [some (.inr (.inr (.inl 664))), some (.inl x), some (.inl y)] [.inl v, .inr (.inr (.inl 664))] M n (tQi n (fun _ M' => MF M' D ∧ MC M M')) := by
    intro v hv hv0
    refine tb_X12_piece_33 (c := false) ?_
    simp only [kb_X12_piece_33, w_iv1, tfr_0, tfr_1, tfr_2, tfr_3, tfr_4, w_if_eq, w_ic, w_ire, trg, true_and, and_true, Nat.reduceAdd, Nat.reduceSub, eq_self, tshm_14, tshm_31, tshm_32, tykm_31, tykm_32, tci_15, tci_960, tykm_14, tci_14, tshm_667, tshm_668, tshm_669, tshm_670, tykm_33, tci_700, tsn_671, tyn_17, tcn_10, tzs_672, tzs_673, tzs_680, tzs_681, tzs_682, tzs_683, tzs_684, tzs_685, tzs_686, tzs_687, tzs_688, tzs_689, tzy_15, tzy_35, tzy_36, tzy_37, tzy_38, tzy_39, tzy_40, tzc_60, tzc_320, tzc_5, tzc_4, tzc_8]
    refine tc_i (D := 0) (fun d' hd' => o_fails (by omega)) (by omega) ?_
    rintro z M2 ⟨q2, rfl⟩
    try simp only [kb_X12_piece_33, w_iv1, tfr_0, tfr_1, tfr_2, tfr_3, tfr_4, w_if_eq, w_ic, w_ire, trg, true_and, and_true, Nat.reduceAdd, Nat.reduceSub, eq_self, tshm_14, tshm_31, tshm_32, tykm_31, tykm_32, tci_15, tci_960, tykm_14, tci_14, tshm_667, tshm_668, tshm_669, tshm_670, tykm_33, tci_700, tsn_671, tyn_17, tcn_10, tzs_672, tzs_673, tzs_680, tzs_681, tzs_682, tzs_683, tzs_684, tzs_685, tzs_686, tzs_687, tzs_688, tzs_689, tzy_15, tzy_35, tzy_36, tzy_37, tzy_38, tzy_39, tzy_40, tzc_60, tzc_320, tzc_5, tzc_4, tzc_8]
    have h4 := MF_3 (v := v) hP
    refine ⟨by omega, fun h => ?_, fun h => ⟨by omega, 0, rfl, rfl, h4⟩⟩
    have g := hv0 (by omega)
    refine tb_X12_piece_41 (c := false) ?_
    simp only [kb_X12_piece_41, w_ald_0, w_ild_1, w_bi, w_ild_2, w_iadd, w_iv2, tfr_0, tfr_1, tfr_2, tfr_3, tfr_4, w_ire, trg, true_and, and_true, Nat.reduceAdd, Nat.reduceSub, eq_self, tshm_14, tshm_31, tshm_32, tykm_31, tykm_32, tci_15, tci_960, tykm_14, tci_14, tshm_667, tshm_668, tshm_669, tshm_670, tykm_33, tci_700, tsn_671, tyn_17, tcn_10, tzs_672, tzs_673, tzs_680, tzs_681, tzs_682, tzs_683, tzs_684, tzs_685, tzs_686, tzs_687, tzs_688, tzs_689, tzy_15, tzy_35, tzy_36, tzy_37, tzy_38, tzy_39, tzy_40, tzc_60, tzc_320, tzc_5, tzc_4, tzc_8]
    refine tc_i (D := 2) (fun d' hd' => o_becomes_f h4.1 g.1 (by omega) (h4.1.1.2.2 _ (by omega) (by omega)) hd') (by omega) ?_
    rintro z M3 ⟨r1, r2, r3⟩
    try simp only [kb_X12_piece_41, w_ald_0, w_ild_1, w_bi, w_ild_2, w_iadd, w_iv2, tfr_0, tfr_1, tfr_2, tfr_3, tfr_4, w_ire, trg, true_and, and_true, Nat.reduceAdd, Nat.reduceSub, eq_self, tshm_14, tshm_31, tshm_32, tykm_31, tykm_32, tci_15, tci_960, tykm_14, tci_14, tshm_667, tshm_668, tshm_669, tshm_670, tykm_33, tci_700, tsn_671, tyn_17, tcn_10, tzs_672, tzs_673, tzs_680, tzs_681, tzs_682, tzs_683, tzs_684, tzs_685, tzs_686, tzs_687, tzs_688, tzs_689, tzy_15, tzy_35, tzy_36, tzy_37, tzy_38, tzy_39, tzy_40, tzc_60, tzc_320, tzc_5, tzc_4, tzc_8]
    exact ⟨by omega, z, rfl, rfl, r2, MC_tr h4.2 r3⟩
  refine tb_X12_piece_0 (c := false) ?_
  simp only [kb_X12_piece_0, w_ald_0, w_ild_1, w_is1, tfr_0, tfr_1, tfr_2, tfr_3, tfr_4, w_if_ne, w_ic, w_goto, true_and, and_true, Nat.reduceAdd, Nat.reduceSub, eq_self]
  refine tc_i (D := 1) (fun d' hd' => o_isShelf hx hd') (by omega) ?_
  rintro z1 M1 ⟨q1, rfl⟩
  try simp only [kb_X12_piece_0, w_ald_0, w_ild_1, w_is1, tfr_0, tfr_1, tfr_2, tfr_3, tfr_4, w_if_ne, w_ic, w_goto, true_and, and_true, Nat.reduceAdd, Nat.reduceSub, eq_self]
  refine ⟨by omega, fun h => ?_, fun h => n33 1 (by omega) (fun g => absurd g (by decide))⟩
  refine tb_X12_piece_12 (c := false) ?_
  simp only [kb_X12_piece_12, w_ild_2, w_i2l, w_lc0, w_ald_0, w_gf_14_41, tw_f, w_ic, w_isub, w_is3, tfr_0, tfr_1, tfr_2, tfr_3, tfr_4, w_if_eq, w_goto, true_and, and_true, Nat.reduceAdd, Nat.reduceSub, eq_self, tshm_14, tshm_31, tshm_32, tykm_31, tykm_32, tci_15, tci_960, tykm_14, tci_14, tshm_667, tshm_668, tshm_669, tshm_670, tykm_33, tci_700, tsn_671, tyn_17, tcn_10, tzs_672, tzs_673, tzs_680, tzs_681, tzs_682, tzs_683, tzs_684, tzs_685, tzs_686, tzs_687, tzs_688, tzs_689, tzy_15, tzy_35, tzy_36, tzy_37, tzy_38, tzy_39, tzy_40, tzc_60, tzc_320, tzc_5, tzc_4, tzc_8]
  refine ⟨by omega, by omega, ?_⟩
  refine tc_i (D := 0) (fun d' hd' => c_in (by omega) (by omega) (by omega)) (by omega) ?_
  rintro z2 M2 ⟨q2, rfl⟩
  try simp only [kb_X12_piece_12, w_ild_2, w_i2l, w_lc0, w_ald_0, w_gf_14_41, tw_f, w_ic, w_isub, w_is3, tfr_0, tfr_1, tfr_2, tfr_3, tfr_4, w_if_eq, w_goto, true_and, and_true, Nat.reduceAdd, Nat.reduceSub, eq_self, tshm_14, tshm_31, tshm_32, tykm_31, tykm_32, tci_15, tci_960, tykm_14, tci_14, tshm_667, tshm_668, tshm_669, tshm_670, tykm_33, tci_700, tsn_671, tyn_17, tcn_10, tzs_672, tzs_673, tzs_680, tzs_681, tzs_682, tzs_683, tzs_684, tzs_685, tzs_686, tzs_687, tzs_688, tzs_689, tzy_15, tzy_35, tzy_36, tzy_37, tzy_38, tzy_39, tzy_40, tzc_60, tzc_320, tzc_5, tzc_4, tzc_8]
  refine ⟨by omega, fun h => ?_, fun h => n33 0 (by omega) (fun _ => by omega)⟩
  refine tb_X12_piece_32 (c := false) ?_
  simp only [kb_X12_piece_32, w_ic, w_nil, true_and, and_true, Nat.reduceAdd, Nat.reduceSub, eq_self]
  exact n33 2 (by omega) (fun g => absurd g (by decide))
/-- how many digits behind the point -/
def rSc : Int → Prop := fun r => r = 9 ∨ r = 14
theorem o_scaleOf (hT : TX M) (hd : 2 ≤ d) : tC e d 3698 [.inr (.inr (.inl 664))] M n (tQi n (fun z M' => (-1 ≤ z ∧ z ≤ 22) ∧ (0 ≤ z → ∃ x : Nat, Vr M' 9 x ∧ x < tn 60) ∧ rE rSc M M')) := by
  refine tst_X12_scaleOf ?_
  have h17 := hT.1
  have n174 : ∀ (L : tL) (M1 : tM) (z : Int) (x : Nat), (-1 ≤ z ∧ z ≤ 22) → Vr M1 9 x → x < tn 60 → rE rSc M M1 → tT e d 3698 174 (some (.inr (.inr (.inl 664))) :: L) [.inl z] M1 n (tQi n (fun z M' => (-1 ≤ z ∧ z ≤ 22) ∧ (0 ≤ z → ∃ x : Nat, Vr M' 9 x ∧ x < tn 60) ∧ rE rSc M M')) := by
    intro L M1 z x a1 a2 a3 a4
    refine tb_X12_scaleOf_174 (c := false) ?_
    simp only [kb_X12_scaleOf_174, w_ire, trg, true_and, and_true, Nat.reduceAdd, Nat.reduceSub, eq_self]
    exact ⟨z, rfl, rfl, a1, fun _ => ⟨x, a2, a3⟩, a4⟩
  have n50 : ∀ (fu : Nat) (M1 : tM) (A s k : Int) (p x : Nat), rE rSc M M1 → Vr M1 9 x → x < tn p → p ≤ 22 → (-1 ≤ s ∧ s ≤ (p : Int)) → (0 ≤ k ∧ k ≤ 60) → 60 < k + (fu : Int) → tT e d 3698 50 [some (.inr (.inr (.inl 664))), some (.inl A), some (.inl (p : Int)), some (.inl s), some (.inl k)] [] M1 n (tQi n (fun z M' => (-1 ≤ z ∧ z ≤ 22) ∧ (0 ≤ z → ∃ x : Nat, Vr M' 9 x ∧ x < tn 60) ∧ rE rSc M M')) := by
    intro fu
    induction fu with
    | zero => intro M1 A s k p x a1 a2 a3 a4 a5 a6 a7; exfalso; omega
    | succ fu ih =>
      intro M1 A s k p x a1 a2 a3 a4 a5 a6 a7
      have e17 : M1 664 17 = M 664 17 := a1.1 664 17 (by decide) (by decide)
      have e72 : ∀ i : Int, M1 672 i = M 672 i := fun i => a1.1 672 i (by decide) (by decide)
      have hx60 : x < tn 60 := Nat.lt_of_lt_of_le a3 (tn_mono (by omega))
      have gk : k < M 664 17 → 0 ≤ M 672 k ∧ M 672 k ≤ 65535 := fun h => hT.2.1 k (by omega) (by omega)
      have n99 : tT e d 3698 99 [some (.inr (.inr (.inl 664))), some (.inl A), some (.inl (p : Int)), some (.inl s), some (.inl k)] [] M1 n (tQi n (fun z M' => (-1 ≤ z ∧ z ≤ 22) ∧ (0 ≤ z → ∃ x : Nat, Vr M' 9 x ∧ x < tn 60) ∧ rE rSc M M')) := by
        refine tb_X12_scaleOf_99 (c := false) ?_
        simp only [kb_X12_scaleOf_99, w_ic, w_ire, trg, true_and, and_true, Nat.reduceAdd, Nat.reduceSub, eq_self]
        exact ⟨-1, rfl, rfl, by omega, fun h => absurd h (by decide), a1⟩
      have n151 : ∀ (M2 : tM) (s2 : Int) (p2 x2 : Nat), k < M 664 17 → rE rSc M M2 → Vr M2 9 x2 → x2 < tn p2 → p2 ≤ 22 → (-1 ≤ s2 ∧ s2 ≤ (p2 : Int)) → tT e d 3698 151 [some (.inr (.inr (.inl 664))), some (.inl A), some (.inl (p2 : Int)), some (.inl s2), some (.inl k)] [] M2 n (tQi n (fun z M' => (-1 ≤ z ∧ z ≤ 22) ∧ (0 ≤ z → ∃ x : Nat, Vr M' 9 x ∧ x < tn 60) ∧ rE rSc M M')) := by
        intro M2 s2 p2 x2 h b1 b2 b3 b4 b5
        refine tb_X12_scaleOf_151 (c := false) ?_
        simp only [kb_X12_scaleOf_151, w_inc4, tkl_n, tkl_i, tkl_l, tkl_r, w_goto, true_and, and_true, Nat.reduceAdd, Nat.reduceSub, eq_self]
        exact ih M2 A s2 (k + 1) p2 x2 b1 b2 b3 b4 b5 (by omega) (by omega)
      have n80 : k < M 664 17 → tT e d 3698 80 [some (.inr (.inr (.inl 664))), some (.inl A), some (.inl (p : Int)), some (.inl s), some (.inl k)] [] M1 n (tQi n (fun z M' => (-1 ≤ z ∧ z ≤ 22) ∧ (0 ≤ z → ∃ x : Nat, Vr M' 9 x ∧ x < tn 60) ∧ rE rSc M M')) := by
        intro h
        have g := gk h
        refine tb_X12_scaleOf_80 (c := false) ?_
        simp only [kb_X12_scaleOf_80, w_ald_0, w_gf_14_15, tw_f, w_ild4, w_ca, w_is1, tfr_0, tfr_1, tfr_2, tfr_3, tfr_4, w_if_eq, w_ild_2, w_bi, w_ic_ne, w_nil, true_and, and_true, Nat.reduceAdd, Nat.reduceSub, eq_self, tshm_14, tshm_31, tshm_32, tykm_31, tykm_32, tci_15, tci_960, tykm_14, tci_14, tshm_667, tshm_668, tshm_669, tshm_670, tykm_33, tci_700, tsn_671, tyn_17, tcn_10, tzs_672, tzs_673, tzs_680, tzs_681, tzs_682, tzs_683, tzs_684, tzs_685, tzs_686, tzs_687, tzs_688, tzs_689, tzy_15, tzy_35, tzy_36, tzy_37, tzy_38, tzy_39, tzy_40, tzc_60, tzc_320, tzc_5, tzc_4, tzc_8, e72]
        refine ⟨by omega, ?_⟩
        refine tc_i (D := 0) (fun d' hd' => o_isDigit g) (by omega) ?_
        rintro z M2 ⟨q2, rfl⟩
        try simp only [kb_X12_scaleOf_80, w_ald_0, w_gf_14_15, tw_f, w_ild4, w_ca, w_is1, tfr_0, tfr_1, tfr_2, tfr_3, tfr_4, w_if_eq, w_ild_2, w_bi, w_ic_ne, w_nil, true_and, and_true, Nat.reduceAdd, Nat.reduceSub, eq_self, tshm_14, tshm_31, tshm_32, tykm_31, tykm_32, tci_15, tci_960, tykm_14, tci_14, tshm_667, tshm_668, tshm_669, tshm_670, tykm_33, tci_700, tsn_671, tyn_17, tcn_10, tzs_672, tzs_673, tzs_680, tzs_681, tzs_682, tzs_683, tzs_684, tzs_685, tzs_686, tzs_687, tzs_688, tzs_689, tzy_15, tzy_35, tzy_36, tzy_37, tzy_38, tzy_39, tzy_40, tzc_60, tzc_320, tzc_5, tzc_4, tzc_8]
        refine ⟨by omega, fun h1 => n99, fun h1 => ⟨by omega, fun h2 => ?_, fun h2 => n99⟩⟩
        obtain ⟨c, hc⟩ : ∃ c : Nat, M 672 k - 48 = (c : Int) := ⟨(M 672 k - 48).toNat, by omega⟩
        have t60 : tn 60 ≤ pw 62 := by rw [pw_tn]; exact tn_mono (by omega)
        have tp : tn (p + 1) = tn p * 10 := tn_s p
        have tq : tn (p + 1) ≤ tn 60 := tn_mono (by omega)
        refine tb_X12_scaleOf_101 (c := false) ?_
        simp only [kb_X12_scaleOf_101, w_ald_0, w_bi, w_ld2, w_iv2, tfr_0, tfr_1, tfr_2, tfr_3, tfr_4, w_lc0, w_gf_14_15, tw_f, w_ild4, w_ca, w_isub, w_i2l, w_iv3, w_inc2, tkl_n, tkl_i, tkl_l, tkl_r, w_ild_3, w_if_ge, w_ic, w_goto, true_and, and_true, Nat.reduceAdd, Nat.reduceSub, eq_self, tshm_14, tshm_31, tshm_32, tykm_31, tykm_32, tci_15, tci_960, tykm_14, tci_14, tshm_667, tshm_668, tshm_669, tshm_670, tykm_33, tci_700, tsn_671, tyn_17, tcn_10, tzs_672, tzs_673, tzs_680, tzs_681, tzs_682, tzs_683, tzs_684, tzs_685, tzs_686, tzs_687, tzs_688, tzs_689, tzy_15, tzy_35, tzy_36, tzy_37, tzy_38, tzy_39, tzy_40, tzc_60, tzc_320, tzc_5, tzc_4, tzc_8]
        refine tc_n (D := 1) (fun d' hd' => c_scales (b := 10) (by omega) a2 (by omega) (by omega) hd') (by omega) ?_
        rintro M3 ⟨p1, p2⟩
        have r3 : rE rSc M M3 := rE_tr a1 (rE_mono p2 (fun r q => Or.inl q))
        have f72 : M3 672 k = M 672 k := r3.1 672 k (by decide) (by decide)
        try simp only [kb_X12_scaleOf_101, w_ald_0, w_bi, w_ld2, w_iv2, tfr_0, tfr_1, tfr_2, tfr_3, tfr_4, w_lc0, w_gf_14_15, tw_f, w_ild4, w_ca, w_isub, w_i2l, w_iv3, w_inc2, tkl_n, tkl_i, tkl_l, tkl_r, w_ild_3, w_if_ge, w_ic, w_goto, true_and, and_true, Nat.reduceAdd, Nat.reduceSub, eq_self, tshm_14, tshm_31, tshm_32, tykm_31, tykm_32, tci_15, tci_960, tykm_14, tci_14, tshm_667, tshm_668, tshm_669, tshm_670, tykm_33, tci_700, tsn_671, tyn_17, tcn_10, tzs_672, tzs_673, tzs_680, tzs_681, tzs_682, tzs_683, tzs_684, tzs_685, tzs_686, tzs_687, tzs_688, tzs_689, tzy_15, tzy_35, tzy_36, tzy_37, tzy_38, tzy_39, tzy_40, tzc_60, tzc_320, tzc_5, tzc_4, tzc_8, f72]
        refine ⟨by omega, by omega, ?_⟩
        rw [hc]
        refine tc_n (D := 1) (fun d' hd' => c_sets (u := 0) (by omega) (by omega) (by omega) hd') (by omega) ?_
        rintro M4 ⟨p3, p4⟩
        have r4 : rE rSc M M4 := rE_tr r3 (rE_mono p4 (fun r q => Or.inr q))
        have v4 := Vr_E p1 p4 (by omega)
        try simp only [kb_X12_scaleOf_101, w_ald_0, w_bi, w_ld2, w_iv2, tfr_0, tfr_1, tfr_2, tfr_3, tfr_4, w_lc0, w_gf_14_15, tw_f, w_ild4, w_ca, w_isub, w_i2l, w_iv3, w_inc2, tkl_n, tkl_i, tkl_l, tkl_r, w_ild_3, w_if_ge, w_ic, w_goto, true_and, and_true, Nat.reduceAdd, Nat.reduceSub, eq_self, tshm_14, tshm_31, tshm_32, tykm_31, tykm_32, tci_15, tci_960, tykm_14, tci_14, tshm_667, tshm_668, tshm_669, tshm_670, tykm_33, tci_700, tsn_671, tyn_17, tcn_10, tzs_672, tzs_673, tzs_680, tzs_681, tzs_682, tzs_683, tzs_684, tzs_685, tzs_686, tzs_687, tzs_688, tzs_689, tzy_15, tzy_35, tzy_36, tzy_37, tzy_38, tzy_39, tzy_40, tzc_60, tzc_320, tzc_5, tzc_4, tzc_8]
        refine tc_n (D := 1) (fun d' hd' => c_plus (by omega) (by omega) (by omega) v4 p3 (by omega) hd') (by omega) ?_
        rintro M5 ⟨p5, p6⟩
        have r5 : rE rSc M M5 := rE_tr r4 (rE_mono p6 (fun r q => Or.inl q))
        try simp only [kb_X12_scaleOf_101, w_ald_0, w_bi, w_ld2, w_iv2, tfr_0, tfr_1, tfr_2, tfr_3, tfr_4, w_lc0, w_gf_14_15, tw_f, w_ild4, w_ca, w_isub, w_i2l, w_iv3, w_inc2, tkl_n, tkl_i, tkl_l, tkl_r, w_ild_3, w_if_ge, w_ic, w_goto, true_and, and_true, Nat.reduceAdd, Nat.reduceSub, eq_self, tshm_14, tshm_31, tshm_32, tykm_31, tykm_32, tci_15, tci_960, tykm_14, tci_14, tshm_667, tshm_668, tshm_669, tshm_670, tykm_33, tci_700, tsn_671, tyn_17, tcn_10, tzs_672, tzs_673, tzs_680, tzs_681, tzs_682, tzs_683, tzs_684, tzs_685, tzs_686, tzs_687, tzs_688, tzs_689, tzy_15, tzy_35, tzy_36, tzy_37, tzy_38, tzy_39, tzy_40, tzc_60, tzc_320, tzc_5, tzc_4, tzc_8]
        have ep : ((p : Nat) : Int) + 1 = ((p + 1 : Nat) : Int) := by omega
        rw [ep]
        have n149 : ∀ v : Int, (v = 0 ∧ s < 0 ∨ v = 1) → tT e d 3698 149 [some (.inr (.inr (.inl 664))), some (.inl A), some (.inl ((p + 1 : Nat) : Int)), some (.inl s), some (.inl k)] [.inl v, .inl s] M5 n (tQi n (fun z M' => (-1 ≤ z ∧ z ≤ 22) ∧ (0 ≤ z → ∃ x : Nat, Vr M' 9 x ∧ x < tn 60) ∧ rE rSc M M')) := by
          intro v hv
          refine tb_X12_scaleOf_149 (c := false) ?_
          simp only [kb_X12_scaleOf_149, w_iadd, w_ist_3, tkl_n, tkl_i, tkl_l, tkl_r, w_nil, true_and, and_true, Nat.reduceAdd, Nat.reduceSub, eq_self]
          exact n151 M5 (s + v) (p + 1) _ h r5 p5 (by omega) (by omega) (by omega)
        refine ⟨by omega, fun h3 => ?_, fun h3 => n149 0 (by omega)⟩
        refine tb_X12_scaleOf_148 (c := false) ?_
        simp only [kb_X12_scaleOf_148, w_ic, w_nil, true_and, and_true, Nat.reduceAdd, Nat.reduceSub, eq_self]
        exact n149 1 (by omega)
      refine tb_X12_scaleOf_50 (c := false) ?_
      simp only [kb_X12_scaleOf_50, w_ild4, w_ald_0, w_gf_14_17, tw_f, w_ic_ge, w_gf_14_15, w_ca, w_bi, w_ic_ne, w_ild_3, w_if_ge, w_ic, w_ist_3, tkl_n, tkl_i, tkl_l, tkl_r, w_goto, true_and, and_true, Nat.reduceAdd, Nat.reduceSub, eq_self, tshm_14, tshm_31, tshm_32, tykm_31, tykm_32, tci_15, tci_960, tykm_14, tci_14, tshm_667, tshm_668, tshm_669, tshm_670, tykm_33, tci_700, tsn_671, tyn_17, tcn_10, tzs_672, tzs_673, tzs_680, tzs_681, tzs_682, tzs_683, tzs_684, tzs_685, tzs_686, tzs_687, tzs_688, tzs_689, tzy_15, tzy_35, tzy_36, tzy_37, tzy_38, tzy_39, tzy_40, tzc_60, tzc_320, tzc_5, tzc_4, tzc_8, e17, e72]
      refine ⟨by omega, fun h => ?_, fun h => ⟨by omega, by have := gk (by omega); omega, fun h1 => n80 (by omega), fun h1 => ⟨by omega, fun h2 => n80 (by omega), fun h2 => n151 M1 0 p x (by omega) a1 a2 a3 a4 (by omega)⟩⟩⟩
      refine tb_X12_scaleOf_157 (c := false) ?_
      simp only [kb_X12_scaleOf_157, w_ild_2, w_if_ne, w_ic, w_goto, true_and, and_true, Nat.reduceAdd, Nat.reduceSub, eq_self]
      refine ⟨by omega, fun h1 => ?_, fun h1 => n174 _ M1 (-1) x (by omega) a2 hx60 a1⟩
      refine tb_X12_scaleOf_165 (c := false) ?_
      simp only [kb_X12_scaleOf_165, w_ild_3, w_if_ge, w_ic, w_goto, true_and, and_true, Nat.reduceAdd, Nat.reduceSub, eq_self]
      refine ⟨by omega, fun h2 => ?_, fun h2 => n174 _ M1 0 x (by omega) a2 hx60 a1⟩
      refine tb_X12_scaleOf_173 (c := false) ?_
      simp only [kb_X12_scaleOf_173, w_ild_3, w_nil, true_and, and_true, Nat.reduceAdd, Nat.reduceSub, eq_self]
      exact n174 _ M1 s x (by omega) a2 hx60 a1
  have n34 : ∀ v : Int, (v = 0 ∨ v = 1) → tT e d 3698 34 [some (.inr (.inr (.inl 664))), none, none, none, none] [.inl v] M n (tQi n (fun z M' => (-1 ≤ z ∧ z ≤ 22) ∧ (0 ≤ z → ∃ x : Nat, Vr M' 9 x ∧ x < tn 60) ∧ rE rSc M M')) := by
    intro v hv
    refine tb_X12_scaleOf_34 (c := false) ?_
    simp only [kb_X12_scaleOf_34, w_ist_1, tkl_n, tkl_i, tkl_l, tkl_r, w_ic, w_ist_2, w_ist_3, w_ald_0, w_gf_14_1, tw_f, w_bi, w_ias, ne_eq, eq_self, not_true_eq_false, false_implies, w_ild_1, w_ist4, w_nil, true_and, and_true, Nat.reduceAdd, Nat.reduceSub, eq_self, tshm_14, tshm_31, tshm_32, tykm_31, tykm_32, tci_15, tci_960, tykm_14, tci_14, tshm_667, tshm_668, tshm_669, tshm_670, tykm_33, tci_700, tsn_671, tyn_17, tcn_10, tzs_672, tzs_673, tzs_680, tzs_681, tzs_682, tzs_683, tzs_684, tzs_685, tzs_686, tzs_687, tzs_688, tzs_689, tzy_15, tzy_35, tzy_36, tzy_37, tzy_38, tzy_39, tzy_40, tzc_60, tzc_320, tzc_5, tzc_4, tzc_8]
    refine ⟨by omega, ?_⟩
    exact n50 61 _ v (-1) v 0 0 (rE_m (Or.inl rfl)) (Vr_z (tU_eq ..)) (tn_pos 0) (by omega) (by omega) (by omega) (by omega)
  have n33 : tT e d 3698 33 [some (.inr (.inr (.inl 664))), none, none, none, none] [] M n (tQi n (fun z M' => (-1 ≤ z ∧ z ≤ 22) ∧ (0 ≤ z → ∃ x : Nat, Vr M' 9 x ∧ x < tn 60) ∧ rE rSc M M')) := by
    refine tb_X12_scaleOf_33 (c := false) ?_
    simp only [kb_X12_scaleOf_33, w_ic, w_nil, true_and, and_true, Nat.reduceAdd, Nat.reduceSub, eq_self]
    exact n34 0 (by omega)
  have n29 : tT e d 3698 29 [some (.inr (.inr (.inl 664))), none, none, none, none] [] M n (tQi n (fun z M' => (-1 ≤ z ∧ z ≤ 22) ∧ (0 ≤ z → ∃ x : Nat, Vr M' 9 x ∧ x < tn 60) ∧ rE rSc M M')) := by
    refine tb_X12_scaleOf_29 (c := false) ?_
    simp only [kb_X12_scaleOf_29, w_ic, w_goto, true_and, and_true, Nat.reduceAdd, Nat.reduceSub, eq_self]
    exact n34 1 (by omega)
  have g0 := hT.2.1 0 (by omega) (by omega)
  refine tb_X12_scaleOf_0 (c := false) ?_
  simp only [kb_X12_scaleOf_0, w_ald_0, w_gf_14_17, tw_f, w_if_le, w_gf_14_15, w_ic, w_ca, w_bi, w_ic_eq, w_ic_ne, w_nil, true_and, and_true, Nat.reduceAdd, Nat.reduceSub, eq_self, tshm_14, tshm_31, tshm_32, tykm_31, tykm_32, tci_15, tci_960, tykm_14, tci_14, tshm_667, tshm_668, tshm_669, tshm_670, tykm_33, tci_700, tsn_671, tyn_17, tcn_10, tzs_672, tzs_673, tzs_680, tzs_681, tzs_682, tzs_683, tzs_684, tzs_685, tzs_686, tzs_687, tzs_688, tzs_689, tzy_15, tzy_35, tzy_36, tzy_37, tzy_38, tzy_39, tzy_40, tzc_60, tzc_320, tzc_5, tzc_4, tzc_8]
  exact ⟨by omega, fun h => n33, fun h => ⟨by omega, by omega, fun h => n29, fun h => ⟨by omega, by omega, fun h => n33, fun h => n29⟩⟩⟩
theorem o_read {x1 : Int} (hP : MF M D) (h1 : (-2147483648 ≤ x1 ∧ x1 < 2147483648)) (hd : 6 ≤ d) : tC e d 3686 [.inr (.inr (.inl 664)), .inl x1] M n (tQi n (fun _ M' => MF M' D ∧ MC M M')) := by
  refine tst_X12_read ?_
  have n78 : ∀ (A : Option tV) (M1 : tM) (v : Int), MF M1 D ∧ MC M M1 → (0 ≤ x1 ∧ x1 ≤ 9) → (v = 0 ∨ v = 3) → (v = 0 → OB M1 60) → tT e d 3686 78 [some (.inr (.inr (.inl 664))), some (.inl x1), A] [.inl v, .inr (.inr (.inl 664))] M1 n (tQi n (fun _ M' => MF M' D ∧ MC M M')) := by
    intro A M1 v q g1 hv hO
    refine tb_X12_read_78 (c := false) ?_
    simp only [kb_X12_read_78, w_iv1, tfr_0, tfr_1, tfr_2, tfr_3, tfr_4, w_if_eq, w_ic, w_ire, trg, true_and, and_true, Nat.reduceAdd, Nat.reduceSub, eq_self, tshm_14, tshm_31, tshm_32, tykm_31, tykm_32, tci_15, tci_960, tykm_14, tci_14, tshm_667, tshm_668, tshm_669, tshm_670, tykm_33, tci_700, tsn_671, tyn_17, tcn_10, tzs_672, tzs_673, tzs_680, tzs_681, tzs_682, tzs_683, tzs_684, tzs_685, tzs_686, tzs_687, tzs_688, tzs_689, tzy_15, tzy_35, tzy_36, tzy_37, tzy_38, tzy_39, tzy_40, tzc_60, tzc_320, tzc_5, tzc_4, tzc_8]
    refine tc_i (D := 0) (fun d' hd' => o_fails (by omega)) (by omega) ?_
    rintro z M2 ⟨q2, rfl⟩
    try simp only [kb_X12_read_78, w_iv1, tfr_0, tfr_1, tfr_2, tfr_3, tfr_4, w_if_eq, w_ic, w_ire, trg, true_and, and_true, Nat.reduceAdd, Nat.reduceSub, eq_self, tshm_14, tshm_31, tshm_32, tykm_31, tykm_32, tci_15, tci_960, tykm_14, tci_14, tshm_667, tshm_668, tshm_669, tshm_670, tykm_33, tci_700, tsn_671, tyn_17, tcn_10, tzs_672, tzs_673, tzs_680, tzs_681, tzs_682, tzs_683, tzs_684, tzs_685, tzs_686, tzs_687, tzs_688, tzs_689, tzy_15, tzy_35, tzy_36, tzy_37, tzy_38, tzy_39, tzy_40, tzc_60, tzc_320, tzc_5, tzc_4, tzc_8]
    have h4 := MF_3 (v := v) q.1
    refine ⟨by omega, fun h => ?_, fun h => ⟨by omega, 0, rfl, rfl, h4.1, MC_tr q.2 h4.2⟩⟩
    refine tb_X12_read_86 (c := false) ?_
    simp only [kb_X12_read_86, w_ald_0, w_ic, w_pf_14_17, w_ild_1, w_bi, w_iv2, tfr_0, tfr_1, tfr_2, tfr_3, tfr_4, w_ire, trg, true_and, and_true, Nat.reduceAdd, Nat.reduceSub, eq_self, tshm_14, tshm_31, tshm_32, tykm_31, tykm_32, tci_15, tci_960, tykm_14, tci_14, tshm_667, tshm_668, tshm_669, tshm_670, tykm_33, tci_700, tsn_671, tyn_17, tcn_10, tzs_672, tzs_673, tzs_680, tzs_681, tzs_682, tzs_683, tzs_684, tzs_685, tzs_686, tzs_687, tzs_688, tzs_689, tzy_15, tzy_35, tzy_36, tzy_37, tzy_38, tzy_39, tzy_40, tzc_60, tzc_320, tzc_5, tzc_4, tzc_8]
    have h5 := MF_te (M' := tU (tU M1 664 3 v) 664 17 0) h4.1 (TE_U (by omega)) (TX_l h4.1.2.1 (by omega))
    refine tc_i (D := 2) (fun d' hd' => o_becomes_f h5.1 g1 (by omega) (OB_same (fun k g => (tU_nk (by unfold isB at g; omega)).trans (tU_nk (by unfold isB at g; omega))) (hO (by omega))) hd') (by omega) ?_
    rintro z M3 ⟨r1, r2, r3⟩
    try simp only [kb_X12_read_86, w_ald_0, w_ic, w_pf_14_17, w_ild_1, w_bi, w_iv2, tfr_0, tfr_1, tfr_2, tfr_3, tfr_4, w_ire, trg, true_and, and_true, Nat.reduceAdd, Nat.reduceSub, eq_self, tshm_14, tshm_31, tshm_32, tykm_31, tykm_32, tci_15, tci_960, tykm_14, tci_14, tshm_667, tshm_668, tshm_669, tshm_670, tykm_33, tci_700, tsn_671, tyn_17, tcn_10, tzs_672, tzs_673, tzs_680, tzs_681, tzs_682, tzs_683, tzs_684, tzs_685, tzs_686, tzs_687, tzs_688, tzs_689, tzy_15, tzy_35, tzy_36, tzy_37, tzy_38, tzy_39, tzy_40, tzc_60, tzc_320, tzc_5, tzc_4, tzc_8]
    exact ⟨by omega, z, rfl, rfl, r2, MC_tr (MC_tr (MC_tr q.2 h4.2) h5.2) r3⟩
  have n67 : ∀ (M1 : tM) (v : Int) (x s : Nat), MF M1 D ∧ MC M M1 → (0 ≤ x1 ∧ x1 ≤ 9) → (v = 0 ∨ v = 1) → Vr M1 9 x → x < tn 60 → s ≤ 22 → tT e d 3686 67 [some (.inr (.inr (.inl 664))), some (.inl x1), some (.inl (s : Int))] [.inl v, .inl (s : Int), .inl 9, .inl 60, .inr (.inr (.inl 664)), .inr (.inr (.inl 664))] M1 n (tQi n (fun _ M' => MF M' D ∧ MC M M')) := by
    intro M1 v x s q g1 hv hV hx hs2
    refine tb_X12_read_67 (c := false) ?_
    simp only [kb_X12_read_67, w_iv4, tfr_0, tfr_1, tfr_2, tfr_3, tfr_4, w_if_le, w_ic, w_goto, true_and, and_true, Nat.reduceAdd, Nat.reduceSub, eq_self, tshm_14, tshm_31, tshm_32, tykm_31, tykm_32, tci_15, tci_960, tykm_14, tci_14, tshm_667, tshm_668, tshm_669, tshm_670, tykm_33, tci_700, tsn_671, tyn_17, tcn_10, tzs_672, tzs_673, tzs_680, tzs_681, tzs_682, tzs_683, tzs_684, tzs_685, tzs_686, tzs_687, tzs_688, tzs_689, tzy_15, tzy_35, tzy_36, tzy_37, tzy_38, tzy_39, tzy_40, tzc_60, tzc_320, tzc_5, tzc_4, tzc_8]
    refine tc_i (D := 5) (fun d' hd' => o_number q.1.1.1 (by omega) (by omega) (by omega) hV hx (by omega) hv hd') (by omega) ?_
    rintro z M2 ⟨p1, p2⟩
    try simp only [kb_X12_read_67, w_iv4, tfr_0, tfr_1, tfr_2, tfr_3, tfr_4, w_if_le, w_ic, w_goto, true_and, and_true, Nat.reduceAdd, Nat.reduceSub, eq_self, tshm_14, tshm_31, tshm_32, tykm_31, tykm_32, tci_15, tci_960, tykm_14, tci_14, tshm_667, tshm_668, tshm_669, tshm_670, tykm_33, tci_700, tsn_671, tyn_17, tcn_10, tzs_672, tzs_673, tzs_680, tzs_681, tzs_682, tzs_683, tzs_684, tzs_685, tzs_686, tzs_687, tzs_688, tzs_689, tzy_15, tzy_35, tzy_36, tzy_37, tzy_38, tzy_39, tzy_40, tzc_60, tzc_320, tzc_5, tzc_4, tzc_8]
    have h4 := MF_x q.1 p2
    unfold OK3 at p1
    refine ⟨by omega, fun h => ?_, fun h => n78 _ M2 3 ⟨h4.1, MC_tr q.2 h4.2⟩ g1 (by omega) (by omega)⟩
    refine tb_X12_read_77 (c := false) ?_
    simp only [kb_X12_read_77, w_ic, w_nil, true_and, and_true, Nat.reduceAdd, Nat.reduceSub, eq_self]
    exact n78 _ M2 0 ⟨h4.1, MC_tr q.2 h4.2⟩ g1 (by omega) (fun _ => p1.2 (by omega))
  have n36 : ∀ (M1 : tM) (w v : Int), MF M1 D ∧ MC M M1 → (0 ≤ x1 ∧ x1 ≤ 9) → (v = 0 ∧ (0 ≤ w ∧ w ≤ 22) ∧ (∃ x : Nat, Vr M1 9 x ∧ x < tn 60) ∨ v = 2) → tT e d 3686 36 [some (.inr (.inr (.inl 664))), some (.inl x1), some (.inl w)] [.inl v, .inr (.inr (.inl 664))] M1 n (tQi n (fun _ M' => MF M' D ∧ MC M M')) := by
    intro M1 w v q g1 hv
    have hv2 : 0 ≤ v ∧ v ≤ 2 := by rcases hv with h | h <;> omega
    refine tb_X12_read_36 (c := false) ?_
    simp only [kb_X12_read_36, w_iv1, tfr_0, tfr_1, tfr_2, tfr_3, tfr_4, w_if_eq, w_ic, w_ire, trg, true_and, and_true, Nat.reduceAdd, Nat.reduceSub, eq_self, tshm_14, tshm_31, tshm_32, tykm_31, tykm_32, tci_15, tci_960, tykm_14, tci_14, tshm_667, tshm_668, tshm_669, tshm_670, tykm_33, tci_700, tsn_671, tyn_17, tcn_10, tzs_672, tzs_673, tzs_680, tzs_681, tzs_682, tzs_683, tzs_684, tzs_685, tzs_686, tzs_687, tzs_688, tzs_689, tzy_15, tzy_35, tzy_36, tzy_37, tzy_38, tzy_39, tzy_40, tzc_60, tzc_320, tzc_5, tzc_4, tzc_8]
    refine tc_i (D := 0) (fun d' hd' => o_fails (by omega)) (by omega) ?_
    rintro z M2 ⟨q2, rfl⟩
    try simp only [kb_X12_read_36, w_iv1, tfr_0, tfr_1, tfr_2, tfr_3, tfr_4, w_if_eq, w_ic, w_ire, trg, true_and, and_true, Nat.reduceAdd, Nat.reduceSub, eq_self, tshm_14, tshm_31, tshm_32, tykm_31, tykm_32, tci_15, tci_960, tykm_14, tci_14, tshm_667, tshm_668, tshm_669, tshm_670, tykm_33, tci_700, tsn_671, tyn_17, tcn_10, tzs_672, tzs_673, tzs_680, tzs_681, tzs_682, tzs_683, tzs_684, tzs_685, tzs_686, tzs_687, tzs_688, tzs_689, tzy_15, tzy_35, tzy_36, tzy_37, tzy_38, tzy_39, tzy_40, tzc_60, tzc_320, tzc_5, tzc_4, tzc_8]
    have h4 := MF_3 (v := v) q.1
    refine ⟨by omega, fun h => ?_, fun h => ⟨by omega, 0, rfl, rfl, h4.1, MC_tr q.2 h4.2⟩⟩
    rcases hv with ⟨hv0, hw, x, hV, hx⟩ | hv
    · obtain ⟨s, rfl⟩ : ∃ s : Nat, w = (s : Int) := ⟨w.toNat, by omega⟩
      have g0 := h4.1.2.1.2.1 0 (by omega) (by omega)
      have hV2 : Vr (tU M1 664 3 v) 9 x := Vr_same (fun k i g => tU_nk (by omega)) hV
      have e72 : tU M1 664 3 v 672 0 = M1 672 0 := tU_nk (by decide)
      rw [e72] at g0
      refine tb_X12_read_44 (c := false) ?_
      simp only [kb_X12_read_44, w_ald_0, w_bi, w_ild_2, w_gf_14_15, tw_f, w_ic, w_ca, w_ic_ne, w_goto, true_and, and_true, Nat.reduceAdd, Nat.reduceSub, eq_self, tshm_14, tshm_31, tshm_32, tykm_31, tykm_32, tci_15, tci_960, tykm_14, tci_14, tshm_667, tshm_668, tshm_669, tshm_670, tykm_33, tci_700, tsn_671, tyn_17, tcn_10, tzs_672, tzs_673, tzs_680, tzs_681, tzs_682, tzs_683, tzs_684, tzs_685, tzs_686, tzs_687, tzs_688, tzs_689, tzy_15, tzy_35, tzy_36, tzy_37, tzy_38, tzy_39, tzy_40, tzc_60, tzc_320, tzc_5, tzc_4, tzc_8, e72]
      refine ⟨by omega, by omega, fun h => ?_, fun h => n67 _ 1 x s ⟨h4.1, MC_tr q.2 h4.2⟩ g1 (by omega) hV2 hx (by omega)⟩
      refine tb_X12_read_66 (c := false) ?_
      simp only [kb_X12_read_66, w_ic, w_nil, true_and, and_true, Nat.reduceAdd, Nat.reduceSub, eq_self]
      exact n67 _ 0 x s ⟨h4.1, MC_tr q.2 h4.2⟩ g1 (by omega) hV2 hx (by omega)
    · exfalso; omega
  have n21 : ∀ M1 : tM, MF M1 D ∧ MC M M1 → (0 ≤ x1 ∧ x1 ≤ 9) → tT e d 3686 21 [some (.inr (.inr (.inl 664))), some (.inl x1), none] [] M1 n (tQi n (fun _ M' => MF M' D ∧ MC M M')) := by
    intro M1 q g1
    refine tb_X12_read_21 (c := false) ?_
    simp only [kb_X12_read_21, w_ald_0, w_iv0, tfr_0, tfr_1, tfr_2, tfr_3, tfr_4, w_ist_2, tkl_n, tkl_i, tkl_l, tkl_r, w_ild_2, w_if_ge, w_ic, w_goto, true_and, and_true, Nat.reduceAdd, Nat.reduceSub, eq_self, tshm_14, tshm_31, tshm_32, tykm_31, tykm_32, tci_15, tci_960, tykm_14, tci_14, tshm_667, tshm_668, tshm_669, tshm_670, tykm_33, tci_700, tsn_671, tyn_17, tcn_10, tzs_672, tzs_673, tzs_680, tzs_681, tzs_682, tzs_683, tzs_684, tzs_685, tzs_686, tzs_687, tzs_688, tzs_689, tzy_15, tzy_35, tzy_36, tzy_37, tzy_38, tzy_39, tzy_40, tzc_60, tzc_320, tzc_5, tzc_4, tzc_8]
    refine tc_i (D := 2) (fun d' hd' => o_scaleOf q.1.2.1 hd') (by omega) ?_
    rintro z M2 ⟨q2, q3, q4⟩
    have h4 := MF_r q.1 q4 (by unfold rSc; omega) (by unfold rSc; omega) (by unfold rSc; omega)
    try simp only [kb_X12_read_21, w_ald_0, w_iv0, tfr_0, tfr_1, tfr_2, tfr_3, tfr_4, w_ist_2, tkl_n, tkl_i, tkl_l, tkl_r, w_ild_2, w_if_ge, w_ic, w_goto, true_and, and_true, Nat.reduceAdd, Nat.reduceSub, eq_self, tshm_14, tshm_31, tshm_32, tykm_31, tykm_32, tci_15, tci_960, tykm_14, tci_14, tshm_667, tshm_668, tshm_669, tshm_670, tykm_33, tci_700, tsn_671, tyn_17, tcn_10, tzs_672, tzs_673, tzs_680, tzs_681, tzs_682, tzs_683, tzs_684, tzs_685, tzs_686, tzs_687, tzs_688, tzs_689, tzy_15, tzy_35, tzy_36, tzy_37, tzy_38, tzy_39, tzy_40, tzc_60, tzc_320, tzc_5, tzc_4, tzc_8]
    refine ⟨by omega, fun h => ?_, fun h => n36 M2 z 2 ⟨h4.1, MC_tr q.2 h4.2⟩ g1 (Or.inr rfl)⟩
    refine tb_X12_read_35 (c := false) ?_
    simp only [kb_X12_read_35, w_ic, w_nil, true_and, and_true, Nat.reduceAdd, Nat.reduceSub, eq_self]
    exact n36 M2 z 0 ⟨h4.1, MC_tr q.2 h4.2⟩ g1 (Or.inl ⟨rfl, by omega, q3 h⟩)
  have n13 : ∀ v : Int, (v = 0 ∧ (0 ≤ x1 ∧ x1 ≤ 9) ∨ v = 1) → tT e d 3686 13 [some (.inr (.inr (.inl 664))), some (.inl x1), none] [.inl v, .inr (.inr (.inl 664))] M n (tQi n (fun _ M' => MF M' D ∧ MC M M')) := by
    intro v hv
    refine tb_X12_read_13 (c := false) ?_
    simp only [kb_X12_read_13, w_iv1, tfr_0, tfr_1, tfr_2, tfr_3, tfr_4, w_if_eq, w_ic, w_ire, trg, true_and, and_true, Nat.reduceAdd, Nat.reduceSub, eq_self, tshm_14, tshm_31, tshm_32, tykm_31, tykm_32, tci_15, tci_960, tykm_14, tci_14, tshm_667, tshm_668, tshm_669, tshm_670, tykm_33, tci_700, tsn_671, tyn_17, tcn_10, tzs_672, tzs_673, tzs_680, tzs_681, tzs_682, tzs_683, tzs_684, tzs_685, tzs_686, tzs_687, tzs_688, tzs_689, tzy_15, tzy_35, tzy_36, tzy_37, tzy_38, tzy_39, tzy_40, tzc_60, tzc_320, tzc_5, tzc_4, tzc_8]
    refine tc_i (D := 0) (fun d' hd' => o_fails (by omega)) (by omega) ?_
    rintro z M2 ⟨q2, rfl⟩
    try simp only [kb_X12_read_13, w_iv1, tfr_0, tfr_1, tfr_2, tfr_3, tfr_4, w_if_eq, w_ic, w_ire, trg, true_and, and_true, Nat.reduceAdd, Nat.reduceSub, eq_self, tshm_14, tshm_31, tshm_32, tykm_31, tykm_32, tci_15, tci_960, tykm_14, tci_14, tshm_667, tshm_668, tshm_669, tshm_670, tykm_33, tci_700, tsn_671, tyn_17, tcn_10, tzs_672, tzs_673, tzs_680, tzs_681, tzs_682, tzs_683, tzs_684, tzs_685, tzs_686, tzs_687, tzs_688, tzs_689, tzy_15, tzy_35, tzy_36, tzy_37, tzy_38, tzy_39, tzy_40, tzc_60, tzc_320, tzc_5, tzc_4, tzc_8]
    have h4 := MF_3 (v := v) hP
    exact ⟨by omega, fun h => n21 _ h4 (by omega), fun h => ⟨by omega, 0, rfl, rfl, h4⟩⟩
  refine tb_X12_read_0 (c := false) ?_
  simp only [kb_X12_read_0, w_ald_0, w_ild_1, w_is1, tfr_0, tfr_1, tfr_2, tfr_3, tfr_4, w_if_eq, w_ic, w_goto, true_and, and_true, Nat.reduceAdd, Nat.reduceSub, eq_self]
  refine tc_i (D := 1) (fun d' hd' => o_isShelf h1 hd') (by omega) ?_
  rintro z1 M1 ⟨q1, rfl⟩
  try simp only [kb_X12_read_0, w_ald_0, w_ild_1, w_is1, tfr_0, tfr_1, tfr_2, tfr_3, tfr_4, w_if_eq, w_ic, w_goto, true_and, and_true, Nat.reduceAdd, Nat.reduceSub, eq_self]
  refine ⟨by omega, fun h => ?_, fun h => n13 0 (by omega)⟩
  refine tb_X12_read_12 (c := false) ?_
  simp only [kb_X12_read_12, w_ic, w_nil, true_and, and_true, Nat.reduceAdd, Nat.reduceSub, eq_self]
  exact n13 1 (by omega)
end MODEL
