/-! WHAT HOLDS BETWEEN CALLS: kept by sure and the checksum. -/
theorem tsh_663 : tsh 663 = 3 := by rw [tsh_def]; decide +kernel
theorem cl_663 : cl 663 3 := ⟨tsh_663, by decide⟩
theorem KA_s2 {M M1 : tM} (h : KW M) (f : BD 0 M M1 663) : KA M M1 := KA_f h f.1 f.2.1 (RO_u h.1.1.2 (f.2.2 79 4 (by decide)) (f.2.2 79 5 (by decide))) (fun k i g => f.2.2 k i (by unfold KPC at g; omega))
theorem RV_dn {u v : Int} (hu : UU u) (h : NF v) : RV (dnv u v) := by
  have hu1 := hu.1
  have g := dnv_r (u := u) (v := v) (by omega)
  unfold NF at h
  unfold RV
  omega
section TZL
variable {e : tE} {d mi a D n : Nat} {o : bO} {vs rest : List tV} {L : tL} {M : tM} {Q : tR → tM → Nat → Prop} {k : tL → List tV → tM → Nat → Prop}
theorem tz_l {P : Int → Prop} (h : ∀ d', D ≤ d' → sC e 2 d' a vs n (SQl n P)) (hC : CI M) (hd : D + 1 ≤ d) (hk : ∀ x, P x → k L (.inr (.inl x) :: rest) M n) : tcall e d mi a o vs rest L M n Q k :=
  ⟨d - 1, by omega, _, h (d - 1) (by omega) M hC trivial, fun v M' n' q => by obtain ⟨⟨-, c2⟩, x, q1, rfl, q2⟩ := q; cases q1; rw [pE_2 c2]; exact hk x q2, fun v M' n' q => by obtain ⟨-, x, q1, q2⟩ := q; cases q1⟩
end TZL
section HAND
variable {e : tE} {d n : Nat} {M : tM}
theorem v_sure {x1 : Int} (h1 : (-2147483648 ≤ x1 ∧ x1 ≤ 2147483647)) (hK : KW M) (hC : CI M) (hd : 4 ≤ d) : tC e d 3393 [.inr (.inr (.inl 0)), .inl x1] M n (tQx n (tQi n (fun z M' => (-2147483648 ≤ z ∧ z ≤ 2147483647) ∧ KA M M')) (fun _ M' => KA M M')) := by
  refine tst_X11_sure ?_
  refine tb_X11_sure_0 (c := true) ?_
  simp only [kb_X11_sure_0, w_ald_0, w_ild_1, w_iv1, tfr_0, tfr_1, tfr_2, tfr_3, tfr_4, w_gf_13_3, tw_t, w_ast_2, tkl_n, tkl_i, tkl_l, tkl_r, w_bi, w_ist_3, w_nil, w64_r, true_and, and_true, Nat.reduceAdd, Nat.reduceSub, eq_self, tsh_0, tyk_13, tcq_13, tsx_1, tsx_3, tyx_12, tcx_12, tsh_5, tyk_11, tcq_11, tyk_4, tcq_4, tyk_3, tcq_3, tsh_662, tsh_663]
  refine tz_xn (D := 0) (fun d' hd' => k_X11_checkShelf cl_0 h1 hd') hC (by omega) rfl ?_ (fun s q => Or.inr ⟨_, rfl, rfl, KA_refl hC hK⟩)
  intro a1
  try simp only [kb_X11_sure_0, w_ald_0, w_ild_1, w_iv1, tfr_0, tfr_1, tfr_2, tfr_3, tfr_4, w_gf_13_3, tw_t, w_ast_2, tkl_n, tkl_i, tkl_l, tkl_r, w_bi, w_ist_3, w_nil, w64_r, true_and, and_true, Nat.reduceAdd, Nat.reduceSub, eq_self, tsh_0, tyk_13, tcq_13, tsx_1, tsx_3, tyx_12, tcx_12, tsh_5, tyk_11, tcq_11, tyk_4, tcq_4, tyk_3, tcq_3, tsh_662, tsh_663]
  refine tz_xn (D := 2) (fun d' hd' => k_X11_checkHeld cl_0 h1 hd') hC (by omega) rfl ?_ (fun s q => Or.inr ⟨_, rfl, rfl, KA_refl hC hK⟩)
  intro _
  obtain ⟨i, rfl⟩ : ∃ k : Nat, x1 = (k : Int) := ⟨x1.toNat, by omega⟩
  have ck := cl_sh (s := i) (by omega)
  have ci := ck.1
  have cb := (bxl_2 ck).1
  have cc := (bxl_1 ck).1
  try simp only [kb_X11_sure_0, w_ald_0, w_ild_1, w_iv1, tfr_0, tfr_1, tfr_2, tfr_3, tfr_4, w_gf_13_3, tw_t, w_ast_2, tkl_n, tkl_i, tkl_l, tkl_r, w_bi, w_ist_3, w_nil, w64_r, true_and, and_true, Nat.reduceAdd, Nat.reduceSub, eq_self, tsh_0, tyk_13, tcq_13, tsx_1, tsx_3, tyx_12, tcx_12, tsh_5, tyk_11, tcq_11, tyk_4, tcq_4, tyk_3, tcq_3, tsh_662, tsh_663]
  refine tc_r (D := 1) (fun d' hd' => z_box (s := i) (by omega) hd') (by omega) ?_
  rintro y M2 ⟨rfl, rfl⟩
  try simp only [kb_X11_sure_0, w_ald_0, w_ild_1, w_iv1, tfr_0, tfr_1, tfr_2, tfr_3, tfr_4, w_gf_13_3, tw_t, w_ast_2, tkl_n, tkl_i, tkl_l, tkl_r, w_bi, w_ist_3, w_nil, w64_r, true_and, and_true, Nat.reduceAdd, Nat.reduceSub, eq_self, tsh_0, tyk_13, tcq_13, tsx_1, tsx_3, tyx_12, tcx_12, tsh_5, tyk_11, tcq_11, tyk_4, tcq_4, tyk_3, tcq_3, tsh_662, tsh_663, ci, cb, cc]
  have nl : ∀ (m : Nat) (N : tM), m ≤ 11 → KA M2 N → tT e d 3393 22 [some (.inr (.inr (.inl (0)))), some (.inl ((i : Int))), some (.inr (.inr (.inl (8 + 3 * i)))), some (.inl ((m : Int) - 1))] [] N n (tQx n (tQi n (fun z M' => (-2147483648 ≤ z ∧ z ≤ 2147483647) ∧ KA M2 M')) (fun _ M' => KA M2 M')) := by
    intro m
    induction m with
    | zero =>
      intro N hm kN
      refine tb_X11_sure_22 (c := true) ?_
      simp only [kb_X11_sure_22, w_ild_3, w_if_lt, w_ald_0, w_gf_13_15, tw_t, w_ald_2, w_gf_4_0, w_iv1, tfr_0, tfr_1, tfr_2, tfr_3, tfr_4, w_is1, w_gf_13_16, w_gf_4_1, w_if_ne, w_ire, trg, w64_r, true_and, and_true, Nat.reduceAdd, Nat.reduceSub, eq_self, tsh_0, tyk_13, tcq_13, tsx_1, tsx_3, tyx_12, tcx_12, tsh_5, tyk_11, tcq_11, tyk_4, tcq_4, tyk_3, tcq_3, tsh_662, tsh_663]
      repeat refine And.intro (by omega) ?_
      refine ⟨fun _ => ?_, fun q => absurd (by omega) q⟩
      refine tb_X11_sure_92 (c := true) ?_
      simp only [kb_X11_sure_92, w_ic, w_ire, trg, w64_r, true_and, and_true, Nat.reduceAdd, Nat.reduceSub, eq_self]
      exact Or.inl ⟨_, rfl, rfl, by decide, kN⟩
    | succ m ih =>
      intro N hm kN
      obtain ⟨v, v1, v2⟩ := kN.2.1.2.1 i (by omega)
      have hu := un_UU (D := (m : Int)) (by omega)
      rw [show ((m + 1 : Nat) : Int) - 1 = (m : Int) by omega]
      refine tb_X11_sure_22 (c := true) ?_
      simp only [kb_X11_sure_22, w_ild_3, w_if_lt, w_ald_0, w_gf_13_15, tw_t, w_ald_2, w_gf_4_0, w_iv1, tfr_0, tfr_1, tfr_2, tfr_3, tfr_4, w_is1, w_gf_13_16, w_gf_4_1, w_if_ne, w_ire, trg, w64_r, true_and, and_true, Nat.reduceAdd, Nat.reduceSub, eq_self, tsh_0, tyk_13, tcq_13, tsx_1, tsx_3, tyx_12, tcx_12, tsh_5, tyk_11, tcq_11, tyk_4, tcq_4, tyk_3, tcq_3, tsh_662, tsh_663, ci, cb, cc]
      repeat refine And.intro (by omega) ?_
      first | refine ⟨fun q => absurd q (by omega), fun _ => ?_⟩ | refine fun _ => ?_
      refine tc_n (D := 0) (fun d' hd' => y_copy (b := 0) cl_662 (bxl_1 ck) v1.1 (Or.inl (by decide)) kN.1.1) (by omega) ?_
      rintro N1 ⟨p1, f1⟩
      have k1 := KA_s kN.2 f1
      try simp only [kb_X11_sure_22, w_ild_3, w_if_lt, w_ald_0, w_gf_13_15, tw_t, w_ald_2, w_gf_4_0, w_iv1, tfr_0, tfr_1, tfr_2, tfr_3, tfr_4, w_is1, w_gf_13_16, w_gf_4_1, w_if_ne, w_ire, trg, w64_r, true_and, and_true, Nat.reduceAdd, Nat.reduceSub, eq_self, tsh_0, tyk_13, tcq_13, tsx_1, tsx_3, tyx_12, tcx_12, tsh_5, tyk_11, tcq_11, tyk_4, tcq_4, tyk_3, tcq_3, tsh_662, tsh_663, ci, cb, cc]
      refine tc_l (D := 0) (fun d' hd' => t_unitOf (by omega)) (by omega) ?_
      rintro u N2 ⟨rfl, rfl⟩
      have hu1 := hu.1
      try simp only [kb_X11_sure_22, w_ild_3, w_if_lt, w_ald_0, w_gf_13_15, tw_t, w_ald_2, w_gf_4_0, w_iv1, tfr_0, tfr_1, tfr_2, tfr_3, tfr_4, w_is1, w_gf_13_16, w_gf_4_1, w_if_ne, w_ire, trg, w64_r, true_and, and_true, Nat.reduceAdd, Nat.reduceSub, eq_self, tsh_0, tyk_13, tcq_13, tsx_1, tsx_3, tyx_12, tcx_12, tsh_5, tyk_11, tcq_11, tyk_4, tcq_4, tyk_3, tcq_3, tsh_662, tsh_663, ci, cb, cc]
      repeat refine And.intro (by omega) ?_
      refine tc_n (D := 0) (fun d' hd' => y_roundDown (b := 0) cl_662 p1 (RV_g v2).1 hu (Or.inl (by decide)) k1.1.1) (by omega) ?_
      rintro N3 ⟨p3, f3⟩
      have k3 := KA_s k1.2 f3
      try simp only [kb_X11_sure_22, w_ild_3, w_if_lt, w_ald_0, w_gf_13_15, tw_t, w_ald_2, w_gf_4_0, w_iv1, tfr_0, tfr_1, tfr_2, tfr_3, tfr_4, w_is1, w_gf_13_16, w_gf_4_1, w_if_ne, w_ire, trg, w64_r, true_and, and_true, Nat.reduceAdd, Nat.reduceSub, eq_self, tsh_0, tyk_13, tcq_13, tsx_1, tsx_3, tyx_12, tcx_12, tsh_5, tyk_11, tcq_11, tyk_4, tcq_4, tyk_3, tcq_3, tsh_662, tsh_663, ci, cb, cc]
      refine tc_n (D := 0) (fun d' hd' => y_copy (b := 0) cl_663 (bxl_2 ck) (BB_u v1.2 (fun j => (f3.2.2 _ _ (by omega)).trans (f1.2.2 _ _ (by omega)))) (Or.inl (by decide)) k3.1.1) (by omega) ?_
      rintro N4 ⟨p4, f4⟩
      have k4 := KA_s2 k3.2 f4
      try simp only [kb_X11_sure_22, w_ild_3, w_if_lt, w_ald_0, w_gf_13_15, tw_t, w_ald_2, w_gf_4_0, w_iv1, tfr_0, tfr_1, tfr_2, tfr_3, tfr_4, w_is1, w_gf_13_16, w_gf_4_1, w_if_ne, w_ire, trg, w64_r, true_and, and_true, Nat.reduceAdd, Nat.reduceSub, eq_self, tsh_0, tyk_13, tcq_13, tsx_1, tsx_3, tyx_12, tcx_12, tsh_5, tyk_11, tcq_11, tyk_4, tcq_4, tyk_3, tcq_3, tsh_662, tsh_663, ci, cb, cc]
      refine tc_l (D := 0) (fun d' hd' => t_unitOf (by omega)) (by omega) ?_
      rintro u N5 ⟨rfl, rfl⟩
      try simp only [kb_X11_sure_22, w_ild_3, w_if_lt, w_ald_0, w_gf_13_15, tw_t, w_ald_2, w_gf_4_0, w_iv1, tfr_0, tfr_1, tfr_2, tfr_3, tfr_4, w_is1, w_gf_13_16, w_gf_4_1, w_if_ne, w_ire, trg, w64_r, true_and, and_true, Nat.reduceAdd, Nat.reduceSub, eq_self, tsh_0, tyk_13, tcq_13, tsx_1, tsx_3, tyx_12, tcx_12, tsh_5, tyk_11, tcq_11, tyk_4, tcq_4, tyk_3, tcq_3, tsh_662, tsh_663, ci, cb, cc]
      repeat refine And.intro (by omega) ?_
      refine tc_n (D := 0) (fun d' hd' => y_roundDown (b := 0) cl_663 p4 (RV_g v2).2 hu (Or.inl (by decide)) k4.1.1) (by omega) ?_
      rintro N6 ⟨p6, f6⟩
      have k6 := KA_s2 k4.2 f6
      try simp only [kb_X11_sure_22, w_ild_3, w_if_lt, w_ald_0, w_gf_13_15, tw_t, w_ald_2, w_gf_4_0, w_iv1, tfr_0, tfr_1, tfr_2, tfr_3, tfr_4, w_is1, w_gf_13_16, w_gf_4_1, w_if_ne, w_ire, trg, w64_r, true_and, and_true, Nat.reduceAdd, Nat.reduceSub, eq_self, tsh_0, tyk_13, tcq_13, tsx_1, tsx_3, tyx_12, tcx_12, tsh_5, tyk_11, tcq_11, tyk_4, tcq_4, tyk_3, tcq_3, tsh_662, tsh_663, ci, cb, cc]
      refine tc_i (D := 1) (fun d' hd' => y_against cl_662 cl_663 (BB_u p3 (fun j => (f6.2.2 _ _ (by decide)).trans (f4.2.2 _ _ (by decide)))) p6 (RV_dn hu v2.1.1) (RV_dn hu v2.1.2) hd') (by omega) ?_
      rintro z7 N7 ⟨⟨_, _, hz7⟩, rfl⟩
      have kk : KA M2 N7 := KA_tr (pE_tr kN.1.2 (pE_tr k1.1.2 (pE_tr k3.1.2 k4.1.2))) k6
      try simp only [kb_X11_sure_22, w_ild_3, w_if_lt, w_ald_0, w_gf_13_15, tw_t, w_ald_2, w_gf_4_0, w_iv1, tfr_0, tfr_1, tfr_2, tfr_3, tfr_4, w_is1, w_gf_13_16, w_gf_4_1, w_if_ne, w_ire, trg, w64_r, true_and, and_true, Nat.reduceAdd, Nat.reduceSub, eq_self, tsh_0, tyk_13, tcq_13, tsx_1, tsx_3, tyx_12, tcx_12, tsh_5, tyk_11, tcq_11, tyk_4, tcq_4, tyk_3, tcq_3, tsh_662, tsh_663, ci, cb, cc]
      repeat refine And.intro (by omega) ?_
      refine ⟨fun _ => ?_, fun _ => Or.inl ⟨_, rfl, rfl, by omega, kk⟩⟩
      refine tb_X11_sure_86 (c := true) ?_
      simp only [kb_X11_sure_86, w_inc3, tkl_n, tkl_i, tkl_l, tkl_r, w_goto, w64_r, true_and, and_true, Nat.reduceAdd, Nat.reduceSub, eq_self]
      repeat refine And.intro (by omega) ?_
      rw [show (m : Int) + -1 = (m : Int) - 1 by omega]
      exact ih N7 (by omega) kk
  exact nl 11 M2 (by decide) (KA_refl hC hK)
theorem v_checksum (hK : KW M) (hC : CI M) (hd : 3 ≤ d) : tC e d 3347 [.inr (.inr (.inl 0))] M n (fun _ M' _ => KA M M') := by
  have hz := z00 hC
  refine tst_X11_checksum ?_
  have n104 : ∀ (N : tM) (s : Int) (w : Option tV), (-9223372036854775808 ≤ s ∧ s < 9223372036854775808) → KA M N → tT e d 3347 104 [some (.inr (.inr (.inl (0)))), some (.inr (.inl (s))), none, w] [] N n (fun _ M' _ => KA M M') := by
    intro N s w hs kN
    refine tb_X11_checksum_104 (c := true) ?_
    simp only [kb_X11_checksum_104, w_ald_0, w_gf_13_1, tw_t, w_lld_1, w_iv1, tfr_0, tfr_1, tfr_2, tfr_3, tfr_4, w_lre, w64_r, true_and, and_true, Nat.reduceAdd, Nat.reduceSub, eq_self, tsh_0, tyk_13, tcq_13, tsx_1, tsx_3, tyx_12, tcx_12, tsh_5, tyk_11, tcq_11, tyk_4, tcq_4, tyk_3, tcq_3, tsh_662, tsh_663]
    repeat refine And.intro (by omega) ?_
    refine tz_l (D := 0) (fun d' hd' => k_X10_addedTo (TX_of (T := 1) (Or.inl rfl)).2.2 hs hd') kN.1.1 (by omega) ?_
    intro x hx
    try simp only [kb_X11_checksum_104, w_ald_0, w_gf_13_1, tw_t, w_lld_1, w_iv1, tfr_0, tfr_1, tfr_2, tfr_3, tfr_4, w_lre, w64_r, true_and, and_true, Nat.reduceAdd, Nat.reduceSub, eq_self, tsh_0, tyk_13, tcq_13, tsx_1, tsx_3, tyx_12, tcx_12, tsh_5, tyk_11, tcq_11, tyk_4, tcq_4, tyk_3, tcq_3, tsh_662, tsh_663]
    exact kN
  have nl : ∀ (fu : Nat) (N : tM) (i : Nat) (s : Int), 10 - i = fu → i ≤ 10 → (-9223372036854775808 ≤ s ∧ s < 9223372036854775808) → KA M N → tT e d 3347 12 [some (.inr (.inr (.inl (0)))), some (.inr (.inl (s))), none, some (.inl ((i : Int)))] [] N n (fun _ M' _ => KA M M') := by
    intro fu
    induction fu with
    | zero =>
      intro N i s hf hi hs kN
      refine tb_X11_checksum_12 (c := true) ?_
      simp only [kb_X11_checksum_12, w_ild_3, w_bi, w_ic_ge, w_ald_0, w_gf_13_3, tw_t, w_iv1, tfr_0, tfr_1, tfr_2, tfr_3, tfr_4, w_if_eq, w_gf_13_2, w_gf_4_0, w_lld_1, w_ld2, w_lmul, w_lc1, w_ladd, w_lst_1, tkl_n, tkl_i, tkl_l, tkl_r, w_gf_4_1, w_goto, w64_r, true_and, and_true, Nat.reduceAdd, Nat.reduceSub, eq_self, tsh_0, tyk_13, tcq_13, tsx_1, tsx_3, tyx_12, tcx_12, tsh_5, tyk_11, tcq_11, tyk_4, tcq_4, tyk_3, tcq_3, tsh_662, tsh_663]
      repeat refine And.intro (by omega) ?_
      refine ⟨fun _ => n104 N s _ hs kN, fun q => absurd (by omega) q⟩
    | succ fu ih =>
      intro N i s hf hi hs kN
      have n98 : ∀ (N2 : tM) (s2 : Int), (-9223372036854775808 ≤ s2 ∧ s2 < 9223372036854775808) → KA M N2 → tT e d 3347 98 [some (.inr (.inr (.inl (0)))), some (.inr (.inl (s2))), none, some (.inl ((i : Int)))] [] N2 n (fun _ M' _ => KA M M') := by
        intro N2 s2 hs2 k2
        refine tb_X11_checksum_98 (c := true) ?_
        simp only [kb_X11_checksum_98, w_inc3, tkl_n, tkl_i, tkl_l, tkl_r, w_goto, w64_r, true_and, and_true, Nat.reduceAdd, Nat.reduceSub, eq_self]
        repeat refine And.intro (by omega) ?_
        rw [show ((i : Nat) : Int) + 1 = ((i + 1 : Nat) : Int) by omega]
        exact ih N2 (i + 1) s2 (by omega) (by omega) hs2 k2
      have ck := cl_sh (s := i) (by omega)
      have ci := ck.1
      have cb := (bxl_2 ck).1
      have cc := (bxl_1 ck).1
      obtain ⟨v, v1, v2⟩ := kN.2.1.2.1 i (by omega)
      refine tb_X11_checksum_12 (c := true) ?_
      simp only [kb_X11_checksum_12, w_ild_3, w_bi, w_ic_ge, w_ald_0, w_gf_13_3, tw_t, w_iv1, tfr_0, tfr_1, tfr_2, tfr_3, tfr_4, w_if_eq, w_gf_13_2, w_gf_4_0, w_lld_1, w_ld2, w_lmul, w_lc1, w_ladd, w_lst_1, tkl_n, tkl_i, tkl_l, tkl_r, w_gf_4_1, w_goto, w64_r, true_and, and_true, Nat.reduceAdd, Nat.reduceSub, eq_self, tsh_0, tyk_13, tcq_13, tsx_1, tsx_3, tyx_12, tcx_12, tsh_5, tyk_11, tcq_11, tyk_4, tcq_4, tyk_3, tcq_3, tsh_662, tsh_663]
      repeat refine And.intro (by omega) ?_
      first | refine ⟨fun q => absurd q (by omega), fun _ => ?_⟩ | refine fun _ => ?_
      repeat refine And.intro (by omega) ?_
      refine tz_i (D := 1) (fun d' hd' => k_X9_holds cl_5 (by omega) hd') kN.1.1 (by omega) ?_
      intro z hz2
      try simp only [kb_X11_checksum_12, w_ild_3, w_bi, w_ic_ge, w_ald_0, w_gf_13_3, tw_t, w_iv1, tfr_0, tfr_1, tfr_2, tfr_3, tfr_4, w_if_eq, w_gf_13_2, w_gf_4_0, w_lld_1, w_ld2, w_lmul, w_lc1, w_ladd, w_lst_1, tkl_n, tkl_i, tkl_l, tkl_r, w_gf_4_1, w_goto, w64_r, true_and, and_true, Nat.reduceAdd, Nat.reduceSub, eq_self, tsh_0, tyk_13, tcq_13, tsx_1, tsx_3, tyx_12, tcx_12, tsh_5, tyk_11, tcq_11, tyk_4, tcq_4, tyk_3, tcq_3, tsh_662, tsh_663]
      repeat refine And.intro (by omega) ?_
      refine ⟨fun _ => ?_, fun _ => ?_⟩
      · refine tb_X11_checksum_92 (c := true) ?_
        simp only [kb_X11_checksum_92, w_lld_1, w_ld2, w_lmul, tw_t, w_lst_1, tkl_n, tkl_i, tkl_l, tkl_r, w_nil, w64_r, true_and, and_true, Nat.reduceAdd, Nat.reduceSub, eq_self]
        repeat refine And.intro (by omega) ?_
        exact n98 N _ (by unfold w64; omega) kN
      refine tc_r (D := 1) (fun d' hd' => z_box (s := i) (by omega) hd') (by omega) ?_
      rintro y N2 ⟨rfl, rfl⟩
      try simp only [kb_X11_checksum_12, w_ild_3, w_bi, w_ic_ge, w_ald_0, w_gf_13_3, tw_t, w_iv1, tfr_0, tfr_1, tfr_2, tfr_3, tfr_4, w_if_eq, w_gf_13_2, w_gf_4_0, w_lld_1, w_ld2, w_lmul, w_lc1, w_ladd, w_lst_1, tkl_n, tkl_i, tkl_l, tkl_r, w_gf_4_1, w_goto, w64_r, true_and, and_true, Nat.reduceAdd, Nat.reduceSub, eq_self, tsh_0, tyk_13, tcq_13, tsx_1, tsx_3, tyx_12, tcx_12, tsh_5, tyk_11, tcq_11, tyk_4, tcq_4, tyk_3, tcq_3, tsh_662, tsh_663, ci, cb, cc]
      refine tc_n (D := 1) (fun d' hd' => z_twrite (Or.inr rfl) (bxl_1 ck) (by omega) v1.1 (WF_n v2.1.1) kN.1.1 hd') (by omega) ?_
      rintro N3 f3
      have k3 := KA_tr kN.1.2 (KA_tx kN.2 f3)
      try simp only [kb_X11_checksum_12, w_ild_3, w_bi, w_ic_ge, w_ald_0, w_gf_13_3, tw_t, w_iv1, tfr_0, tfr_1, tfr_2, tfr_3, tfr_4, w_if_eq, w_gf_13_2, w_gf_4_0, w_lld_1, w_ld2, w_lmul, w_lc1, w_ladd, w_lst_1, tkl_n, tkl_i, tkl_l, tkl_r, w_gf_4_1, w_goto, w64_r, true_and, and_true, Nat.reduceAdd, Nat.reduceSub, eq_self, tsh_0, tyk_13, tcq_13, tsx_1, tsx_3, tyx_12, tcx_12, tsh_5, tyk_11, tcq_11, tyk_4, tcq_4, tyk_3, tcq_3, tsh_662, tsh_663, ci, cb, cc]
      repeat refine And.intro (by omega) ?_
      refine tz_l (D := 0) (fun d' hd' => k_X10_addedTo (TX_of (T := 3) (Or.inr rfl)).2.2 (by unfold w64; omega) hd') k3.1.1 (by omega) ?_
      intro x hx
      try simp only [kb_X11_checksum_12, w_ild_3, w_bi, w_ic_ge, w_ald_0, w_gf_13_3, tw_t, w_iv1, tfr_0, tfr_1, tfr_2, tfr_3, tfr_4, w_if_eq, w_gf_13_2, w_gf_4_0, w_lld_1, w_ld2, w_lmul, w_lc1, w_ladd, w_lst_1, tkl_n, tkl_i, tkl_l, tkl_r, w_gf_4_1, w_goto, w64_r, true_and, and_true, Nat.reduceAdd, Nat.reduceSub, eq_self, tsh_0, tyk_13, tcq_13, tsx_1, tsx_3, tyx_12, tcx_12, tsh_5, tyk_11, tcq_11, tyk_4, tcq_4, tyk_3, tcq_3, tsh_662, tsh_663, ci, cb, cc]
      refine tc_r (D := 1) (fun d' hd' => z_box (s := i) (by omega) hd') (by omega) ?_
      rintro y N4 ⟨rfl, rfl⟩
      try simp only [kb_X11_checksum_12, w_ild_3, w_bi, w_ic_ge, w_ald_0, w_gf_13_3, tw_t, w_iv1, tfr_0, tfr_1, tfr_2, tfr_3, tfr_4, w_if_eq, w_gf_13_2, w_gf_4_0, w_lld_1, w_ld2, w_lmul, w_lc1, w_ladd, w_lst_1, tkl_n, tkl_i, tkl_l, tkl_r, w_gf_4_1, w_goto, w64_r, true_and, and_true, Nat.reduceAdd, Nat.reduceSub, eq_self, tsh_0, tyk_13, tcq_13, tsx_1, tsx_3, tyx_12, tcx_12, tsh_5, tyk_11, tcq_11, tyk_4, tcq_4, tyk_3, tcq_3, tsh_662, tsh_663, ci, cb, cc]
      refine tc_n (D := 1) (fun d' hd' => z_twrite (Or.inr rfl) (bxl_2 ck) (by omega) (BB_u v1.2 (fun j => f3.2 _ _ (by omega))) (WF_n v2.1.2) k3.1.1 hd') (by omega) ?_
      rintro N5 f5
      have k5 := KA_tr k3.1.2 (KA_tx k3.2 f5)
      try simp only [kb_X11_checksum_12, w_ild_3, w_bi, w_ic_ge, w_ald_0, w_gf_13_3, tw_t, w_iv1, tfr_0, tfr_1, tfr_2, tfr_3, tfr_4, w_if_eq, w_gf_13_2, w_gf_4_0, w_lld_1, w_ld2, w_lmul, w_lc1, w_ladd, w_lst_1, tkl_n, tkl_i, tkl_l, tkl_r, w_gf_4_1, w_goto, w64_r, true_and, and_true, Nat.reduceAdd, Nat.reduceSub, eq_self, tsh_0, tyk_13, tcq_13, tsx_1, tsx_3, tyx_12, tcx_12, tsh_5, tyk_11, tcq_11, tyk_4, tcq_4, tyk_3, tcq_3, tsh_662, tsh_663, ci, cb, cc]
      refine tz_l (D := 0) (fun d' hd' => k_X10_addedTo (TX_of (T := 3) (Or.inr rfl)).2.2 hx hd') k5.1.1 (by omega) ?_
      intro x2 hx2
      try simp only [kb_X11_checksum_12, w_ild_3, w_bi, w_ic_ge, w_ald_0, w_gf_13_3, tw_t, w_iv1, tfr_0, tfr_1, tfr_2, tfr_3, tfr_4, w_if_eq, w_gf_13_2, w_gf_4_0, w_lld_1, w_ld2, w_lmul, w_lc1, w_ladd, w_lst_1, tkl_n, tkl_i, tkl_l, tkl_r, w_gf_4_1, w_goto, w64_r, true_and, and_true, Nat.reduceAdd, Nat.reduceSub, eq_self, tsh_0, tyk_13, tcq_13, tsx_1, tsx_3, tyx_12, tcx_12, tsh_5, tyk_11, tcq_11, tyk_4, tcq_4, tyk_3, tcq_3, tsh_662, tsh_663, ci, cb, cc]
      exact n98 N5 x2 hx2 k5
  refine tb_X11_checksum_0 (c := true) ?_
  simp only [kb_X11_checksum_0, w_ld2, w_ald_0, w_gf_13_0, tw_t, w_i2l, w_ladd, w_lst_1, tkl_n, tkl_i, tkl_l, tkl_r, w_ic, w_ist_3, w_nil, w64_r, true_and, and_true, Nat.reduceAdd, Nat.reduceSub, eq_self, tsh_0, tyk_13, tcq_13, tsx_1, tsx_3, tyx_12, tcx_12, tsh_5, tyk_11, tcq_11, tyk_4, tcq_4, tyk_3, tcq_3, tsh_662, tsh_663]
  repeat refine And.intro (by omega) ?_
  rw [w64_e (x := 217 + M 0 0) (by omega)]
  exact nl 10 M 0 _ rfl (by decide) (by omega) (KA_refl hC hK)
end HAND
