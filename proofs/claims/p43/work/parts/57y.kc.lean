/-! WHAT HOLDS BETWEEN CALLS: kept by what only writes a text. -/
/-- only the texts change -/
def TXF (M M' : tM) : Prop := (CI M' ∧ pE 0 M M') ∧ ∀ (k : Nat) (i : Int), (k < 1 ∨ 4 < k) → M' k i = M k i
theorem TXF_refl {M : tM} (hC : CI M) : TXF M M := ⟨⟨hC, pE_refl⟩, fun _ _ _ => rfl⟩
theorem TXF_tr {M M1 M2 : tM} (h1 : TXF M M1) (h2 : TXF M1 M2) : TXF M M2 := ⟨⟨h2.1.1, pE_tr h1.1.2 h2.1.2⟩, fun k i g => (h2.2 k i g).trans (h1.2 k i g)⟩
theorem KA_tx {M M1 : tM} (h : KW M) (f : TXF M M1) : KA M M1 := KA_f h f.1.1 f.1.2 (RO_u h.1.1.2 (f.2 79 4 (by decide)) (f.2 79 5 (by decide))) (fun k i g => f.2 k i (by unfold KPC at g; omega))
theorem tsx_1 : tsh 1 = 12 := by rw [tsh_def]; decide +kernel
theorem tsx_2 : tsh 2 = 15 := by rw [tsh_def]; decide +kernel
theorem tsx_3 : tsh 3 = 12 := by rw [tsh_def]; decide +kernel
theorem tsx_4 : tsh 4 = 15 := by rw [tsh_def]; decide +kernel
theorem tyx_12 : tyk 12 = (0, 12, 2) := rfl
theorem tyx_15 : tyk 15 = (1, 0, 60) := rfl
theorem tcx_12 : ((12 : Nat) : Int) = 12 := rfl
theorem TX_of {T : Nat} (h : T = 1 ∨ T = 3) : tsh T = 12 ∧ tsh (T + 1) = 15 ∧ cl T 12 := by
  rcases h with rfl | rfl
  · exact ⟨tsx_1, tsx_2, tsx_1, by decide⟩
  · exact ⟨tsx_3, tsx_4, tsx_3, by decide⟩
section HAND
variable {e : tE} {d n : Nat} {M : tM}
theorem z_tclear {T : Nat} (hT : T = 1 ∨ T = 3) (hC : CI M) : tC e d 3076 [.inr (.inr (.inl T))] M n (tQn n (fun M' => TXF M M')) := by
  obtain ⟨h1, h2, h3⟩ := TX_of hT
  refine tst_X10_clear ?_
  refine tb_X10_clear_0 (c := true) ?_
  simp only [kb_X10_clear_0, w_ald_0, w_ic, w_pf_12_1, w_re, w64_r, true_and, and_true, Nat.reduceAdd, Nat.reduceSub, eq_self, tyx_12, tyx_15, tcx_12, h1]
  have c2 : CI (tU M T 1 0) := CI_put hC h1 (fun _ => by show (0 : Int) ≤ 0 ∧ (0 : Int) ≤ 60; decide)
  have p2 : pE 0 M (tU M T 1 0) := pE_put (prt_f (a := 12) (f := 1) (Or.inl (by decide)) h3 (by decide) (fun q => absurd q (by decide)) (by decide))
  exact ⟨rfl, rfl, ⟨c2, p2⟩, fun k i q => tU_nk (by omega)⟩
theorem z_tapp {T : Nat} {ch : Int} (hT : T = 1 ∨ T = 3) (hc : 0 ≤ ch ∧ ch ≤ 65535) (hC : CI M) : tC e d 3074 [.inr (.inr (.inl T)), .inl ch] M n (tQn n (fun M' => TXF M M')) := by
  obtain ⟨h1, h2, h3⟩ := TX_of hT
  have hr := CI_i (f := 1) hC h3 rfl
  have hr : 0 ≤ M T 1 ∧ M T 1 ≤ 60 := hr
  refine tst_X10_append ?_
  refine tb_X10_append_0 (c := true) ?_
  simp only [kb_X10_append_0, w_ald_0, w_gf_12_1, tw_t, w_bi, w_ic_ge, w_gf_12_0, w_ild_1, w_cas, w_dupi, w_dupr, w_ic, w_iadd, w_pf_12_1, w_nil, w64_r, true_and, and_true, Nat.reduceAdd, Nat.reduceSub, eq_self, tyx_12, tyx_15, tcx_12, h1, h2]
  repeat refine And.intro (by omega) ?_
  refine ⟨fun _ => ?_, fun g => ?_⟩
  · refine tb_X10_append_29 (c := true) ?_
    simp only [kb_X10_append_29, w_re, w64_r, true_and, and_true, Nat.reduceAdd, Nat.reduceSub, eq_self]
    exact ⟨rfl, rfl, TXF_refl hC⟩
  repeat refine And.intro (by omega) ?_
  have c2 : CI (tU M (T + 1) (M T 1) ch) := CI_put hC h2 (fun _ => by show 0 ≤ ch ∧ ch ≤ 65535; exact hc)
  have p2 : pE 0 M (tU M (T + 1) (M T 1) ch) := pE_put (prt_a (t := 0) (Or.inl (by decide)) ⟨by omega, by rw [h2]; rfl, by omega, by rw [h2]; show _ < (60 : Int); omega⟩ (by decide) (fun _ => rfl))
  have u2 : ∀ (k : Nat) (i : Int), k ≠ T + 1 → tU M (T + 1) (M T 1) ch k i = M k i := fun k i q => tU_nk q
  generalize tU M (T + 1) (M T 1) ch = M2 at *
  have t2 : M2 T 1 = M T 1 := u2 T 1 (by omega)
  rw [t2]
  repeat refine And.intro (by omega) ?_
  have c3 : CI (tU M2 T 1 (M T 1 + 1)) := CI_put c2 h1 (fun _ => by show 0 ≤ M T 1 + 1 ∧ M T 1 + 1 ≤ 60; omega)
  have p3 : pE 0 M2 (tU M2 T 1 (M T 1 + 1)) := pE_put (prt_f (a := 12) (f := 1) (Or.inl (by decide)) h3 (by decide) (fun q => absurd q (by decide)) (by decide))
  refine ⟨fun _ => ⟨hc.1, by rw [if_pos trivial]; exact hc.2⟩, ?_⟩
  refine tb_X10_append_29 (c := true) ?_
  simp only [kb_X10_append_29, w_re, w64_r, true_and, and_true, Nat.reduceAdd, Nat.reduceSub, eq_self]
  exact ⟨rfl, rfl, ⟨c3, pE_tr p2 p3⟩, fun k i q => (tU_nk (by omega)).trans (u2 k i (by omega))⟩
theorem tz_dv {x t : Int} (hx : 0 ≤ x) (ht : 0 < t) : (x.tdiv t = x / t ∧ x.tmod t = x % t) ∧ (0 ≤ x / t ∧ x / t ≤ x) ∧ (0 ≤ x % t ∧ x % t < t) := ⟨⟨Int.tdiv_eq_ediv_of_nonneg hx, Int.tmod_eq_emod_of_nonneg hx⟩, ⟨Int.ediv_nonneg hx (Int.le_of_lt ht), Int.ediv_le_self _ hx⟩, Int.emod_nonneg x (Int.ne_of_gt ht), Int.emod_lt_of_pos x ht⟩
theorem tz_tx (k : Nat) (h : k < 19) : txv e 0 ((k : Nat) : Int) = TT k := by
  rw [txv_0 (by omega), Int.toNat_natCast]
  rfl
theorem z_twrite {T r : Nat} {v : Int} (hT : T = 1 ∨ T = 3) (hr : cl r 3) (hr4 : 4 < r) (hv : BB M r v) (hw : WF v) (hC : CI M) (hd : 1 ≤ d) : tC e d 3079 [.inr (.inr (.inl T)), .inr (.inr (.inl r))] M n (tQn n (fun M' => TXF M M')) := by
  obtain ⟨h1, h2, h3⟩ := TX_of hT
  have sr := hr.1
  unfold WF at hw
  refine tst_X10_write ?_
  have n146 : ∀ (i : Nat) (N : tM) (w p : Int) (w6 : Int), i ≤ 10 → 0 ≤ p → p < TT i → TXF M N → tT e d 3079 146 [some (.inr (.inr (.inl (T)))), some (.inr (.inr (.inl (r)))), some (.inr (.inl (w))), none, some (.inr (.inl (p))), none, some (.inl (w6)), some (.inl ((i : Int) - 1))] [] N n (tQn n (fun M' => TXF M M')) := by
    intro i
    induction i with
    | zero =>
      intro N w p w6 hi hp0 hp1 fN
      refine tb_X10_write_146 (c := true) ?_
      simp only [kb_X10_write_146, w_ild7, w_if_lt, w_lld4, w_lc0, w_lcmp, ne_eq, tlc_r, tlc_eq, tlc_lt, tlc_ge, tlc_gt, tlc_le, w_if_le, w_ald_0, w_ld2, w_gs, w_la, w_lax, tw_t, w_ldiv, w_ladd, w_l2i, w_i2c, w_iv1, tfr_0, tfr_1, tfr_2, tfr_3, tfr_4, w_lrem, w_lst4, tkl_n, tkl_i, tkl_l, tkl_r, w_inc7, w_goto, w64_r, true_and, and_true, Nat.reduceAdd, Nat.reduceSub, eq_self, tyx_12, tyx_15, tcx_12, h1]
      repeat refine And.intro (by omega) ?_
      refine ⟨fun _ => ?_, fun q => absurd (by omega) q⟩
      refine tb_X10_write_194 (c := true) ?_
      simp only [kb_X10_write_194, w_re, w64_r, true_and, and_true, Nat.reduceAdd, Nat.reduceSub, eq_self]
      exact ⟨rfl, rfl, fN⟩
    | succ i ih =>
      intro N w p w6 hi hp0 hp1 fN
      have hT10 := TT_le10 (k := i + 1) (by omega)
      have t1 := TT_pos i
      have e1 : TT (i + 1) = TT i * 10 := by
        rw [TT_add, show TT 1 = 10 by unfold TT; rw [tn_def]; rfl]
      obtain ⟨⟨a1, a2⟩, ⟨a3, a4⟩, a5, a6⟩ := tz_dv (x := p) hp0 t1
      have a7 : p / TT i < 10 := Int.ediv_lt_of_lt_mul t1 (by rw [Int.mul_comm, ← e1]; exact hp1)
      have et : txv e 0 ((i : Nat) : Int) = TT i := tz_tx i (by omega)
      rw [show ((i + 1 : Nat) : Int) - 1 = (i : Int) by omega]
      have t10 := TT_le10 (k := i) (by omega)
      refine tb_X10_write_146 (c := true) ?_
      simp only [kb_X10_write_146, w_ild7, w_if_lt, w_lld4, w_lc0, w_lcmp, ne_eq, tlc_r, tlc_eq, tlc_lt, tlc_ge, tlc_gt, tlc_le, w_if_le, w_ald_0, w_ld2, w_gs, w_la, w_lax, tw_t, w_ldiv, w_ladd, w_l2i, w_i2c, w_iv1, tfr_0, tfr_1, tfr_2, tfr_3, tfr_4, w_lrem, w_lst4, tkl_n, tkl_i, tkl_l, tkl_r, w_inc7, w_goto, w64_r, true_and, and_true, Nat.reduceAdd, Nat.reduceSub, eq_self, tyx_12, tyx_15, tcx_12, h1]
      repeat refine And.intro (by omega) ?_
      first | refine ⟨fun q => absurd q (by omega), fun _ => ?_⟩ | refine fun _ => ?_
      repeat refine And.intro (by omega) ?_
      refine ⟨fun _ => ?_, fun g => ?_⟩
      · refine tb_X10_write_194 (c := true) ?_
        simp only [kb_X10_write_194, w_re, w64_r, true_and, and_true, Nat.reduceAdd, Nat.reduceSub, eq_self]
        exact ⟨rfl, rfl, fN⟩
      rw [et, a1]
      first | refine ⟨by decide, rfl, ⟨by omega, by show _ < ((19 : Nat) : Int); omega⟩, ⟨by omega, by omega, by omega⟩, ?_⟩ | refine ⟨by decide, ⟨by omega, by show _ < ((19 : Nat) : Int); omega⟩, ⟨by omega, by omega, by omega⟩, ?_⟩
      refine tc_n (D := 0) (fun d' hd' => z_tapp hT (by omega) fN.1.1) (by omega) ?_
      rintro N2 f2
      try simp only [kb_X10_write_146, w_ild7, w_if_lt, w_lld4, w_lc0, w_lcmp, ne_eq, tlc_r, tlc_eq, tlc_lt, tlc_ge, tlc_gt, tlc_le, w_if_le, w_ald_0, w_ld2, w_gs, w_la, w_lax, tw_t, w_ldiv, w_ladd, w_l2i, w_i2c, w_iv1, tfr_0, tfr_1, tfr_2, tfr_3, tfr_4, w_lrem, w_lst4, tkl_n, tkl_i, tkl_l, tkl_r, w_inc7, w_goto, w64_r, true_and, and_true, Nat.reduceAdd, Nat.reduceSub, eq_self, tyx_12, tyx_15, tcx_12, h1]
      rw [et, a2]
      first | refine ⟨by decide, rfl, ⟨by omega, by show _ < ((19 : Nat) : Int); omega⟩, ⟨by omega, by omega, by omega⟩, ?_⟩ | refine ⟨by decide, ⟨by omega, by show _ < ((19 : Nat) : Int); omega⟩, ⟨by omega, by omega, by omega⟩, ?_⟩
      repeat refine And.intro (by omega) ?_
      rw [show (i : Int) + -1 = (i : Int) - 1 by omega]
      exact ih N2 w (p % TT i) _ (by omega) a5 a6 (TXF_tr fN f2)
  have n142 : ∀ (N : tM) (w p : Int) (w6 : Int) (w7 : Option tV), (0 ≤ p ∧ p ≤ 10000000000) → p < 10000000000 → TXF M N → tT e d 3079 142 [some (.inr (.inr (.inl (T)))), some (.inr (.inr (.inl (r)))), some (.inr (.inl (w))), none, some (.inr (.inl (p))), none, some (.inl (w6)), w7] [] N n (tQn n (fun M' => TXF M M')) := by
    intro N w p w6 w7 hp hp2 fN
    refine tb_X10_write_142 (c := true) ?_
    simp only [kb_X10_write_142, w_bi, w_ist7, tkl_n, tkl_i, tkl_l, tkl_r, w_nil, w64_r, true_and, and_true, Nat.reduceAdd, Nat.reduceSub, eq_self]
    exact n146 10 N w p w6 (by decide) hp.1 (by rw [TT_10]; exact hp2) fN
  have n129 : ∀ (N : tM) (w p : Int) (w6 : Int) (w7 : Option tV), (0 ≤ p ∧ p ≤ 10000000000) → p < 10000000000 → TXF M N → tT e d 3079 129 [some (.inr (.inr (.inl (T)))), some (.inr (.inr (.inl (r)))), some (.inr (.inl (w))), none, some (.inr (.inl (p))), none, some (.inl (w6)), w7] [] N n (tQn n (fun M' => TXF M M')) := by
    intro N w p w6 w7 hp hp2 fN
    refine tb_X10_write_129 (c := true) ?_
    simp only [kb_X10_write_129, w_lld4, w_lc0, w_lcmp, ne_eq, tlc_r, tlc_eq, tlc_lt, tlc_ge, tlc_gt, tlc_le, w_if_le, w_ald_0, w_bi, w_iv1, tfr_0, tfr_1, tfr_2, tfr_3, tfr_4, w_nil, w64_r, true_and, and_true, Nat.reduceAdd, Nat.reduceSub, eq_self, tyx_12, tyx_15, tcx_12, h1]
    repeat refine And.intro (by omega) ?_
    refine ⟨fun _ => n142 N w p w6 w7 hp hp2 fN, fun _ => ?_⟩
    repeat refine And.intro (by omega) ?_
    refine tc_n (D := 0) (fun d' hd' => z_tapp hT (by decide) fN.1.1) (by omega) ?_
    rintro N2 f2
    try simp only [kb_X10_write_129, w_lld4, w_lc0, w_lcmp, ne_eq, tlc_r, tlc_eq, tlc_lt, tlc_ge, tlc_gt, tlc_le, w_if_le, w_ald_0, w_bi, w_iv1, tfr_0, tfr_1, tfr_2, tfr_3, tfr_4, w_nil, w64_r, true_and, and_true, Nat.reduceAdd, Nat.reduceSub, eq_self, tyx_12, tyx_15, tcx_12, h1]
    exact n142 N2 w p w6 w7 hp hp2 (TXF_tr fN f2)
  have n96 : ∀ (i : Nat) (N : tM) (w p : Int) (w6 : Int), i ≤ 18 → (0 ≤ w ∧ w < 9000000000000000000) → (0 ≤ p ∧ p ≤ 10000000000) → p < 10000000000 → TXF M N → tT e d 3079 96 [some (.inr (.inr (.inl (T)))), some (.inr (.inr (.inl (r)))), some (.inr (.inl (w))), none, some (.inr (.inl (p))), none, some (.inl (w6)), some (.inl ((i : Int) - 1))] [] N n (tQn n (fun M' => TXF M M')) := by
    intro i
    induction i with
    | zero =>
      intro N w p w6 hi hw2 hp hp2 fN
      refine tb_X10_write_96 (c := true) ?_
      simp only [kb_X10_write_96, w_ild7, w_if_lt, w_ald_0, w_ld2, w_lld_2, w_gs, w_la, w_lax, tw_t, w_ldiv, w_lrem, w_ladd, w_l2i, w_i2c, w_iv1, tfr_0, tfr_1, tfr_2, tfr_3, tfr_4, w_inc7, tkl_n, tkl_i, tkl_l, tkl_r, w_goto, w64_r, true_and, and_true, Nat.reduceAdd, Nat.reduceSub, eq_self, tyx_12, tyx_15, tcx_12, h1]
      repeat refine And.intro (by omega) ?_
      refine ⟨fun _ => n129 N w p _ _ hp hp2 fN, fun q => absurd (by omega) q⟩
    | succ i ih =>
      intro N w p w6 hi hw2 hp hp2 fN
      have t1 := TT_pos i
      have t18 := TT_le18 (k := i) (by omega)
      obtain ⟨⟨a1, a2⟩, ⟨a3, a4⟩, a5, a6⟩ := tz_dv (x := w) hw2.1 t1
      have et : txv e 0 ((i : Nat) : Int) = TT i := tz_tx i (by omega)
      rw [show ((i + 1 : Nat) : Int) - 1 = (i : Int) by omega]
      refine tb_X10_write_96 (c := true) ?_
      simp only [kb_X10_write_96, w_ild7, w_if_lt, w_ald_0, w_ld2, w_lld_2, w_gs, w_la, w_lax, tw_t, w_ldiv, w_lrem, w_ladd, w_l2i, w_i2c, w_iv1, tfr_0, tfr_1, tfr_2, tfr_3, tfr_4, w_inc7, tkl_n, tkl_i, tkl_l, tkl_r, w_goto, w64_r, true_and, and_true, Nat.reduceAdd, Nat.reduceSub, eq_self, tyx_12, tyx_15, tcx_12, h1]
      repeat refine And.intro (by omega) ?_
      first | refine ⟨fun q => absurd q (by omega), fun _ => ?_⟩ | refine fun _ => ?_
      repeat refine And.intro (by omega) ?_
      rw [et, a1]
      first | refine ⟨by decide, rfl, ⟨by omega, by show _ < ((19 : Nat) : Int); omega⟩, ⟨by omega, by omega, by omega⟩, ?_⟩ | refine ⟨by decide, ⟨by omega, by show _ < ((19 : Nat) : Int); omega⟩, ⟨by omega, by omega, by omega⟩, ?_⟩
      rw [w64_e (x := w / TT i) (by omega)]
      repeat refine And.intro (by omega) ?_
      refine tc_n (D := 0) (fun d' hd' => z_tapp hT (by omega) fN.1.1) (by omega) ?_
      rintro N2 f2
      try simp only [kb_X10_write_96, w_ild7, w_if_lt, w_ald_0, w_ld2, w_lld_2, w_gs, w_la, w_lax, tw_t, w_ldiv, w_lrem, w_ladd, w_l2i, w_i2c, w_iv1, tfr_0, tfr_1, tfr_2, tfr_3, tfr_4, w_inc7, tkl_n, tkl_i, tkl_l, tkl_r, w_goto, w64_r, true_and, and_true, Nat.reduceAdd, Nat.reduceSub, eq_self, tyx_12, tyx_15, tcx_12, h1]
      repeat refine And.intro (by omega) ?_
      rw [show (i : Int) + -1 = (i : Int) - 1 by omega]
      exact ih N2 w p _ (by omega) hw2 hp hp2 (TXF_tr fN f2)
  have n90 : ∀ (l : Nat) (N : tM) (w p : Int) (w7 : Option tV), (1 ≤ l ∧ l ≤ 18) → (0 ≤ w ∧ w < 9000000000000000000) → (0 ≤ p ∧ p ≤ 10000000000) → p < 10000000000 → TXF M N → tT e d 3079 90 [some (.inr (.inr (.inl (T)))), some (.inr (.inr (.inl (r)))), some (.inr (.inl (w))), none, some (.inr (.inl (p))), none, some (.inl ((l : Int))), w7] [] N n (tQn n (fun M' => TXF M M')) := by
    intro l N w p w7 hl hw2 hp hp2 fN
    refine tb_X10_write_90 (c := true) ?_
    simp only [kb_X10_write_90, w_ild6, w_ic, w_isub, w_ist7, tkl_n, tkl_i, tkl_l, tkl_r, w_nil, w64_r, true_and, and_true, Nat.reduceAdd, Nat.reduceSub, eq_self]
    repeat refine And.intro (by omega) ?_
    exact n96 l N w p _ (by omega) hw2 hp hp2 fN
  have n66 : ∀ (fu : Nat) (l : Nat) (N : tM) (w p : Int) (w7 : Option tV), 18 - l = fu → (1 ≤ l ∧ l ≤ 18) → (0 ≤ w ∧ w < 9000000000000000000) → (0 ≤ p ∧ p ≤ 10000000000) → p < 10000000000 → TXF M N → tT e d 3079 66 [some (.inr (.inr (.inl (T)))), some (.inr (.inr (.inl (r)))), some (.inr (.inl (w))), none, some (.inr (.inl (p))), none, some (.inl ((l : Int))), w7] [] N n (tQn n (fun M' => TXF M M')) := by
    intro fu
    induction fu with
    | zero =>
      intro l N w p w7 hf hl hw2 hp hp2 fN
      refine tb_X10_write_66 (c := true) ?_
      simp only [kb_X10_write_66, w_ild6, w_bi, w_ic_ge, w_lld_2, w_gs, w_la, w_lax, tw_t, w_lcmp, ne_eq, tlc_r, tlc_eq, tlc_lt, tlc_ge, tlc_gt, tlc_le, w_if_lt, w_inc6, tkl_n, tkl_i, tkl_l, tkl_r, w_goto, w64_r, true_and, and_true, Nat.reduceAdd, Nat.reduceSub, eq_self, tyx_12, tyx_15, tcx_12]
      repeat refine And.intro (by omega) ?_
      refine ⟨fun _ => n90 l N w p w7 hl hw2 hp hp2 fN, fun q => absurd (by omega) q⟩
    | succ fu ih =>
      intro l N w p w7 hf hl hw2 hp hp2 fN
      have t1 := TT_pos l
      have t18 := TT_le18 (k := l) (by omega)
      have et : txv e 0 ((l : Nat) : Int) = TT l := tz_tx l (by omega)
      refine tb_X10_write_66 (c := true) ?_
      simp only [kb_X10_write_66, w_ild6, w_bi, w_ic_ge, w_lld_2, w_gs, w_la, w_lax, tw_t, w_lcmp, ne_eq, tlc_r, tlc_eq, tlc_lt, tlc_ge, tlc_gt, tlc_le, w_if_lt, w_inc6, tkl_n, tkl_i, tkl_l, tkl_r, w_goto, w64_r, true_and, and_true, Nat.reduceAdd, Nat.reduceSub, eq_self, tyx_12, tyx_15, tcx_12]
      repeat refine And.intro (by omega) ?_
      first | refine ⟨fun q => absurd q (by omega), fun _ => ?_⟩ | refine fun _ => ?_
      repeat refine And.intro (by omega) ?_
      rw [et]
      first | refine ⟨by decide, rfl, ⟨by omega, by show _ < ((19 : Nat) : Int); omega⟩, ?_⟩ | refine ⟨by decide, ⟨by omega, by show _ < ((19 : Nat) : Int); omega⟩, ?_⟩
      repeat refine And.intro (by omega) ?_
      refine ⟨fun _ => n90 l N w p w7 hl hw2 hp hp2 fN, fun _ => ?_⟩
      repeat refine And.intro (by omega) ?_
      rw [show ((l : Nat) : Int) + 1 = ((l + 1 : Nat) : Int) by omega]
      exact ih (l + 1) N w p w7 (by omega) (by omega) hw2 hp hp2 fN
  have n63 : ∀ (N : tM) (w p : Int) (w6 w7 : Option tV), (0 ≤ w ∧ w < 9000000000000000000) → (0 ≤ p ∧ p ≤ 10000000000) → p < 10000000000 → TXF M N → tT e d 3079 63 [some (.inr (.inr (.inl (T)))), some (.inr (.inr (.inl (r)))), some (.inr (.inl (w))), none, some (.inr (.inl (p))), none, w6, w7] [] N n (tQn n (fun M' => TXF M M')) := by
    intro N w p w6 w7 hw2 hp hp2 fN
    refine tb_X10_write_63 (c := true) ?_
    simp only [kb_X10_write_63, w_ic, w_ist6, tkl_n, tkl_i, tkl_l, tkl_r, w_nil, w64_r, true_and, and_true, Nat.reduceAdd, Nat.reduceSub, eq_self]
    exact n66 17 1 N w p w7 rfl (by decide) hw2 hp hp2 fN
  have v1 := hv.1
  have v2 := hv.2
  refine tb_X10_write_0 (c := true) ?_
  simp only [kb_X10_write_0, w_ald_0, w_iv0, tfr_0, tfr_1, tfr_2, tfr_3, tfr_4, w_ald_1, w_gf_3_0, tw_t, w_lst_2, tkl_n, tkl_i, tkl_l, tkl_r, w_gf_3_1, w_lst4, w_lld_2, w_lc0, w_lcmp, ne_eq, tlc_r, tlc_eq, tlc_lt, tlc_ge, tlc_gt, tlc_le, w_if_ge, w_bi, w_iv1, w_lld4, w_if_ne, w_lneg, w_goto, w64_r, true_and, and_true, Nat.reduceAdd, Nat.reduceSub, eq_self, tyx_12, tyx_15, tcx_12, h1, sr]
  refine tc_n (D := 0) (fun d' hd' => z_tclear hT hC) (by omega) ?_
  rintro M1 f1
  have e0 : M1 r 0 = v / 10000000000 := (f1.2 r 0 (by omega)).trans v1
  have e1 : M1 r 1 = v % 10000000000 := (f1.2 r 1 (by omega)).trans v2
  try simp only [kb_X10_write_0, w_ald_0, w_iv0, tfr_0, tfr_1, tfr_2, tfr_3, tfr_4, w_ald_1, w_gf_3_0, tw_t, w_lst_2, tkl_n, tkl_i, tkl_l, tkl_r, w_gf_3_1, w_lst4, w_lld_2, w_lc0, w_lcmp, ne_eq, tlc_r, tlc_eq, tlc_lt, tlc_ge, tlc_gt, tlc_le, w_if_ge, w_bi, w_iv1, w_lld4, w_if_ne, w_lneg, w_goto, w64_r, true_and, and_true, Nat.reduceAdd, Nat.reduceSub, eq_self, tyx_12, tyx_15, tcx_12, h1, sr, e0, e1]
  have e9 : w64 (v / 10000000000) = v / 10000000000 := w64_e (by omega)
  have e10 : w64 (v % 10000000000) = v % 10000000000 := w64_e (by omega)
  simp only [e9, e10]
  repeat refine And.intro (by omega) ?_
  refine ⟨fun q => n63 M1 _ _ _ _ (by omega) (by omega) (by omega) f1, fun q => ?_⟩
  repeat refine And.intro (by omega) ?_
  refine tc_n (D := 0) (fun d' hd' => z_tapp hT (by decide) f1.1.1) (by omega) ?_
  rintro M2 f2
  have ff2 := TXF_tr f1 f2
  try simp only [kb_X10_write_0, w_ald_0, w_iv0, tfr_0, tfr_1, tfr_2, tfr_3, tfr_4, w_ald_1, w_gf_3_0, tw_t, w_lst_2, tkl_n, tkl_i, tkl_l, tkl_r, w_gf_3_1, w_lst4, w_lld_2, w_lc0, w_lcmp, ne_eq, tlc_r, tlc_eq, tlc_lt, tlc_ge, tlc_gt, tlc_le, w_if_ge, w_bi, w_iv1, w_lld4, w_if_ne, w_lneg, w_goto, w64_r, true_and, and_true, Nat.reduceAdd, Nat.reduceSub, eq_self, tyx_12, tyx_15, tcx_12, h1, sr, e0, e1]
  have n61 : ∀ (N : tM) (w p q : Int), (0 ≤ w ∧ w < 9000000000000000000) → (0 ≤ p ∧ p ≤ 10000000000) → p < 10000000000 → TXF M N → tT e d 3079 61 [some (.inr (.inr (.inl (T)))), some (.inr (.inr (.inl (r)))), some (.inr (.inl (w))), none, some (.inr (.inl (q))), none, none, none] [.inr (.inl p)] N n (tQn n (fun M' => TXF M M')) := by
    intro N w p q hw2 hp hp2 fN
    refine tb_X10_write_61 (c := true) ?_
    simp only [kb_X10_write_61, w_lst4, tkl_n, tkl_i, tkl_l, tkl_r, w_nil, w64_r, true_and, and_true, Nat.reduceAdd, Nat.reduceSub, eq_self]
    exact n63 N w p _ _ hw2 hp hp2 fN
  have n43 : ∀ (w w0 : Int), (0 ≤ w ∧ w < 9000000000000000000) → tT e d 3079 43 [some (.inr (.inr (.inl (T)))), some (.inr (.inr (.inl (r)))), some (.inr (.inl (w0))), none, some (.inr (.inl (v % 10000000000))), none, none, none] [.inr (.inl w)] M2 n (tQn n (fun M' => TXF M M')) := by
    intro w w0 hw2
    refine tb_X10_write_43 (c := true) ?_
    simp only [kb_X10_write_43, w_lst_2, tkl_n, tkl_i, tkl_l, tkl_r, w_lld4, w_lc0, w_lcmp, ne_eq, tlc_r, tlc_eq, tlc_lt, tlc_ge, tlc_gt, tlc_le, w_if_ne, w_goto, w64_r, true_and, and_true, Nat.reduceAdd, Nat.reduceSub, eq_self]
    repeat refine And.intro (by omega) ?_
    refine ⟨fun q => ?_, fun q => n61 M2 w 0 _ hw2 (by decide) (by decide) ff2⟩
    refine tb_X10_write_55 (c := true) ?_
    simp only [kb_X10_write_55, w_ld2, w_lld4, w_lsub, tw_t, w_nil, w64_r, true_and, and_true, Nat.reduceAdd, Nat.reduceSub, eq_self]
    have e5 : w64 (10000000000 - v % 10000000000) = 10000000000 - v % 10000000000 := w64_e (by omega)
    rw [e5]
    repeat refine And.intro (by omega) ?_
    exact n61 M2 w _ _ hw2 (by omega) (by omega) ff2
  repeat refine And.intro (by omega) ?_
  refine ⟨fun q => ?_, fun q => ?_⟩
  · refine tb_X10_write_39 (c := true) ?_
    simp only [kb_X10_write_39, w_lld_2, w_lneg, tw_t, w_lc1, w_lsub, w_nil, w64_r, true_and, and_true, Nat.reduceAdd, Nat.reduceSub, eq_self]
    rw [w64_e (x := -(v / 10000000000)) (by omega), w64_e (x := -(v / 10000000000) - 1) (by omega)]
    repeat refine And.intro (by omega) ?_
    exact n43 _ _ (by omega)
  · rw [w64_e (x := -(v / 10000000000)) (by omega)]
    repeat refine And.intro (by omega) ?_
    exact n43 _ _ (by omega)
end HAND
