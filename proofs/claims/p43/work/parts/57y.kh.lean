/-! WHAT HOLDS BETWEEN CALLS: two proofs of a call together; the calls that only look; setDigits. -/
theorem kv {e : tE} {d a n : Nat} {vs : List tV} {M : tM} {R : tR → Nat → Prop} (hp : SPT e) (h : sC e 0 d a vs n R) (g : tC e d a vs M n (fun _ M' _ => KA M M')) (hC : CI M) : tC e d a vs M n (fun r M' n' => KA M M' ∧ R r n') := tC_mix hp (tC_mono (h M hC trivial) (fun _ _ _ q => q.2)) g
theorem KW_g {M M1 : tM} (h : KW M) (u : UN M1) (ro : RO M1) (f : ∀ (k : Nat) (i : Int), KPC k → M1 k i = M k i) : KW M1 := by
  obtain ⟨⟨⟨h1, h2⟩, h3, h4⟩, ⟨h5, h6⟩, h7⟩ := h
  have fr : ∀ r : Nat, FMC r → ∀ (k : Nat) (i : Int), r ≤ k ∧ k ≤ r + 5 → M1 k i = M k i := fun r hr k i g => f k i (by unfold FMC at hr; unfold KPC; omega)
  refine ⟨⟨⟨u, ro⟩, fun s hs => BXG_f (h3 s hs) (fun i => f _ _ (by unfold KPC; omega)) (fun i => f _ _ (by unfold KPC; omega)), fun r hr hd => ?_⟩, ⟨fun k hk => BXG_f (h5 k hk) (fun i => f _ _ (by unfold KPC; omega)) (fun i => f _ _ (by unfold KPC; omega)), fun k hk => BXG_f (h6 k hk) (fun i => f _ _ (by unfold KPC; omega)) (fun i => f _ _ (by unfold KPC; omega))⟩, fun r hr hd => ?_⟩
  · rw [f r 6 (by unfold FMC at hr; unfold KPC; omega)] at hd
    obtain ⟨c, hc⟩ := h4 r hr hd
    exact ⟨c, WFF_f hc (fr r hr)⟩
  · rw [f r 6 (by unfold FMC at hr; unfold KPC; omega)] at hd
    exact STF_f (h7 r hr hd) (fr r hr)
section HAND
variable {e : tE} {d n : Nat} {M : tM}
theorem u_signAt {x1 : Int} (h1 : (-2147483648 ≤ x1 ∧ x1 ≤ 2147483647)) (hK : KW M) (hC : CI M) (hd : 1 ≤ d) : tC e d 3388 [.inr (.inr (.inl 0)), .inl x1] M n (fun _ M' _ => KA M M') := KA_pure (k_X11_signAt cl_0 h1 hd) hK hC
theorem u_held (hK : KW M) (hC : CI M) (hd : 2 ≤ d) : tC e d 3360 [.inr (.inr (.inl 0))] M n (fun _ M' _ => KA M M') := KA_pure (k_X11_held cl_0 hd) hK hC
theorem u_digits (hK : KW M) (hC : CI M) : tC e d 3354 [.inr (.inr (.inl 0))] M n (fun _ M' _ => KA M M') := KA_pure (k_X11_digits cl_0 (Nat.zero_le d)) hK hC
theorem u_compare {x1 x2 : Int} (h1 : (-2147483648 ≤ x1 ∧ x1 ≤ 2147483647)) (h2 : (-2147483648 ≤ x2 ∧ x2 ≤ 2147483647)) (hK : KW M) (hC : CI M) (hd : 4 ≤ d) : tC e d 3349 [.inr (.inr (.inl 0)), .inl x1, .inl x2] M n (fun _ M' _ => KA M M') := KA_pure (k_X11_compare cl_0 h1 h2 hd) hK hC
theorem u_isWithin {x1 x2 : Int} (h1 : (-2147483648 ≤ x1 ∧ x1 ≤ 2147483647)) (h2 : (-2147483648 ≤ x2 ∧ x2 ≤ 2147483647)) (hK : KW M) (hC : CI M) (hd : 4 ≤ d) : tC e d 3365 [.inr (.inr (.inl 0)), .inl x1, .inl x2] M n (fun _ M' _ => KA M M') := KA_pure (k_X11_isWithin cl_0 h1 h2 hd) hK hC
theorem u_hasY {x1 : Int} (h1 : (-2147483648 ≤ x1 ∧ x1 ≤ 2147483647)) (hK : KW M) (hC : CI M) (hd : 1 ≤ d) : tC e d 3359 [.inr (.inr (.inl 0)), .inl x1] M n (fun _ M' _ => KA M M') := KA_pure (k_X11_hasY cl_0 h1 hd) hK hC
theorem u_pieceKind {x1 : Int} (h1 : (-2147483648 ≤ x1 ∧ x1 ≤ 2147483647)) (hK : KW M) (hC : CI M) (hd : 2 ≤ d) : tC e d 3380 [.inr (.inr (.inl 0)), .inl x1] M n (fun _ M' _ => KA M M') := KA_pure (k_X11_pieceKind cl_0 h1 hd) hK hC
theorem v_setDigits {x1 : Int} (h1 : (-2147483648 ≤ x1 ∧ x1 ≤ 2147483647)) (hK : KW M) (hC : CI M) (hd : 3 ≤ d) : tC e d 3386 [.inr (.inr (.inl 0)), .inl x1] M n (fun v M' n' => (((0 ≤ x1 ∧ x1 ≤ 10) ∧ v = .inl (some (.inl (M 0 0))) ∧ n' = n ∧ (CI M' ∧ UN M') ∧ M' 0 0 = x1 ∧ ∀ (k : Nat) (i : Int), 664 ≤ k → M' k i = M k i) ∨ (¬ (0 ≤ x1 ∧ x1 ≤ 10) ∧ v = .inr "java/lang/IllegalArgumentException" ∧ n' = n + 1 ∧ M' = M)) ∧ KW M') := by
  have hz := z00 hC
  refine tst_X11_setDigits ?_
  have n10 : ¬ (0 ≤ x1 ∧ x1 ≤ 10) → tT e d 3386 10 [some (.inr (.inr (.inl (0)))), some (.inl (x1)), none] [] M n (fun v M' n' => (((0 ≤ x1 ∧ x1 ≤ 10) ∧ v = .inl (some (.inl (M 0 0))) ∧ n' = n ∧ (CI M' ∧ UN M') ∧ M' 0 0 = x1 ∧ ∀ (k : Nat) (i : Int), 664 ≤ k → M' k i = M k i) ∨ (¬ (0 ≤ x1 ∧ x1 ≤ 10) ∧ v = .inr "java/lang/IllegalArgumentException" ∧ n' = n + 1 ∧ M' = M)) ∧ KW M') := by
    intro h
    refine tb_X11_setDigits_10 (c := true) ?_
    simp only [kb_X11_setDigits_10, w_new, w64_r, true_and, and_true, Nat.reduceAdd, Nat.reduceSub, eq_self]
    exact ⟨Or.inr ⟨h, rfl⟩, hK⟩
  refine tb_X11_setDigits_0 (c := true) ?_
  simp only [kb_X11_setDigits_0, w_ild_1, w_if_lt, w_bi, w_ic_le, w_nil, w64_r, true_and, and_true, Nat.reduceAdd, Nat.reduceSub, eq_self]
  refine ⟨by omega, fun h => n10 (by omega), fun h => ?_⟩
  refine ⟨by omega, fun h2 => ?_, fun h2 => n10 (by omega)⟩
  refine tb_X11_setDigits_20 (c := true) ?_
  simp only [kb_X11_setDigits_20, w_ald_0, w_gf_13_0, tw_t, w_ist_2, tkl_n, tkl_i, tkl_l, tkl_r, w_ild_1, w_pf_13_0, w_gf_13_4, w_iv1, tfr_0, tfr_1, tfr_2, tfr_3, tfr_4, w_ild_2, w_ire, trg, w64_r, true_and, and_true, Nat.reduceAdd, Nat.reduceSub, eq_self, tsh_0, tyk_13, tcq_13, tsh_77, tyk_8, tcq_8]
  have hC2 : CI (tU M 0 0 x1) := CI_put hC tsh_0 (fun _ => by show 0 ≤ x1 ∧ x1 ≤ 10; omega)
  have u1 : tU M 0 0 x1 0 0 = x1 := tU_eq ..
  refine tc_n (D := 2) (fun d' hd' => t_useD (by omega) hd') (by omega) ?_
  rintro M2 rfl
  try simp only [kb_X11_setDigits_20, w_ald_0, w_gf_13_0, tw_t, w_ist_2, tkl_n, tkl_i, tkl_l, tkl_r, w_ild_1, w_pf_13_0, w_gf_13_4, w_iv1, tfr_0, tfr_1, tfr_2, tfr_3, tfr_4, w_ild_2, w_ire, trg, w64_r, true_and, and_true, Nat.reduceAdd, Nat.reduceSub, eq_self, tsh_0, tyk_13, tcq_13, tsh_77, tyk_8, tcq_8]
  have g0 : tU (tU M 0 0 x1) 78 5 (un x1) 0 0 = x1 := (tU_nk (by decide)).trans u1
  have gu : UN (tU (tU M 0 0 x1) 78 5 (un x1)) := by
    unfold UN
    rw [g0]
    exact tU_eq ..
  refine ⟨Or.inl ⟨by omega, ⟨CI_un hC2, gu⟩, g0, fun k i hk => (tU_nk (by omega)).trans (tU_nk (by omega))⟩, KW_g hK gu (RO_u hK.1.1.2 ((tU_nk (by decide)).trans (tU_nk (by decide))) ((tU_nk (by decide)).trans (tU_nk (by decide)))) (fun k i g => (tU_nk (by unfold KPC at g; omega)).trans (tU_nk (by unfold KPC at g; omega)))⟩
end HAND
