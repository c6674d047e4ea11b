/-! THE CLASS: root and constant, never too great. -/
theorem arr_8 {r : Nat} (h : cl r 8) : r = 77 := by
  have g : ∀ r : Nat, r < 664 → tshl.getD r 0 = 8 → r = 77 := by decide +kernel
  have h1 := h.1
  rw [tsh_def] at h1
  exact g r h.2 h1
theorem tsh_112 : tsh 112 = 25 := by rw [tsh_def]; decide +kernel
theorem cl_112 : cl 112 25 := ⟨tsh_112, by decide⟩
theorem cl_5 : cl 5 11 := ⟨by rw [tsh_def]; decide +kernel, by decide⟩
theorem tsh_5 : tsh 5 = 11 := cl_5.1
theorem tyk_11 : (tyk 11).1 = 0 := rfl
theorem x_13 {r : Nat} (h : cl r 13) : r = 0 := by
  have g : ∀ r : Nat, r < 664 → tshl.getD r 0 = 13 → r = 0 := by decide +kernel
  have h1 := h.1
  rw [tsh_def] at h1
  exact g r h.2 h1
theorem cl_77 : cl 77 8 := ⟨tsh_77, by decide⟩
section TZ
variable {e : tE} {mi a D n d : Nat} {o : bO} {vs rest : List tV} {L : tL} {M : tM} {Q : tR → tM → Nat → Prop} {k : tL → List tV → tM → Nat → Prop}
theorem tz_r {P : Nat → Prop} (h : ∀ d', D ≤ d' → sC e 2 d' a vs n (SQr n P)) (hC : CI M) (hd : D + 1 ≤ d) (hk : ∀ x, P x → k L (.inr (.inr (.inl x)) :: rest) M n) : tcall e d mi a o vs rest L M n Q k :=
  ⟨d - 1, by omega, _, h (d - 1) (by omega) M hC trivial, fun v M' n' q => by obtain ⟨⟨-, c2⟩, x, q1, rfl, q2⟩ := q; cases q1; rw [pE_2 c2]; exact hk x q2, fun v M' n' q => by obtain ⟨-, x, q1, q2⟩ := q; cases q1⟩
theorem tz_i {P : Int → Prop} (h : ∀ d', D ≤ d' → sC e 2 d' a vs n (SQi n P)) (hC : CI M) (hd : D + 1 ≤ d) (hk : ∀ x, P x → k L (.inl x :: rest) M n) : tcall e d mi a o vs rest L M n Q k :=
  ⟨d - 1, by omega, _, h (d - 1) (by omega) M hC trivial, fun v M' n' q => by obtain ⟨⟨-, c2⟩, x, q1, rfl, q2⟩ := q; cases q1; rw [pE_2 c2]; exact hk x q2, fun v M' n' q => by obtain ⟨-, x, q1, q2⟩ := q; cases q1⟩
theorem tz_xn {P : Prop} {X : String → Prop} (h : ∀ d', D ≤ d' → sC e 2 d' a vs n (SQx n (SQn n P) X)) (hC : CI M) (hd : D + 1 ≤ d) (ht : tth mi o = true) (hk : P → k L rest M n) (hx : ∀ s, X s → Q (.inr s) M (n + 1)) : tcall e d mi a o vs rest L M n Q k :=
  ⟨d - 1, by omega, _, h (d - 1) (by omega) M hC trivial, (fun v M' n' q => by
      obtain ⟨⟨-, c2⟩, q⟩ := q
      rw [pE_2 c2]
      rcases q with ⟨q1, rfl, q2⟩ | ⟨s, q1, q2⟩
      · cases q1; exact hk q2
      · cases q1), fun v M' n' q => by
      obtain ⟨⟨-, c2⟩, q⟩ := q
      rw [pE_2 c2]
      rcases q with ⟨q1, q2⟩ | ⟨s, q1, rfl, q2⟩
      · cases q1
      · cases q1; exact ⟨ht, hx _ q2⟩⟩
theorem ts_xi {b : Nat} {P : Int → Prop} {X : String → Prop} (h : ∀ d', D ≤ d' → sC e b d' a vs n (SQx n (SQi n P) X)) (hC : CI M) (hd : D + 1 ≤ d) (ht : tth mi o = true) (hk : ∀ x M', P x → CI M' → pE b M M' → k L (.inl x :: rest) M' n) (hx : ∀ s M', X s → CI M' → pE b M M' → Q (.inr s) M' (n + 1)) : tcall e d mi a o vs rest L M n Q k :=
  ⟨d - 1, by omega, _, h (d - 1) (by omega) M hC trivial, (fun v M' n' q => by
      obtain ⟨⟨c1, c2⟩, q⟩ := q
      rcases q with ⟨x, q1, rfl, q2⟩ | ⟨s, q1, q2⟩
      · cases q1; exact hk x M' q2 c1 c2
      · cases q1), fun v M' n' q => by
      obtain ⟨⟨c1, c2⟩, q⟩ := q
      rcases q with ⟨x, q1, q2⟩ | ⟨s, q1, rfl, q2⟩
      · cases q1
      · cases q1; exact ⟨ht, hx _ M' q2 c1 c2⟩⟩
end TZ
section HAND
variable {e : tE} {b d n : Nat} {M : tM}
theorem e_clear (hb : b < 2) (hC : CI M) : tC e d 2053 [.inr (.inr (.inl 77))] M n (tQn n (fun M' => M' 77 2 = 0 ∧ CI M' ∧ pE b M M')) := by
  refine tst_X6_clear ?_
  refine tb_X6_clear_0 (c := true) ?_
  simp only [kb_X6_clear_0, w_ald_0, w_ic, w_pf_8_2, w_re, w64_r, true_and, and_true, Nat.reduceAdd, Nat.reduceSub, eq_self, tsh_77, tsh_78, tyk_2, tcq_2, tyk_8, tcq_8, tyk_26, tyk_4, tcq_4]
  exact ⟨rfl, rfl, tU_eq .., CI_put (s := 8) hC tsh_77 (fun _ => by show (0 : Int) ≤ 0 ∧ (0 : Int) ≤ 128; omega), pE_put (prt_f (a := 8) (f := 2) (Or.inl hb) cl_77 (by decide) (fun _ q => absurd q (by decide)) (by decide))⟩
theorem e_makeC {x1 x3 : Int} {x2 : Int} (h1 : x1 = 112 ∨ x1 = 69) (ht : M 77 2 = 0) (hb : b < 2) (hC : CI M) (hd : 7 ≤ d) : tC e d 2055 [.inr (.inr (.inl 77)), .inl x1, .inr (.inl x2), .inl x3] M n (tQi n (fun z M' => z = 0 ∧ CI M' ∧ pE b M M')) := by
  refine tst_X6_make ?_
  have n195 : ∀ (w5 w6 : Option tV) (x7 : Nat), cl x7 4 → tT e d 2055 195 [some (.inr (.inr (.inl 77))), some (.inl x1), some (.inr (.inl x2)), none, some (.inl x3), w5, w6, some (.inr (.inr (.inl x7)))] [] M n (tQi n (fun z M' => z = 0 ∧ CI M' ∧ pE b M M')) := by
    intro w5 w6 x7 h7
    refine tb_X6_make_195 (c := true) ?_
    simp only [kb_X6_make_195, w_ald_0, w_dupi, w_dupr, w_gf_8_2, tw_t, w_ic, w_iadd, w_pf_8_2, w_gf_8_0, w_ald7, w_ild_1, w_iv2, tfr_0, tfr_1, tfr_2, tfr_3, tfr_4, w_ire, trg, w64_r, true_and, and_true, Nat.reduceAdd, Nat.reduceSub, eq_self, tsh_77, tsh_78, tyk_2, tcq_2, tyk_8, tcq_8, tyk_26, tyk_4, tcq_4, ht]
    have hp : pE b M (tU M 77 2 1) := pE_put (prt_f (a := 8) (f := 2) (Or.inl hb) cl_77 (by decide) (fun _ q => absurd q (by decide)) (by decide))
    have hC2 : CI (tU M 77 2 1) := CI_put (s := 8) hC tsh_77 (fun _ => by show (0 : Int) ≤ 1 ∧ (1 : Int) ≤ 128; omega)
    refine ts_i (b := b) (D := 3) (fun d' hd' => k_X0_tellConstant_0 cl_78 h7 (by omega) hb hd') hC2 (by omega) ?_
    rintro z M1 rfl q1 q2
    try simp only [kb_X6_make_195, w_ald_0, w_dupi, w_dupr, w_gf_8_2, tw_t, w_ic, w_iadd, w_pf_8_2, w_gf_8_0, w_ald7, w_ild_1, w_iv2, tfr_0, tfr_1, tfr_2, tfr_3, tfr_4, w_ire, trg, w64_r, true_and, and_true, Nat.reduceAdd, Nat.reduceSub, eq_self, tsh_77, tsh_78, tyk_2, tcq_2, tyk_8, tcq_8, tyk_26, tyk_4, tcq_4]
    exact ⟨0, rfl, rfl, rfl, q1, pE_tr hp q2⟩
  have n71 : ∀ (w5 w6 : Option tV) (x7 : Nat), cl x7 4 → tT e d 2055 71 [some (.inr (.inr (.inl 77))), some (.inl x1), some (.inr (.inl x2)), none, some (.inl x3), w5, w6, some (.inr (.inr (.inl x7)))] [] M n (tQi n (fun z M' => z = 0 ∧ CI M' ∧ pE b M M')) := by
    intro w5 w6 x7 h7
    rcases h1 with rfl | rfl
    · refine tb_X6_make_71 (c := true) ?_
      simp only [kb_X6_make_71, w_ild_1, w_sw, tsw, w64_r, true_and, and_true, Nat.reduceAdd, Nat.reduceSub, eq_self]
      refine ⟨by omega, ?_⟩
      repeat refine ⟨fun h => absurd h (by decide), fun _ => ?_⟩
      refine ⟨fun _ => ?_, fun h => absurd rfl h⟩
      exact n195 _ _ x7 h7
    · refine tb_X6_make_71 (c := true) ?_
      simp only [kb_X6_make_71, w_ild_1, w_sw, tsw, w64_r, true_and, and_true, Nat.reduceAdd, Nat.reduceSub, eq_self]
      refine ⟨by omega, ?_⟩
      repeat refine ⟨fun h => absurd h (by decide), fun _ => ?_⟩
      refine ⟨fun _ => ?_, fun h => absurd rfl h⟩
      exact n195 _ _ x7 h7
  refine tb_X6_make_0 (c := true) ?_
  simp only [kb_X6_make_0, w_ald_0, w_gf_8_2, tw_t, w_si, w_ic_lt, w_ic, w_ire, trg, w64_r, true_and, and_true, Nat.reduceAdd, Nat.reduceSub, eq_self, tsh_77, tsh_78, tyk_2, tcq_2, tyk_8, tcq_8, tyk_26, tyk_4, tcq_4, ht]
  refine ⟨by omega, fun _ => ?_, fun h => absurd h (by decide)⟩
  refine tb_X6_make_12 (c := true) ?_
  simp only [kb_X6_make_12, w_ald_0, w_gf_8_2, tw_t, w_ic, w_isub, w_iv1, tfr_0, tfr_1, tfr_2, tfr_3, tfr_4, w_ast5, tkl_n, tkl_i, tkl_l, tkl_r, w_ast6, w_ast7, w_ild_1, w_is1, w_if_eq, w_ic_le, w_dupi, w_dupr, w_pf_8_2, w_nil, w64_r, true_and, and_true, Nat.reduceAdd, Nat.reduceSub, eq_self, tsh_77, tsh_78, tyk_2, tcq_2, tyk_8, tcq_8, tyk_26, tyk_4, tcq_4, ht]
  refine tz_r (D := 0) (fun d' hd' => k_X6_at cl_77 (by omega) hd') hC (by omega) ?_
  intro x5 h5
  try simp only [kb_X6_make_12, w_ald_0, w_gf_8_2, tw_t, w_ic, w_isub, w_iv1, tfr_0, tfr_1, tfr_2, tfr_3, tfr_4, w_ast5, tkl_n, tkl_i, tkl_l, tkl_r, w_ast6, w_ast7, w_ild_1, w_is1, w_if_eq, w_ic_le, w_dupi, w_dupr, w_pf_8_2, w_nil, w64_r, true_and, and_true, Nat.reduceAdd, Nat.reduceSub, eq_self, tsh_77, tsh_78, tyk_2, tcq_2, tyk_8, tcq_8, tyk_26, tyk_4, tcq_4, ht]
  refine tz_r (D := 0) (fun d' hd' => k_X6_at cl_77 (by omega) hd') hC (by omega) ?_
  intro x6 h6
  try simp only [kb_X6_make_12, w_ald_0, w_gf_8_2, tw_t, w_ic, w_isub, w_iv1, tfr_0, tfr_1, tfr_2, tfr_3, tfr_4, w_ast5, tkl_n, tkl_i, tkl_l, tkl_r, w_ast6, w_ast7, w_ild_1, w_is1, w_if_eq, w_ic_le, w_dupi, w_dupr, w_pf_8_2, w_nil, w64_r, true_and, and_true, Nat.reduceAdd, Nat.reduceSub, eq_self, tsh_77, tsh_78, tyk_2, tcq_2, tyk_8, tcq_8, tyk_26, tyk_4, tcq_4, ht]
  refine tz_r (D := 0) (fun d' hd' => k_X6_at cl_77 (by omega) hd') hC (by omega) ?_
  intro x7 h7
  try simp only [kb_X6_make_12, w_ald_0, w_gf_8_2, tw_t, w_ic, w_isub, w_iv1, tfr_0, tfr_1, tfr_2, tfr_3, tfr_4, w_ast5, tkl_n, tkl_i, tkl_l, tkl_r, w_ast6, w_ast7, w_ild_1, w_is1, w_if_eq, w_ic_le, w_dupi, w_dupr, w_pf_8_2, w_nil, w64_r, true_and, and_true, Nat.reduceAdd, Nat.reduceSub, eq_self, tsh_77, tsh_78, tyk_2, tcq_2, tyk_8, tcq_8, tyk_26, tyk_4, tcq_4, ht]
  refine tz_i (D := 0) (fun d' hd' => k_X5_isPair (by omega) hd') hC (by omega) ?_
  intro z hz
  try simp only [kb_X6_make_12, w_ald_0, w_gf_8_2, tw_t, w_ic, w_isub, w_iv1, tfr_0, tfr_1, tfr_2, tfr_3, tfr_4, w_ast5, tkl_n, tkl_i, tkl_l, tkl_r, w_ast6, w_ast7, w_ild_1, w_is1, w_if_eq, w_ic_le, w_dupi, w_dupr, w_pf_8_2, w_nil, w64_r, true_and, and_true, Nat.reduceAdd, Nat.reduceSub, eq_self, tsh_77, tsh_78, tyk_2, tcq_2, tyk_8, tcq_8, tyk_26, tyk_4, tcq_4, ht]
  refine ⟨by omega, fun _ => n71 _ _ x7 h7, fun _ => ?_⟩
  refine ⟨by omega, fun _ => n71 _ _ x7 h7, fun h => absurd h (by decide)⟩
theorem e_makeR {x3 x2 : Int} (he : EO e) (h3 : -2147483648 ≤ x3 ∧ x3 ≤ 2147483647) (hq : 2 ≤ x3 ∧ x3 ≤ 9) (ht : M 77 2 = 1) (hb : b < 2) (hC : CI M) (hd : 7 ≤ d) : tC e d 2055 [.inr (.inr (.inl 77)), .inl 114, .inr (.inl x2), .inl x3] M n (tQi n (fun z M' => (z = 0 ∨ z = 1) ∧ CI M' ∧ pE b M M')) := by
  refine tst_X6_make ?_
  have n71 : ∀ (w5 : Option tV) (x6 : Nat) (w7 : Option tV), cl x6 4 → tT e d 2055 71 [some (.inr (.inr (.inl 77))), some (.inl 114), some (.inr (.inl x2)), none, some (.inl x3), w5, some (.inr (.inr (.inl x6))), w7] [] M n (tQi n (fun z M' => (z = 0 ∨ z = 1) ∧ CI M' ∧ pE b M M')) := by
    intro w5 x6 w7 h6
    refine tb_X6_make_71 (c := true) ?_
    simp only [kb_X6_make_71, w_ild_1, w_sw, tsw, w64_r, true_and, and_true, Nat.reduceAdd, Nat.reduceSub, eq_self]
    refine ⟨by omega, ?_⟩
    repeat refine ⟨fun h => absurd h (by decide), fun _ => ?_⟩
    show tT e d 2055 318 _ _ _ _ _
    refine tb_X6_make_318 (c := true) ?_
    simp only [kb_X6_make_318, w_ald_0, w_gf_8_0, tw_t, w_ald6, w_ild_1, w_ild4, w_iv3, tfr_0, tfr_1, tfr_2, tfr_3, tfr_4, w_ire, trg, w64_r, true_and, and_true, Nat.reduceAdd, Nat.reduceSub, eq_self, tsh_77, tsh_78, tyk_2, tcq_2, tyk_8, tcq_8, tyk_26, tyk_4, tcq_4]
    refine ts_i (b := b) (D := 6) (fun d' hd' => k_X0_ofOne_r cl_78 h6 h3 hq he hb hd') hC (by omega) ?_
    rintro z M1 hz q1 q2
    try simp only [kb_X6_make_318, w_ald_0, w_gf_8_0, tw_t, w_ald6, w_ild_1, w_ild4, w_iv3, tfr_0, tfr_1, tfr_2, tfr_3, tfr_4, w_ire, trg, w64_r, true_and, and_true, Nat.reduceAdd, Nat.reduceSub, eq_self, tsh_77, tsh_78, tyk_2, tcq_2, tyk_8, tcq_8, tyk_26, tyk_4, tcq_4]
    exact ⟨z, rfl, rfl, hz, q1, q2⟩
  refine tb_X6_make_0 (c := true) ?_
  simp only [kb_X6_make_0, w_ald_0, w_gf_8_2, tw_t, w_si, w_ic_lt, w_ic, w_ire, trg, w64_r, true_and, and_true, Nat.reduceAdd, Nat.reduceSub, eq_self, tsh_77, tsh_78, tyk_2, tcq_2, tyk_8, tcq_8, tyk_26, tyk_4, tcq_4, ht]
  refine ⟨by omega, fun _ => ?_, fun h => absurd h (by decide)⟩
  refine tb_X6_make_12 (c := true) ?_
  simp only [kb_X6_make_12, w_ald_0, w_gf_8_2, tw_t, w_ic, w_isub, w_iv1, tfr_0, tfr_1, tfr_2, tfr_3, tfr_4, w_ast5, tkl_n, tkl_i, tkl_l, tkl_r, w_ast6, w_ast7, w_ild_1, w_is1, w_if_eq, w_ic_le, w_dupi, w_dupr, w_pf_8_2, w_nil, w64_r, true_and, and_true, Nat.reduceAdd, Nat.reduceSub, eq_self, tsh_77, tsh_78, tyk_2, tcq_2, tyk_8, tcq_8, tyk_26, tyk_4, tcq_4, ht]
  refine tz_r (D := 0) (fun d' hd' => k_X6_at cl_77 (by omega) hd') hC (by omega) ?_
  intro x5 h5
  try simp only [kb_X6_make_12, w_ald_0, w_gf_8_2, tw_t, w_ic, w_isub, w_iv1, tfr_0, tfr_1, tfr_2, tfr_3, tfr_4, w_ast5, tkl_n, tkl_i, tkl_l, tkl_r, w_ast6, w_ast7, w_ild_1, w_is1, w_if_eq, w_ic_le, w_dupi, w_dupr, w_pf_8_2, w_nil, w64_r, true_and, and_true, Nat.reduceAdd, Nat.reduceSub, eq_self, tsh_77, tsh_78, tyk_2, tcq_2, tyk_8, tcq_8, tyk_26, tyk_4, tcq_4, ht]
  refine tz_r (D := 0) (fun d' hd' => k_X6_at cl_77 (by omega) hd') hC (by omega) ?_
  intro x6 h6
  try simp only [kb_X6_make_12, w_ald_0, w_gf_8_2, tw_t, w_ic, w_isub, w_iv1, tfr_0, tfr_1, tfr_2, tfr_3, tfr_4, w_ast5, tkl_n, tkl_i, tkl_l, tkl_r, w_ast6, w_ast7, w_ild_1, w_is1, w_if_eq, w_ic_le, w_dupi, w_dupr, w_pf_8_2, w_nil, w64_r, true_and, and_true, Nat.reduceAdd, Nat.reduceSub, eq_self, tsh_77, tsh_78, tyk_2, tcq_2, tyk_8, tcq_8, tyk_26, tyk_4, tcq_4, ht]
  refine tz_r (D := 0) (fun d' hd' => k_X6_at cl_77 (by omega) hd') hC (by omega) ?_
  intro x7 h7
  try simp only [kb_X6_make_12, w_ald_0, w_gf_8_2, tw_t, w_ic, w_isub, w_iv1, tfr_0, tfr_1, tfr_2, tfr_3, tfr_4, w_ast5, tkl_n, tkl_i, tkl_l, tkl_r, w_ast6, w_ast7, w_ild_1, w_is1, w_if_eq, w_ic_le, w_dupi, w_dupr, w_pf_8_2, w_nil, w64_r, true_and, and_true, Nat.reduceAdd, Nat.reduceSub, eq_self, tsh_77, tsh_78, tyk_2, tcq_2, tyk_8, tcq_8, tyk_26, tyk_4, tcq_4, ht]
  refine tz_i (D := 0) (fun d' hd' => k_X5_isPair (by omega) hd') hC (by omega) ?_
  intro z hz
  try simp only [kb_X6_make_12, w_ald_0, w_gf_8_2, tw_t, w_ic, w_isub, w_iv1, tfr_0, tfr_1, tfr_2, tfr_3, tfr_4, w_ast5, tkl_n, tkl_i, tkl_l, tkl_r, w_ast6, w_ast7, w_ild_1, w_is1, w_if_eq, w_ic_le, w_dupi, w_dupr, w_pf_8_2, w_nil, w64_r, true_and, and_true, Nat.reduceAdd, Nat.reduceSub, eq_self, tsh_77, tsh_78, tyk_2, tcq_2, tyk_8, tcq_8, tyk_26, tyk_4, tcq_4, ht]
  refine ⟨by omega, fun _ => n71 _ x6 _ h6, fun _ => ?_⟩
  refine ⟨by omega, fun _ => n71 _ x6 _ h6, fun h => absurd h (by decide)⟩
theorem e_push {x : Nat} (hx : cl x 4) (ht : M 77 2 = 0) (hb : b < 2) (hC : CI M) (hd : 2 ≤ d) : tC e d 2061 [.inr (.inr (.inl 77)), .inr (.inr (.inl x))] M n (tQn n (fun M' => M' 77 2 = 1 ∧ CI M' ∧ pE b M M')) := by
  refine tst_X6_push ?_
  refine tb_X6_push_0 (c := true) ?_
  simp only [kb_X6_push_0, w_ald_0, w_gf_8_2, tw_t, w_si, w_ic_ge, w_gf_8_1, w_aa, w_ald_1, w_iv1, tfr_0, tfr_1, tfr_2, tfr_3, tfr_4, w_dupi, w_dupr, w_ic, w_iadd, w_pf_8_2, w_nil, w64_r, true_and, and_true, Nat.reduceAdd, Nat.reduceSub, eq_self, tsh_77, tsh_78, tyk_2, tcq_2, tyk_8, tcq_8, tyk_26, tyk_4, tcq_4, ht]
  have hs : tyk (tsh 112) = (3, 4, 128) := by rw [tsh_112]; rfl
  have hq := cq_of (aok_25 (i := 0) cl_112 (by omega))
  have he : tel (tyk (tsh 112)).2.1 112 0 (M 112 0) = 112 + tqo 112 + 3 * (0 : Int).toNat := by rw [hs]; rfl
  rw [he]
  refine ⟨by omega, fun h => absurd h (by decide), fun _ => ⟨by rw [hs], by rw [hs]; exact ⟨by decide, by decide⟩, ⟨by rw [hq.1]; rfl, by rw [hq.1]; rfl⟩, ?_⟩⟩
  refine ts_n (b := 3) (D := 1) (fun d' hd' => k_X2_copy hq hx (Or.inr rfl) hd') hC (by omega) ?_
  intro M1 _ q1 q2
  have ht1 : M1 77 2 = 0 := (q2 77 2 (Or.inr (Or.inl ⟨by decide, by decide, fun _ => by rw [tsh_77]; decide⟩))).trans ht
  have q3 : pE b M M1 := fun k i hk => q2 k i (by
    rcases hk with hk | hk | hk | hk
    · rcases hk with hk | hk | hk
      · exact Or.inl (Or.inl hk)
      · exact Or.inl (Or.inr (Or.inl hk))
      · refine Or.inr (Or.inl ⟨by decide, by decide, fun _ q => ?_⟩)
        rcases hk.2 with h | h
        · rw [h] at q; exact absurd q (by decide)
        · rw [h.1] at q; exact absurd q (by decide)
    · omega
    · omega
    · exact Or.inr (Or.inr (Or.inr hk)))
  try simp only [kb_X6_push_0, w_ald_0, w_gf_8_2, tw_t, w_si, w_ic_ge, w_gf_8_1, w_aa, w_ald_1, w_iv1, tfr_0, tfr_1, tfr_2, tfr_3, tfr_4, w_dupi, w_dupr, w_ic, w_iadd, w_pf_8_2, w_nil, w64_r, true_and, and_true, Nat.reduceAdd, Nat.reduceSub, eq_self, tsh_77, tsh_78, tyk_2, tcq_2, tyk_8, tcq_8, tyk_26, tyk_4, tcq_4, ht1]
  refine tb_X6_push_33 (c := true) ?_
  simp only [kb_X6_push_33, w_re, w64_r, true_and, and_true, Nat.reduceAdd, Nat.reduceSub, eq_self]
  exact ⟨rfl, rfl, tU_eq .., CI_put (s := 8) q1 tsh_77 (fun _ => by show (0 : Int) ≤ 1 ∧ (1 : Int) ≤ 128; omega), pE_tr q3 (pE_put (prt_f (a := 8) (f := 2) (Or.inl hb) cl_77 (by decide) (fun _ q => absurd q (by decide)) (by decide)))⟩
end HAND
theorem tcq_13 : ((13 : Nat) : Int) = 13 := rfl
theorem tcq_11 : ((11 : Nat) : Int) = 11 := rfl
section HAND
variable {e : tE} {b d n : Nat}
theorem k_X11_constant_0 {r : Nat} {x1 x2 : Int} (h0 : cl r 13) (h1 : -2147483648 ≤ x1 ∧ x1 ≤ 2147483647) (h2 : 0 ≤ x2 ∧ x2 ≤ 65535) (hb : b < 2) (hd : 8 ≤ d) : sC e b d 3350 [.inr (.inr (.inl r)), .inl x1, .inl x2] n (SQx n (SQi n (fun z => 0 ≤ z ∧ z ≤ 1)) (fun s => s = "java/lang/IllegalArgumentException" ∨ s = "java/lang/IndexOutOfBoundsException")) := by
  cases x_13 h0
  intro M hC _
  refine tst_X11_constant ?_
  have n53 : ∀ (M1 : tM) (z : Int), (z = 112 ∨ z = 69) → M1 77 2 = 0 → CI M1 → pE b M M1 → tT e d 3350 53 [some (.inr (.inr (.inl 0))), some (.inl x1), some (.inl x2)] [.inl z, .inr (.inr (.inl 77)), .inl x1, .inr (.inr (.inl 0))] M1 n (sQ b M (fun r n' _ => SQx n (SQi n (fun z => 0 ≤ z ∧ z ≤ 1)) (fun s => s = "java/lang/IllegalArgumentException" ∨ s = "java/lang/IndexOutOfBoundsException") r n')) := by
    intro M1 z hz ht hC1 hE
    refine tb_X11_constant_53 (c := true) ?_
    simp only [kb_X11_constant_53, w_lc0, w_ic, w_iv3, tfr_0, tfr_1, tfr_2, tfr_3, tfr_4, w_iv2, w_ire, trg, w64_r, true_and, and_true, Nat.reduceAdd, Nat.reduceSub, eq_self, tsh_0, tyk_13, tsh_77, tyk_8, tcq_8, tsh_5, tyk_11, tcq_13, tcq_11]
    refine tc_i (D := 7) (fun d' hd' => e_makeC (b := b) hz ht hb hC1 hd') (by omega) ?_
    rintro z1 M2 ⟨rfl, q1, q2⟩
    try simp only [kb_X11_constant_53, w_lc0, w_ic, w_iv3, tfr_0, tfr_1, tfr_2, tfr_3, tfr_4, w_iv2, w_ire, trg, w64_r, true_and, and_true, Nat.reduceAdd, Nat.reduceSub, eq_self, tsh_0, tyk_13, tsh_77, tyk_8, tcq_8, tsh_5, tyk_11, tcq_13, tcq_11]
    refine ts_xi (b := b) (D := 4) (fun d' hd' => k_X11_become cl_0 h1 (by omega) hb hd') q1 (by omega) rfl ?_ ?_
    · intro z M3 hz c1 c2
      try simp only [kb_X11_constant_53, w_lc0, w_ic, w_iv3, tfr_0, tfr_1, tfr_2, tfr_3, tfr_4, w_iv2, w_ire, trg, w64_r, true_and, and_true, Nat.reduceAdd, Nat.reduceSub, eq_self, tsh_0, tyk_13, tsh_77, tyk_8, tcq_8, tsh_5, tyk_11, tcq_13, tcq_11]
      exact ⟨by omega, ⟨c1, pE_tr hE (pE_tr q2 c2)⟩, Or.inl ⟨z, rfl, rfl, hz⟩⟩
    · intro s M3 hs c1 c2
      exfalso
      rcases hs with h | h <;> omega
  have n27 : tT e d 3350 27 [some (.inr (.inr (.inl 0))), some (.inl x1), some (.inl x2)] [] M n (sQ b M (fun r n' _ => SQx n (SQi n (fun z => 0 ≤ z ∧ z ≤ 1)) (fun s => s = "java/lang/IllegalArgumentException" ∨ s = "java/lang/IndexOutOfBoundsException") r n')) := by
    refine tb_X11_constant_27 (c := true) ?_
    simp only [kb_X11_constant_27, w_ald_0, w_gf_13_4, tw_t, w_iv0, tfr_0, tfr_1, tfr_2, tfr_3, tfr_4, w_ild_1, w_ild_2, w_bi, w_ic_ne, w_goto, w64_r, true_and, and_true, Nat.reduceAdd, Nat.reduceSub, eq_self, tsh_0, tyk_13, tsh_77, tyk_8, tcq_8, tsh_5, tyk_11, tcq_13, tcq_11]
    refine tc_n (D := 0) (fun d' hd' => e_clear (b := b) hb hC) (by omega) ?_
    rintro M1 ⟨q1, q2, q3⟩
    try simp only [kb_X11_constant_27, w_ald_0, w_gf_13_4, tw_t, w_iv0, tfr_0, tfr_1, tfr_2, tfr_3, tfr_4, w_ild_1, w_ild_2, w_bi, w_ic_ne, w_goto, w64_r, true_and, and_true, Nat.reduceAdd, Nat.reduceSub, eq_self, tsh_0, tyk_13, tsh_77, tyk_8, tcq_8, tsh_5, tyk_11, tcq_13, tcq_11]
    refine ⟨by omega, fun h => ?_, fun h => ?_⟩
    · refine tb_X11_constant_51 (c := true) ?_
      simp only [kb_X11_constant_51, w_bi, w_nil, w64_r, true_and, and_true, Nat.reduceAdd, Nat.reduceSub, eq_self]
      exact n53 M1 69 (Or.inr rfl) q1 q2 q3
    exact n53 M1 112 (Or.inl rfl) q1 q2 q3
  refine tb_X11_constant_0 (c := true) ?_
  simp only [kb_X11_constant_0, w_ald_0, w_ild_1, w_iv1, tfr_0, tfr_1, tfr_2, tfr_3, tfr_4, w_ild_2, w_bi, w_ic_eq, w_new, w64_r, true_and, and_true, Nat.reduceAdd, Nat.reduceSub, eq_self, tsh_0, tyk_13, tsh_77, tyk_8, tcq_8, tsh_5, tyk_11, tcq_13, tcq_11]
  refine tz_xn (D := 0) (fun d' hd' => k_X11_checkShelf cl_0 h1 hd') hC (by omega) rfl ?_ ?_
  · intro _
    try simp only [kb_X11_constant_0, w_ald_0, w_ild_1, w_iv1, tfr_0, tfr_1, tfr_2, tfr_3, tfr_4, w_ild_2, w_bi, w_ic_eq, w_new, w64_r, true_and, and_true, Nat.reduceAdd, Nat.reduceSub, eq_self, tsh_0, tyk_13, tsh_77, tyk_8, tcq_8, tsh_5, tyk_11, tcq_13, tcq_11]
    refine ⟨by omega, fun h => n27, fun h => ?_⟩
    refine ⟨by omega, fun h => n27, fun h => ?_⟩
    exact ⟨⟨hC, pE_refl⟩, Or.inr ⟨_, rfl, rfl, Or.inl rfl⟩⟩
  · intro s hs
    exact ⟨⟨hC, pE_refl⟩, Or.inr ⟨_, rfl, rfl, Or.inr hs⟩⟩
theorem k_X11_change_r {r : Nat} {x1 x2 x4 : Int} (h0 : cl r 13) (h1 : -2147483648 ≤ x1 ∧ x1 ≤ 2147483647) (h2 : -2147483648 ≤ x2 ∧ x2 ≤ 2147483647) (h4 : -2147483648 ≤ x4 ∧ x4 ≤ 2147483647) (hq : 2 ≤ x4 ∧ x4 ≤ 9) (he : EO e) (hb : b < 2) (hd : 8 ≤ d) : sC e b d 3334 [.inr (.inr (.inl r)), .inl x1, .inl x2, .inl 114, .inl x4] n (SQx n (SQi n (fun z => 0 ≤ z ∧ z ≤ 1)) (fun s => s = "java/util/NoSuchElementException" ∨ s = "java/lang/ArithmeticException")) := by
  cases x_13 h0
  intro M hC _
  refine tst_X11_change ?_
  refine tb_X11_change_0 (c := true) ?_
  simp only [kb_X11_change_0, w_ald_0, w_ild_2, w_iv1, tfr_0, tfr_1, tfr_2, tfr_3, tfr_4, w_gf_13_4, tw_t, w_iv0, w_gf_13_3, w_ild_1, w_ild_3, w_lc0, w_ild4, w_iv3, w_iv2, w_ire, trg, w64_r, true_and, and_true, Nat.reduceAdd, Nat.reduceSub, eq_self, tsh_0, tyk_13, tsh_77, tyk_8, tcq_8, tsh_5, tyk_11, tcq_13, tcq_11]
  refine tz_xn (D := 2) (fun d' hd' => k_X11_checkHeld cl_0 h2 hd') hC (by omega) rfl ?_ ?_
  · intro _
    try simp only [kb_X11_change_0, w_ald_0, w_ild_2, w_iv1, tfr_0, tfr_1, tfr_2, tfr_3, tfr_4, w_gf_13_4, tw_t, w_iv0, w_gf_13_3, w_ild_1, w_ild_3, w_lc0, w_ild4, w_iv3, w_iv2, w_ire, trg, w64_r, true_and, and_true, Nat.reduceAdd, Nat.reduceSub, eq_self, tsh_0, tyk_13, tsh_77, tyk_8, tcq_8, tsh_5, tyk_11, tcq_13, tcq_11]
    refine tc_n (D := 0) (fun d' hd' => e_clear (b := b) hb hC) (by omega) ?_
    rintro M1 ⟨q1, q2, q3⟩
    try simp only [kb_X11_change_0, w_ald_0, w_ild_2, w_iv1, tfr_0, tfr_1, tfr_2, tfr_3, tfr_4, w_gf_13_4, tw_t, w_iv0, w_gf_13_3, w_ild_1, w_ild_3, w_lc0, w_ild4, w_iv3, w_iv2, w_ire, trg, w64_r, true_and, and_true, Nat.reduceAdd, Nat.reduceSub, eq_self, tsh_0, tyk_13, tsh_77, tyk_8, tcq_8, tsh_5, tyk_11, tcq_13, tcq_11]
    refine tz_r (D := 1) (fun d' hd' => k_X9_box cl_5 h2 hd') q2 (by omega) ?_
    intro x hx
    try simp only [kb_X11_change_0, w_ald_0, w_ild_2, w_iv1, tfr_0, tfr_1, tfr_2, tfr_3, tfr_4, w_gf_13_4, tw_t, w_iv0, w_gf_13_3, w_ild_1, w_ild_3, w_lc0, w_ild4, w_iv3, w_iv2, w_ire, trg, w64_r, true_and, and_true, Nat.reduceAdd, Nat.reduceSub, eq_self, tsh_0, tyk_13, tsh_77, tyk_8, tcq_8, tsh_5, tyk_11, tcq_13, tcq_11]
    refine tc_n (D := 2) (fun d' hd' => e_push (b := b) hx q1 hb q2 hd') (by omega) ?_
    rintro M2 ⟨q4, q5, q6⟩
    try simp only [kb_X11_change_0, w_ald_0, w_ild_2, w_iv1, tfr_0, tfr_1, tfr_2, tfr_3, tfr_4, w_gf_13_4, tw_t, w_iv0, w_gf_13_3, w_ild_1, w_ild_3, w_lc0, w_ild4, w_iv3, w_iv2, w_ire, trg, w64_r, true_and, and_true, Nat.reduceAdd, Nat.reduceSub, eq_self, tsh_0, tyk_13, tsh_77, tyk_8, tcq_8, tsh_5, tyk_11, tcq_13, tcq_11]
    refine tc_i (D := 7) (fun d' hd' => e_makeR (b := b) he h4 hq q4 hb q5 hd') (by omega) ?_
    rintro z1 M3 ⟨hz1, q7, q8⟩
    try simp only [kb_X11_change_0, w_ald_0, w_ild_2, w_iv1, tfr_0, tfr_1, tfr_2, tfr_3, tfr_4, w_gf_13_4, tw_t, w_iv0, w_gf_13_3, w_ild_1, w_ild_3, w_lc0, w_ild4, w_iv3, w_iv2, w_ire, trg, w64_r, true_and, and_true, Nat.reduceAdd, Nat.reduceSub, eq_self, tsh_0, tyk_13, tsh_77, tyk_8, tcq_8, tsh_5, tyk_11, tcq_13, tcq_11]
    refine ts_xi (b := b) (D := 4) (fun d' hd' => k_X11_become cl_0 h1 (by omega) hb hd') q7 (by omega) rfl ?_ ?_
    · intro z M4 hz c1 c2
      try simp only [kb_X11_change_0, w_ald_0, w_ild_2, w_iv1, tfr_0, tfr_1, tfr_2, tfr_3, tfr_4, w_gf_13_4, tw_t, w_iv0, w_gf_13_3, w_ild_1, w_ild_3, w_lc0, w_ild4, w_iv3, w_iv2, w_ire, trg, w64_r, true_and, and_true, Nat.reduceAdd, Nat.reduceSub, eq_self, tsh_0, tyk_13, tsh_77, tyk_8, tcq_8, tsh_5, tyk_11, tcq_13, tcq_11]
      exact ⟨by omega, ⟨c1, pE_tr q3 (pE_tr q6 (pE_tr q8 c2))⟩, Or.inl ⟨z, rfl, rfl, hz⟩⟩
    · intro s M4 hs c1 c2
      refine ⟨⟨c1, pE_tr q3 (pE_tr q6 (pE_tr q8 c2))⟩, Or.inr ⟨s, rfl, rfl, Or.inr ?_⟩⟩
      rcases hs with h | h
      · exact h.2
      · exfalso; omega
  · intro s hs
    exact ⟨⟨hC, pE_refl⟩, Or.inr ⟨_, rfl, rfl, Or.inl hs⟩⟩
theorem k_X11_root_0 {r : Nat} {x1 x2 x3 : Int} (h0 : cl r 13) (h1 : -2147483648 ≤ x1 ∧ x1 ≤ 2147483647) (h2 : -2147483648 ≤ x2 ∧ x2 ≤ 2147483647) (h3 : -2147483648 ≤ x3 ∧ x3 ≤ 2147483647) (he : EO e) (hb : b < 2) (hd : 9 ≤ d) : sC e b d 3384 [.inr (.inr (.inl r)), .inl x1, .inl x2, .inl x3] n (SQx n (SQi n (fun z => 0 ≤ z ∧ z ≤ 1)) (fun s => s = "java/lang/IllegalArgumentException" ∨ s = "java/lang/IndexOutOfBoundsException" ∨ s = "java/util/NoSuchElementException" ∨ s = "java/lang/ArithmeticException")) := by
  cases x_13 h0
  intro M hC _
  refine tst_X11_root ?_
  refine tb_X11_root_0 (c := true) ?_
  simp only [kb_X11_root_0, w_ald_0, w_ild_1, w_iv1, tfr_0, tfr_1, tfr_2, tfr_3, tfr_4, w_ild_2, w_ild_3, w_ic, w_ic_lt, w_ic_le, w_nil, w64_r, true_and, and_true, Nat.reduceAdd, Nat.reduceSub, eq_self, tsh_0, tyk_13, tsh_77, tyk_8, tcq_8, tsh_5, tyk_11, tcq_13, tcq_11]
  refine tz_xn (D := 0) (fun d' hd' => k_X11_checkShelf cl_0 h1 hd') hC (by omega) rfl ?_ ?_
  · intro _
    try simp only [kb_X11_root_0, w_ald_0, w_ild_1, w_iv1, tfr_0, tfr_1, tfr_2, tfr_3, tfr_4, w_ild_2, w_ild_3, w_ic, w_ic_lt, w_ic_le, w_nil, w64_r, true_and, and_true, Nat.reduceAdd, Nat.reduceSub, eq_self, tsh_0, tyk_13, tsh_77, tyk_8, tcq_8, tsh_5, tyk_11, tcq_13, tcq_11]
    refine tz_xn (D := 0) (fun d' hd' => k_X11_checkShelf cl_0 h2 hd') hC (by omega) rfl ?_ ?_
    · intro _
      try simp only [kb_X11_root_0, w_ald_0, w_ild_1, w_iv1, tfr_0, tfr_1, tfr_2, tfr_3, tfr_4, w_ild_2, w_ild_3, w_ic, w_ic_lt, w_ic_le, w_nil, w64_r, true_and, and_true, Nat.reduceAdd, Nat.reduceSub, eq_self, tsh_0, tyk_13, tsh_77, tyk_8, tcq_8, tsh_5, tyk_11, tcq_13, tcq_11]
      have n20 : tT e d 3384 20 [some (.inr (.inr (.inl 0))), some (.inl x1), some (.inl x2), some (.inl x3)] [] M n (sQ b M (fun r n' _ => SQx n (SQi n (fun z => 0 ≤ z ∧ z ≤ 1)) (fun s => s = "java/lang/IllegalArgumentException" ∨ s = "java/lang/IndexOutOfBoundsException" ∨ s = "java/util/NoSuchElementException" ∨ s = "java/lang/ArithmeticException") r n')) := by
        refine tb_X11_root_20 (c := true) ?_
        simp only [kb_X11_root_20, w_new, w64_r, true_and, and_true, Nat.reduceAdd, Nat.reduceSub, eq_self]
        exact ⟨⟨hC, pE_refl⟩, Or.inr ⟨_, rfl, rfl, Or.inl rfl⟩⟩
      have n30 : (2 ≤ x3 ∧ x3 ≤ 9) → tT e d 3384 30 [some (.inr (.inr (.inl 0))), some (.inl x1), some (.inl x2), some (.inl x3)] [] M n (sQ b M (fun r n' _ => SQx n (SQi n (fun z => 0 ≤ z ∧ z ≤ 1)) (fun s => s = "java/lang/IllegalArgumentException" ∨ s = "java/lang/IndexOutOfBoundsException" ∨ s = "java/util/NoSuchElementException" ∨ s = "java/lang/ArithmeticException") r n')) := by
        intro hq
        refine tb_X11_root_30 (c := true) ?_
        simp only [kb_X11_root_30, w_ald_0, w_ild_1, w_ild_2, w_bi, w_ild_3, w_iv4, tfr_0, tfr_1, tfr_2, tfr_3, tfr_4, w_ire, trg, w64_r, true_and, and_true, Nat.reduceAdd, Nat.reduceSub, eq_self, tsh_0, tyk_13, tsh_77, tyk_8, tcq_8, tsh_5, tyk_11, tcq_13, tcq_11]
        refine ts_xi (b := b) (D := 8) (fun d' hd' => k_X11_change_r cl_0 h1 h2 h3 hq he hb hd') hC (by omega) rfl ?_ ?_
        · intro z M4 hz c1 c2
          try simp only [kb_X11_root_30, w_ald_0, w_ild_1, w_ild_2, w_bi, w_ild_3, w_iv4, tfr_0, tfr_1, tfr_2, tfr_3, tfr_4, w_ire, trg, w64_r, true_and, and_true, Nat.reduceAdd, Nat.reduceSub, eq_self, tsh_0, tyk_13, tsh_77, tyk_8, tcq_8, tsh_5, tyk_11, tcq_13, tcq_11]
          exact ⟨by omega, ⟨c1, c2⟩, Or.inl ⟨z, rfl, rfl, hz⟩⟩
        · intro s M4 hs c1 c2
          exact ⟨⟨c1, c2⟩, Or.inr ⟨s, rfl, rfl, Or.inr (Or.inr hs)⟩⟩
      refine ⟨by omega, fun h => n20, fun h => ?_⟩
      refine ⟨by omega, fun h => n30 (by omega), fun h => n20⟩
    · intro s hs
      exact ⟨⟨hC, pE_refl⟩, Or.inr ⟨_, rfl, rfl, Or.inr (Or.inl hs)⟩⟩
  · intro s hs
    exact ⟨⟨hC, pE_refl⟩, Or.inr ⟨_, rfl, rfl, Or.inr (Or.inl hs)⟩⟩
end HAND
