/-! THE CLASS BY VALUES: an act made. -/
/-- the box at a place of the stack -/
def csA (p : Int) : Nat := if 0 ≤ p ∧ p < 128 then 113 + 3 * p.toNat else 113
/-- a stack with one more box, one changed, or two made one -/
theorem SK_push {M M' : tM} {m : Nat} {B : Nat → Int × Int} {lo hi : Int} (h : SK M m B) (ht : M' 77 2 = ((m + 1 : Nat) : Int)) (hb : BX M' (113 + 3 * m) lo hi) (hg : GBX (lo, hi)) (f : ∀ (k : Nat) (i : Int), (113 ≤ k ∧ k < 113 + 3 * m) → M' k i = M k i) : SK M' (m + 1) (upB B m (lo, hi)) := by
  refine ⟨ht, fun i hi => ?_⟩
  by_cases e : i = m
  · rw [e, upB_eq]
    exact ⟨hb, hg⟩
  · rw [upB_ne e]
    have g := h.2 i (by omega)
    exact ⟨BX_f g.1 (fun j => f _ _ (by omega)) (fun j => f _ _ (by omega)), g.2⟩
theorem SK_one {M M' : tM} {m : Nat} {B : Nat → Int × Int} {lo hi : Int} (h : SK M m B) (hm : 1 ≤ m) (ht : M' 77 2 = (m : Int)) (hb : BX M' (113 + 3 * (m - 1)) lo hi) (hg : GBX (lo, hi)) (f : ∀ (k : Nat) (i : Int), (113 ≤ k ∧ k < 113 + 3 * (m - 1)) → M' k i = M k i) : SK M' m (upB B (m - 1) (lo, hi)) := by
  refine ⟨ht, fun i hi => ?_⟩
  by_cases e : i = m - 1
  · rw [e, upB_eq]
    exact ⟨hb, hg⟩
  · rw [upB_ne e]
    have g := h.2 i hi
    exact ⟨BX_f g.1 (fun j => f _ _ (by omega)) (fun j => f _ _ (by omega)), g.2⟩
theorem SK_two {M M' : tM} {m : Nat} {B : Nat → Int × Int} {lo hi : Int} (h : SK M m B) (hm : 2 ≤ m) (ht : M' 77 2 = ((m - 1 : Nat) : Int)) (hb : BX M' (113 + 3 * (m - 2)) lo hi) (hg : GBX (lo, hi)) (f : ∀ (k : Nat) (i : Int), (113 ≤ k ∧ k < 113 + 3 * (m - 2)) → M' k i = M k i) : SK M' (m - 1) (upB B (m - 2) (lo, hi)) := by
  refine ⟨ht, fun i hi => ?_⟩
  by_cases e : i = m - 2
  · rw [e, upB_eq]
    exact ⟨hb, hg⟩
  · rw [upB_ne e]
    have g := h.2 i (by omega)
    exact ⟨BX_f g.1 (fun j => f _ _ (by omega)) (fun j => f _ _ (by omega)), g.2⟩
theorem ST_0 {z lo hi : Int} (h : ST z lo hi) (hz : z = 0) : NF lo ∧ NF hi := by
  rcases h with ⟨q, _⟩ | ⟨_, q⟩
  · omega
  · exact q
theorem ab_n {lo hi : Int} (h : lo ≤ hi) : 0 ≤ abLo lo hi := by
  unfold abLo
  split
  · omega
  · split <;> omega
theorem LGC_p {v t : Int} (h : LGC v t) : 0 < v := by
  obtain ⟨X, hX, _⟩ := h
  rcases hX with ⟨rfl, _⟩ | ⟨_, k, row, _, ⟨h1, _⟩, _⟩
  · decide
  · have p : (0 : Int) < 2 ^ k := Int.pow_pos (by decide)
    rcases Int.lt_or_le 0 v with g | g
    · exact g
    · have := Int.mul_le_mul_of_nonneg_right g (Int.le_of_lt p)
      omega
theorem ST_2 {z lo hi : Int} (h : ST z lo hi) : 0 ≤ z ∧ z ≤ 2 := by
  rcases h with ⟨q, _⟩ | ⟨q, _⟩ <;> omega
section HAND
variable {e : tE} {b d n : Nat} {M : tM}
theorem z_isPair {a : Int} (ha : 0 ≤ a ∧ a ≤ 65535) : tC e d 1799 [.inl a] M n (tQi n (fun z M' => ((z = 1 ∧ (a = 43 ∨ a = 45 ∨ a = 42 ∨ a = 47)) ∨ (z = 0 ∧ ¬ (a = 43 ∨ a = 45 ∨ a = 42 ∨ a = 47))) ∧ M' = M)) := by
  refine tst_X5_isPair ?_
  have n29 : ∀ z : Int, ((z = 1 ∧ (a = 43 ∨ a = 45 ∨ a = 42 ∨ a = 47)) ∨ (z = 0 ∧ ¬ (a = 43 ∨ a = 45 ∨ a = 42 ∨ a = 47))) → tT e d 1799 29 [some (.inl (a))] [.inl z] M n (tQi n (fun z M' => ((z = 1 ∧ (a = 43 ∨ a = 45 ∨ a = 42 ∨ a = 47)) ∨ (z = 0 ∧ ¬ (a = 43 ∨ a = 45 ∨ a = 42 ∨ a = 47))) ∧ M' = M)) := by
    intro z hz
    refine tb_X5_isPair_29 (c := false) ?_
    simp only [kb_X5_isPair_29, w_ire, trg, true_and, and_true, Nat.reduceAdd, Nat.reduceSub, eq_self]
    exact ⟨by omega, _, rfl, rfl, hz, rfl⟩
  have n24 : (a = 43 ∨ a = 45 ∨ a = 42 ∨ a = 47) → tT e d 1799 24 [some (.inl (a))] [] M n (tQi n (fun z M' => ((z = 1 ∧ (a = 43 ∨ a = 45 ∨ a = 42 ∨ a = 47)) ∨ (z = 0 ∧ ¬ (a = 43 ∨ a = 45 ∨ a = 42 ∨ a = 47))) ∧ M' = M)) := by
    intro h
    refine tb_X5_isPair_24 (c := false) ?_
    simp only [kb_X5_isPair_24, w_ic, w_goto, true_and, and_true, Nat.reduceAdd, Nat.reduceSub, eq_self]
    exact n29 1 (Or.inl ⟨rfl, h⟩)
  refine tb_X5_isPair_0 (c := false) ?_
  simp only [kb_X5_isPair_0, w_ild_0, w_bi, w_ic_eq, w_ic_ne, w_nil, true_and, and_true, Nat.reduceAdd, Nat.reduceSub, eq_self]
  repeat refine And.intro (by omega) ?_
  refine ⟨fun g => n24 (by omega), fun g1 => ?_⟩
  repeat refine And.intro (by omega) ?_
  refine ⟨fun g => n24 (by omega), fun g2 => ?_⟩
  repeat refine And.intro (by omega) ?_
  refine ⟨fun g => n24 (by omega), fun g3 => ?_⟩
  repeat refine And.intro (by omega) ?_
  refine ⟨fun g => ?_, fun g => n24 (by omega)⟩
  refine tb_X5_isPair_28 (c := false) ?_
  simp only [kb_X5_isPair_28, w_ic, w_nil, true_and, and_true, Nat.reduceAdd, Nat.reduceSub, eq_self]
  exact n29 0 (Or.inr ⟨rfl, by omega⟩)
theorem z_at {p : Int} (hp : -2147483648 ≤ p ∧ p < 2147483648) : tC e d 2051 [.inr (.inr (.inl 77)), .inl p] M n (tQr n (fun z M' => z = csA p ∧ M' = M)) := by
  refine tst_X6_at ?_
  have n15 : ¬ (0 ≤ p ∧ p < 128) → tT e d 2051 15 [some (.inr (.inr (.inl (77)))), some (.inl (p))] [.inr (.inr (.inl 112))] M n (tQr n (fun z M' => z = csA p ∧ M' = M)) := by
    intro h
    refine tb_X6_at_15 (c := false) ?_
    simp only [kb_X6_at_15, w_ic, w_goto, true_and, and_true, Nat.reduceAdd, Nat.reduceSub, eq_self]
    refine tb_X6_at_20 (c := false) ?_
    simp only [kb_X6_at_20, w_aa, w_are, true_and, and_true, Nat.reduceAdd, Nat.reduceSub, eq_self, tsh_77, tsh_112, tyk_25, tel_4, tqo_112, tyk_8, tcq_8, tsh_78, tyk_2, tcq_2]
    refine ⟨by decide, _, rfl, rfl, ?_, rfl⟩
    unfold csA
    rw [if_neg h]
    rfl
  refine tb_X6_at_0 (c := false) ?_
  simp only [kb_X6_at_0, w_ald_0, w_gf_8_1, tw_f, w_ild_1, w_if_lt, w_si, w_ic_lt, w_nil, true_and, and_true, Nat.reduceAdd, Nat.reduceSub, eq_self, tsh_77, tsh_112, tyk_25, tel_4, tqo_112, tyk_8, tcq_8, tsh_78, tyk_2, tcq_2]
  repeat refine And.intro (by omega) ?_
  refine ⟨fun g => n15 (by omega), fun g => ?_⟩
  repeat refine And.intro (by omega) ?_
  refine ⟨fun g2 => ?_, fun g2 => n15 (by omega)⟩
  refine tb_X6_at_19 (c := false) ?_
  simp only [kb_X6_at_19, w_ild_1, w_nil, true_and, and_true, Nat.reduceAdd, Nat.reduceSub, eq_self]
  refine tb_X6_at_20 (c := false) ?_
  simp only [kb_X6_at_20, w_aa, w_are, true_and, and_true, Nat.reduceAdd, Nat.reduceSub, eq_self, tsh_77, tsh_112, tyk_25, tel_4, tqo_112, tyk_8, tcq_8, tsh_78, tyk_2, tcq_2]
  refine ⟨by omega, _, rfl, rfl, ?_, rfl⟩
  unfold csA
  rw [if_pos (by omega)]
theorem z_make {a num : Int} {s m xr yr : Nat} {B : Nat → Int × Int} {X Y : Int × Int} (ha : AOK a num s m) (hm : m < 128) (hs : SK M m B) (hx : a = 120 → (M 77 3 = (xr : Int) ∧ cl xr 4 ∧ (xr + 2 < 77 ∨ 496 < xr)) ∧ BX M xr X.1 X.2 ∧ GBX X) (hy : a = 121 → (M 77 4 = (yr : Int) ∧ cl yr 4 ∧ (yr + 2 < 77 ∨ 496 < yr)) ∧ BX M yr Y.1 Y.2 ∧ GBX Y) (hu : UU (M 78 5)) (he : EVr e) (hro : RO M) (hb : b < 2) (hC : CI M) (hd : 7 ≤ d) : tC e d 2055 [.inr (.inr (.inl 77)), .inl a, .inr (.inl num), .inl (s : Int)] M n (tQi n (fun z M' => (0 ≤ z ∧ z ≤ 2) ∧ (z = 0 → ∃ (m' : Nat) (B' : Nat → Int × Int), AR (M 78 5) X Y a num s m B m' B' ∧ SK M' m' B') ∧ RO M' ∧ MKF b M M')) := by
  have ra : 0 ≤ a ∧ a ≤ 65535 := by unfold AOK OOK at ha; omega
  have hm0 := hs.1
  have hu1 := hu.1
  refine tst_X6_make ?_
  refine tb_X6_make_0 (c := false) ?_
  simp only [kb_X6_make_0, w_ald_0, w_gf_8_2, tw_f, w_si, w_ic_lt, w_ic, w_ire, trg, true_and, and_true, Nat.reduceAdd, Nat.reduceSub, eq_self, tsh_77, tsh_112, tyk_25, tel_4, tqo_112, tyk_8, tcq_8, tsh_78, tyk_2, tcq_2, tyk_4, tcq_4, hm0]
  repeat refine And.intro (by omega) ?_
  refine ⟨fun _ => ?_, fun q => absurd (by omega) q⟩
  refine tb_X6_make_12 (c := false) ?_
  simp only [kb_X6_make_12, w_ald_0, w_gf_8_2, tw_f, w_ic, w_isub, w_iv1, tfr_0, tfr_1, tfr_2, tfr_3, tfr_4, w_ast5, tkl_n, tkl_i, tkl_l, tkl_r, w_ast6, w_ast7, w_ild_1, w_is1, w_if_eq, w_ic_le, w_dupi, w_dupr, w_pf_8_2, w_nil, true_and, and_true, Nat.reduceAdd, Nat.reduceSub, eq_self, tsh_77, tsh_112, tyk_25, tel_4, tqo_112, tyk_8, tcq_8, tsh_78, tyk_2, tcq_2, tyk_4, tcq_4, hm0]
  repeat refine And.intro (by omega) ?_
  refine tc_r (D := 0) (fun d' hd' => z_at (p := (m : Int) - 2) (by omega)) (by omega) ?_
  rintro x5 M1 ⟨h5, rfl⟩
  try simp only [kb_X6_make_12, w_ald_0, w_gf_8_2, tw_f, w_ic, w_isub, w_iv1, tfr_0, tfr_1, tfr_2, tfr_3, tfr_4, w_ast5, tkl_n, tkl_i, tkl_l, tkl_r, w_ast6, w_ast7, w_ild_1, w_is1, w_if_eq, w_ic_le, w_dupi, w_dupr, w_pf_8_2, w_nil, true_and, and_true, Nat.reduceAdd, Nat.reduceSub, eq_self, tsh_77, tsh_112, tyk_25, tel_4, tqo_112, tyk_8, tcq_8, tsh_78, tyk_2, tcq_2, tyk_4, tcq_4, hm0]
  repeat refine And.intro (by omega) ?_
  refine tc_r (D := 0) (fun d' hd' => z_at (p := (m : Int) - 1) (by omega)) (by omega) ?_
  rintro x6 M2 ⟨h6, rfl⟩
  try simp only [kb_X6_make_12, w_ald_0, w_gf_8_2, tw_f, w_ic, w_isub, w_iv1, tfr_0, tfr_1, tfr_2, tfr_3, tfr_4, w_ast5, tkl_n, tkl_i, tkl_l, tkl_r, w_ast6, w_ast7, w_ild_1, w_is1, w_if_eq, w_ic_le, w_dupi, w_dupr, w_pf_8_2, w_nil, true_and, and_true, Nat.reduceAdd, Nat.reduceSub, eq_self, tsh_77, tsh_112, tyk_25, tel_4, tqo_112, tyk_8, tcq_8, tsh_78, tyk_2, tcq_2, tyk_4, tcq_4, hm0]
  refine tc_r (D := 0) (fun d' hd' => z_at (p := (m : Int)) (by omega)) (by omega) ?_
  rintro x7 M3 ⟨h7, rfl⟩
  have e7 : x7 = 113 + 3 * m := by rw [h7]; unfold csA; rw [if_pos (by omega), nat_n]
  subst e7
  try simp only [kb_X6_make_12, w_ald_0, w_gf_8_2, tw_f, w_ic, w_isub, w_iv1, tfr_0, tfr_1, tfr_2, tfr_3, tfr_4, w_ast5, tkl_n, tkl_i, tkl_l, tkl_r, w_ast6, w_ast7, w_ild_1, w_is1, w_if_eq, w_ic_le, w_dupi, w_dupr, w_pf_8_2, w_nil, true_and, and_true, Nat.reduceAdd, Nat.reduceSub, eq_self, tsh_77, tsh_112, tyk_25, tel_4, tqo_112, tyk_8, tcq_8, tsh_78, tyk_2, tcq_2, tyk_4, tcq_4, hm0]
  refine tc_i (D := 0) (fun d' hd' => z_isPair ra) (by omega) ?_
  rintro z M4 ⟨hz, rfl⟩
  try simp only [kb_X6_make_12, w_ald_0, w_gf_8_2, tw_f, w_ic, w_isub, w_iv1, tfr_0, tfr_1, tfr_2, tfr_3, tfr_4, w_ast5, tkl_n, tkl_i, tkl_l, tkl_r, w_ast6, w_ast7, w_ild_1, w_is1, w_if_eq, w_ic_le, w_dupi, w_dupr, w_pf_8_2, w_nil, true_and, and_true, Nat.reduceAdd, Nat.reduceSub, eq_self, tsh_77, tsh_112, tyk_25, tel_4, tqo_112, tyk_8, tcq_8, tsh_78, tyk_2, tcq_2, tyk_4, tcq_4, hm0]
  -- without a pair
  have nleaf : ¬ (a = 43 ∨ a = 45 ∨ a = 42 ∨ a = 47) → tT e d 2055 71 [some (.inr (.inr (.inl (77)))), some (.inl (a)), some (.inr (.inl (num))), none, some (.inl ((s : Int))), some (.inr (.inr (.inl (x5)))), some (.inr (.inr (.inl (x6)))), some (.inr (.inr (.inl (113 + 3 * m))))] [] M4 n (tQi n (fun z M' => (0 ≤ z ∧ z ≤ 2) ∧ (z = 0 → ∃ (m' : Nat) (B' : Nat → Int × Int), AR (M4 78 5) X Y a num s m B m' B' ∧ SK M' m' B') ∧ RO M' ∧ MKF b M4 M')) := by
    intro hnp
    have c7 := cl_cs (i := m) hm
    have s7 := c7.1
    have ft := MKF_top (b := b) (v := (m : Int) + 1) hb hC (by omega)
    have t77 : tU M4 77 2 ((m : Int) + 1) 77 2 = ((m + 1 : Nat) : Int) := by rw [tU_eq]; omega
    have t78 : tU M4 77 2 ((m : Int) + 1) 78 5 = M4 78 5 := tU_nk (by decide)
    have tro : RO (tU M4 77 2 ((m : Int) + 1)) := RO_u hro (tU_nk (by decide)) (tU_nk (by decide))
    have tk : ∀ (k : Nat) (i : Int), k ≠ 77 → tU M4 77 2 ((m : Int) + 1) k i = M4 k i := fun k i q => tU_nk q
    -- what comes of a leaf
    have fin : ∀ (M5 M6 : tM) (z L H : Int), M5 77 2 = ((m + 1 : Nat) : Int) → MKF b M4 M5 → (∀ (k : Nat) (i : Int), k ≠ 77 → M5 k i = M4 k i) → BX M6 (113 + 3 * m) L H → (0 ≤ z ∧ z ≤ 2) → (z = 0 → NF L ∧ NF H) → RO M6 → AE b M5 M6 (113 + 3 * m) → (z = 0 → L ≤ H ∧ AR (M4 78 5) X Y a num s m B (m + 1) (upB B m (L, H))) → (0 ≤ z ∧ z ≤ 2) ∧ (z = 0 → ∃ (m' : Nat) (B' : Nat → Int × Int), AR (M4 78 5) X Y a num s m B m' B' ∧ SK M6 m' B') ∧ RO M6 ∧ MKF b M4 M6 := by
      intro M5 M6 z L H p0 ft tk p1 pz p2 p3 p4 p5
      refine ⟨pz, fun hz0 => ?_, p3, MKF_tr ft (MKF_AE hm p4)⟩
      obtain ⟨p6, p7⟩ := p5 hz0
      refine ⟨m + 1, _, p7, SK_push hs ((p4.2 77 2 (by omega) (by omega) (by omega)).trans p0) p1 ⟨p2 hz0, p6⟩ (fun k i q => ?_)⟩
      rw [p4.2 k i (by omega) (by omega) (by omega)]
      exact tk k i (by omega)
    -- and of one box
    have fin1 : ∀ (M6 : tM) (z L H : Int), 1 ≤ m → BX M6 (113 + 3 * (m - 1)) L H → (0 ≤ z ∧ z ≤ 2) → (z = 0 → NF L ∧ NF H) → RO M6 → AE b M4 M6 (113 + 3 * (m - 1)) → (z = 0 → L ≤ H ∧ AR (M4 78 5) X Y a num s m B m (upB B (m - 1) (L, H))) → (0 ≤ z ∧ z ≤ 2) ∧ (z = 0 → ∃ (m' : Nat) (B' : Nat → Int × Int), AR (M4 78 5) X Y a num s m B m' B' ∧ SK M6 m' B') ∧ RO M6 ∧ MKF b M4 M6 := by
      intro M6 z L H hm1 p1 pz p2 p3 p4 p5
      refine ⟨pz, fun hz0 => ?_, p3, MKF_AE (by omega) p4⟩
      obtain ⟨p6, p7⟩ := p5 hz0
      exact ⟨m, _, p7, SK_one hs hm1 ((p4.2 77 2 (by omega) (by omega) (by omega)).trans hm0) p1 ⟨p2 hz0, p6⟩ (fun k i q => p4.2 k i (by omega) (by omega) (by omega))⟩
    have e6 : 1 ≤ m → x6 = 113 + 3 * (m - 1) := fun hm1 => by rw [h6]; unfold csA; rw [if_pos (by omega)]; omega
    rcases ha with ⟨rfl, hnum, hs18⟩ | rfl | rfl | rfl | rfl | ⟨q, _⟩ | ⟨q, hm1⟩
    · refine tb_X6_make_71 (c := false) ?_
      simp only [kb_X6_make_71, w_ild_1, w_sw, tsw, true_and, and_true, Nat.reduceAdd, Nat.reduceSub, eq_self]
      refine ⟨by omega, ?_⟩
      repeat refine ⟨fun h => absurd h (by decide), fun _ => ?_⟩
      refine ⟨fun _ => ?_, fun h => absurd rfl h⟩
      show tT e d 2055 172 _ _ _ _ _
      refine tb_X6_make_172 (c := false) ?_
      simp only [kb_X6_make_172, w_ald_0, w_dupi, w_dupr, w_gf_8_2, tw_f, w_ic, w_iadd, w_pf_8_2, w_gf_8_0, w_ald7, w_lld_2, w_ild4, w_iv3, tfr_0, tfr_1, tfr_2, tfr_3, tfr_4, w_ire, trg, true_and, and_true, Nat.reduceAdd, Nat.reduceSub, eq_self, tsh_77, tsh_112, tyk_25, tel_4, tqo_112, tyk_8, tcq_8, tsh_78, tyk_2, tcq_2, tyk_4, tcq_4, hm0, s7]
      repeat refine And.intro (by omega) ?_
      generalize tU M4 77 2 ((m : Int) + 1) = M5 at ft t77 t78 tro tk ⊢
      refine tc_i (D := 3) (fun d' hd' => z_tellNumber (b := b) c7 (by omega) hnum hs18 (by rw [t78]; exact hu) tro hb ft.1.1 hd') (by omega) ?_
      rintro z M6 ⟨⟨q1, q2⟩, q3, q4⟩
      try simp only [kb_X6_make_172, w_ald_0, w_dupi, w_dupr, w_gf_8_2, tw_f, w_ic, w_iadd, w_pf_8_2, w_gf_8_0, w_ald7, w_lld_2, w_ild4, w_iv3, tfr_0, tfr_1, tfr_2, tfr_3, tfr_4, w_ire, trg, true_and, and_true, Nat.reduceAdd, Nat.reduceSub, eq_self, tsh_77, tsh_112, tyk_25, tel_4, tqo_112, tyk_8, tcq_8, tsh_78, tyk_2, tcq_2, tyk_4, tcq_4, hm0, s7]
      rw [t78] at q1 q2
      exact ⟨_, rfl, rfl, fin M5 M6 z _ _ t77 ft tk q1 (ST_2 q2) (ST_0 q2) q3 q4 (fun _ => ⟨dn_up (by omega), Or.inl ⟨rfl, rfl, rfl⟩⟩)⟩
    · refine tb_X6_make_71 (c := false) ?_
      simp only [kb_X6_make_71, w_ild_1, w_sw, tsw, true_and, and_true, Nat.reduceAdd, Nat.reduceSub, eq_self]
      refine ⟨by omega, ?_⟩
      repeat refine ⟨fun h => absurd h (by decide), fun _ => ?_⟩
      refine ⟨fun _ => ?_, fun h => absurd rfl h⟩
      show tT e d 2055 195 _ _ _ _ _
      refine tb_X6_make_195 (c := false) ?_
      simp only [kb_X6_make_195, w_ald_0, w_dupi, w_dupr, w_gf_8_2, tw_f, w_ic, w_iadd, w_pf_8_2, w_gf_8_0, w_ald7, w_ild_1, w_iv2, tfr_0, tfr_1, tfr_2, tfr_3, tfr_4, w_ire, trg, true_and, and_true, Nat.reduceAdd, Nat.reduceSub, eq_self, tsh_77, tsh_112, tyk_25, tel_4, tqo_112, tyk_8, tcq_8, tsh_78, tyk_2, tcq_2, tyk_4, tcq_4, hm0, s7]
      repeat refine And.intro (by omega) ?_
      generalize tU M4 77 2 ((m : Int) + 1) = M5 at ft t77 t78 tro tk ⊢
      refine tc_i (D := 3) (fun d' hd' => z_tellConst (b := b) (by decide) c7 (by omega) (by rw [t78]; exact hu) tro hb ft.1.1 hd') (by omega) ?_
      rintro z M6 ⟨⟨q1, q2⟩, q3, q4⟩
      try simp only [kb_X6_make_195, w_ald_0, w_dupi, w_dupr, w_gf_8_2, tw_f, w_ic, w_iadd, w_pf_8_2, w_gf_8_0, w_ald7, w_ild_1, w_iv2, tfr_0, tfr_1, tfr_2, tfr_3, tfr_4, w_ire, trg, true_and, and_true, Nat.reduceAdd, Nat.reduceSub, eq_self, tsh_77, tsh_112, tyk_25, tel_4, tqo_112, tyk_8, tcq_8, tsh_78, tyk_2, tcq_2, tyk_4, tcq_4, hm0, s7]
      rw [t78] at q1 q2
      exact ⟨_, rfl, rfl, fin M5 M6 z _ _ t77 ft tk q1 (ST_2 q2) (ST_0 q2) q3 q4 (fun _ => ⟨dn_up (by omega), Or.inr (Or.inl ⟨Or.inl rfl, rfl, rfl⟩)⟩)⟩
    · refine tb_X6_make_71 (c := false) ?_
      simp only [kb_X6_make_71, w_ild_1, w_sw, tsw, true_and, and_true, Nat.reduceAdd, Nat.reduceSub, eq_self]
      refine ⟨by omega, ?_⟩
      repeat refine ⟨fun h => absurd h (by decide), fun _ => ?_⟩
      refine ⟨fun _ => ?_, fun h => absurd rfl h⟩
      show tT e d 2055 195 _ _ _ _ _
      refine tb_X6_make_195 (c := false) ?_
      simp only [kb_X6_make_195, w_ald_0, w_dupi, w_dupr, w_gf_8_2, tw_f, w_ic, w_iadd, w_pf_8_2, w_gf_8_0, w_ald7, w_ild_1, w_iv2, tfr_0, tfr_1, tfr_2, tfr_3, tfr_4, w_ire, trg, true_and, and_true, Nat.reduceAdd, Nat.reduceSub, eq_self, tsh_77, tsh_112, tyk_25, tel_4, tqo_112, tyk_8, tcq_8, tsh_78, tyk_2, tcq_2, tyk_4, tcq_4, hm0, s7]
      repeat refine And.intro (by omega) ?_
      generalize tU M4 77 2 ((m : Int) + 1) = M5 at ft t77 t78 tro tk ⊢
      refine tc_i (D := 3) (fun d' hd' => z_tellConst (b := b) (by decide) c7 (by omega) (by rw [t78]; exact hu) tro hb ft.1.1 hd') (by omega) ?_
      rintro z M6 ⟨⟨q1, q2⟩, q3, q4⟩
      try simp only [kb_X6_make_195, w_ald_0, w_dupi, w_dupr, w_gf_8_2, tw_f, w_ic, w_iadd, w_pf_8_2, w_gf_8_0, w_ald7, w_ild_1, w_iv2, tfr_0, tfr_1, tfr_2, tfr_3, tfr_4, w_ire, trg, true_and, and_true, Nat.reduceAdd, Nat.reduceSub, eq_self, tsh_77, tsh_112, tyk_25, tel_4, tqo_112, tyk_8, tcq_8, tsh_78, tyk_2, tcq_2, tyk_4, tcq_4, hm0, s7]
      rw [t78] at q1 q2
      exact ⟨_, rfl, rfl, fin M5 M6 z _ _ t77 ft tk q1 (ST_2 q2) (ST_0 q2) q3 q4 (fun _ => ⟨dn_up (by omega), Or.inr (Or.inl ⟨Or.inr rfl, rfl, rfl⟩)⟩)⟩
    · obtain ⟨hx, hX⟩ := hx rfl
      have sx := hx.2.1.1
      have t773 : tU M4 77 2 ((m : Int) + 1) 77 3 = (xr : Int) := (tU_ni (by decide)).trans hx.1
      refine tb_X6_make_71 (c := false) ?_
      simp only [kb_X6_make_71, w_ild_1, w_sw, tsw, true_and, and_true, Nat.reduceAdd, Nat.reduceSub, eq_self]
      refine ⟨by omega, ?_⟩
      repeat refine ⟨fun h => absurd h (by decide), fun _ => ?_⟩
      refine ⟨fun _ => ?_, fun h => absurd rfl h⟩
      show tT e d 2055 216 _ _ _ _ _
      refine tb_X6_make_216 (c := false) ?_
      simp only [kb_X6_make_216, w_ald_0, w_dupi, w_dupr, w_gf_8_2, tw_f, w_ic, w_iadd, w_pf_8_2, w_ald7, w_ild_1, w_bi, w_ic_ne, w_gf_8_3, w_goto, true_and, and_true, Nat.reduceAdd, Nat.reduceSub, eq_self, tsh_77, tsh_112, tyk_25, tel_4, tqo_112, tyk_8, tcq_8, tsh_78, tyk_2, tcq_2, tyk_4, tcq_4, hm0, s7, t773, nat_n]
      repeat refine And.intro (by omega) ?_
      first | refine ⟨fun q => absurd q (by omega), fun _ => ?_⟩ | refine fun _ => ?_
      generalize tU M4 77 2 ((m : Int) + 1) = M5 at ft t77 t78 tro tk ⊢
      refine tb_X6_make_245 (c := false) ?_
      simp only [kb_X6_make_245, w_iv1, tfr_0, tfr_1, tfr_2, tfr_3, tfr_4, w_ic, w_ire, trg, true_and, and_true, Nat.reduceAdd, Nat.reduceSub, eq_self, tsh_77, tsh_112, tyk_25, tel_4, tqo_112, tyk_8, tcq_8, tsh_78, tyk_2, tcq_2, tyk_4, tcq_4, s7]
      refine tc_n (D := 1) (fun d' hd' => z_copy (b := b) c7 hx.2.1 (BX_f hX.1 (fun j => tk _ _ (by omega)) (fun j => tk _ _ (by omega))) hb ft.1.1 hd') (by omega) ?_
      rintro M6 ⟨q1, q2⟩
      try simp only [kb_X6_make_245, w_iv1, tfr_0, tfr_1, tfr_2, tfr_3, tfr_4, w_ic, w_ire, trg, true_and, and_true, Nat.reduceAdd, Nat.reduceSub, eq_self, tsh_77, tsh_112, tyk_25, tel_4, tqo_112, tyk_8, tcq_8, tsh_78, tyk_2, tcq_2, tyk_4, tcq_4, s7]
      exact ⟨_, rfl, rfl, fin M5 M6 0 _ _ t77 ft tk q1 (by decide) (fun _ => hX.2.1) (RO_b tro q2 (by omega)) (AE_b q2) (fun _ => ⟨hX.2.2, Or.inr (Or.inr (Or.inl ⟨rfl, rfl, rfl⟩))⟩)⟩
    · obtain ⟨hy, hY⟩ := hy rfl
      have sy := hy.2.1.1
      have t774 : tU M4 77 2 ((m : Int) + 1) 77 4 = (yr : Int) := (tU_ni (by decide)).trans hy.1
      refine tb_X6_make_71 (c := false) ?_
      simp only [kb_X6_make_71, w_ild_1, w_sw, tsw, true_and, and_true, Nat.reduceAdd, Nat.reduceSub, eq_self]
      refine ⟨by omega, ?_⟩
      repeat refine ⟨fun h => absurd h (by decide), fun _ => ?_⟩
      refine ⟨fun _ => ?_, fun h => absurd rfl h⟩
      show tT e d 2055 216 _ _ _ _ _
      refine tb_X6_make_216 (c := false) ?_
      simp only [kb_X6_make_216, w_ald_0, w_dupi, w_dupr, w_gf_8_2, tw_f, w_ic, w_iadd, w_pf_8_2, w_ald7, w_ild_1, w_bi, w_ic_ne, w_gf_8_3, w_goto, true_and, and_true, Nat.reduceAdd, Nat.reduceSub, eq_self, tsh_77, tsh_112, tyk_25, tel_4, tqo_112, tyk_8, tcq_8, tsh_78, tyk_2, tcq_2, tyk_4, tcq_4, hm0, s7]
      repeat refine And.intro (by omega) ?_
      refine ⟨fun _ => ?_, fun q => absurd (by decide) q⟩
      refine tb_X6_make_241 (c := false) ?_
      simp only [kb_X6_make_241, w_ald_0, w_gf_8_4, tw_f, w_nil, true_and, and_true, Nat.reduceAdd, Nat.reduceSub, eq_self, tsh_77, tsh_112, tyk_25, tel_4, tqo_112, tyk_8, tcq_8, tsh_78, tyk_2, tcq_2, tyk_4, tcq_4, t774, nat_n]
      generalize tU M4 77 2 ((m : Int) + 1) = M5 at ft t77 t78 tro tk ⊢
      refine tb_X6_make_245 (c := false) ?_
      simp only [kb_X6_make_245, w_iv1, tfr_0, tfr_1, tfr_2, tfr_3, tfr_4, w_ic, w_ire, trg, true_and, and_true, Nat.reduceAdd, Nat.reduceSub, eq_self, tsh_77, tsh_112, tyk_25, tel_4, tqo_112, tyk_8, tcq_8, tsh_78, tyk_2, tcq_2, tyk_4, tcq_4, s7]
      refine tc_n (D := 1) (fun d' hd' => z_copy (b := b) c7 hy.2.1 (BX_f hY.1 (fun j => tk _ _ (by omega)) (fun j => tk _ _ (by omega))) hb ft.1.1 hd') (by omega) ?_
      rintro M6 ⟨q1, q2⟩
      try simp only [kb_X6_make_245, w_iv1, tfr_0, tfr_1, tfr_2, tfr_3, tfr_4, w_ic, w_ire, trg, true_and, and_true, Nat.reduceAdd, Nat.reduceSub, eq_self, tsh_77, tsh_112, tyk_25, tel_4, tqo_112, tyk_8, tcq_8, tsh_78, tyk_2, tcq_2, tyk_4, tcq_4, s7]
      exact ⟨_, rfl, rfl, fin M5 M6 0 _ _ t77 ft tk q1 (by decide) (fun _ => hY.2.1) (RO_b tro q2 (by omega)) (AE_b q2) (fun _ => ⟨hY.2.2, Or.inr (Or.inr (Or.inr (Or.inl ⟨rfl, rfl, rfl⟩)))⟩)⟩
    · exact absurd (by omega) hnp
    · have e6' := e6 hm1
      subst e6'
      have c6 := cl_cs (i := m - 1) (by omega)
      have s6 := c6.1
      have g6 := hs.2 (m - 1) (by omega)
      obtain ⟨⟨n61, n62⟩, o6⟩ : GBX (B (m - 1)) := g6.2
      rcases q with rfl | rfl | hoo
      · refine tb_X6_make_71 (c := false) ?_
        simp only [kb_X6_make_71, w_ild_1, w_sw, tsw, true_and, and_true, Nat.reduceAdd, Nat.reduceSub, eq_self]
        refine ⟨by omega, ?_⟩
        repeat refine ⟨fun h => absurd h (by decide), fun _ => ?_⟩
        refine ⟨fun _ => ?_, fun h => absurd rfl h⟩
        show tT e d 2055 298 _ _ _ _ _
        refine tb_X6_make_298 (c := false) ?_
        simp only [kb_X6_make_298, w_ald_0, w_gf_8_0, tw_f, w_ald6, w_iv1, tfr_0, tfr_1, tfr_2, tfr_3, tfr_4, w_ire, trg, true_and, and_true, Nat.reduceAdd, Nat.reduceSub, eq_self, tsh_77, tsh_112, tyk_25, tel_4, tqo_112, tyk_8, tcq_8, tsh_78, tyk_2, tcq_2, tyk_4, tcq_4, s6]
        refine tc_i (D := 3) (fun d' hd' => z_negative (b := b) c6 g6.1 n61 n62 hu hb hC hd') (by omega) ?_
        rintro z M6 ⟨⟨q1, q2⟩, q3⟩
        try simp only [kb_X6_make_298, w_ald_0, w_gf_8_0, tw_f, w_ald6, w_iv1, tfr_0, tfr_1, tfr_2, tfr_3, tfr_4, w_ire, trg, true_and, and_true, Nat.reduceAdd, Nat.reduceSub, eq_self, tsh_77, tsh_112, tyk_25, tel_4, tqo_112, tyk_8, tcq_8, tsh_78, tyk_2, tcq_2, tyk_4, tcq_4, s6]
        exact ⟨_, rfl, rfl, fin1 M6 z _ _ hm1 q1 (ST_2 q2) (ST_0 q2) (RO_b hro q3 (by omega)) (AE_b q3) (fun _ => ⟨dnvup_o hu (by omega), Or.inr (Or.inr (Or.inr (Or.inr (Or.inr (Or.inr (Or.inr (Or.inr (Or.inl ⟨rfl, hm1, rfl, rfl⟩))))))))⟩)⟩
      · refine tb_X6_make_71 (c := false) ?_
        simp only [kb_X6_make_71, w_ild_1, w_sw, tsw, true_and, and_true, Nat.reduceAdd, Nat.reduceSub, eq_self]
        refine ⟨by omega, ?_⟩
        repeat refine ⟨fun h => absurd h (by decide), fun _ => ?_⟩
        refine ⟨fun _ => ?_, fun h => absurd rfl h⟩
        show tT e d 2055 308 _ _ _ _ _
        refine tb_X6_make_308 (c := false) ?_
        simp only [kb_X6_make_308, w_ald_0, w_gf_8_0, tw_f, w_ald6, w_iv1, tfr_0, tfr_1, tfr_2, tfr_3, tfr_4, w_ire, trg, true_and, and_true, Nat.reduceAdd, Nat.reduceSub, eq_self, tsh_77, tsh_112, tyk_25, tel_4, tqo_112, tyk_8, tcq_8, tsh_78, tyk_2, tcq_2, tyk_4, tcq_4, s6]
        refine tc_i (D := 3) (fun d' hd' => z_size (b := b) c6 g6.1 n61 n62 hu hb hC hd') (by omega) ?_
        rintro z M6 ⟨⟨q1, q2⟩, q3⟩
        try simp only [kb_X6_make_308, w_ald_0, w_gf_8_0, tw_f, w_ald6, w_iv1, tfr_0, tfr_1, tfr_2, tfr_3, tfr_4, w_ire, trg, true_and, and_true, Nat.reduceAdd, Nat.reduceSub, eq_self, tsh_77, tsh_112, tyk_25, tel_4, tqo_112, tyk_8, tcq_8, tsh_78, tyk_2, tcq_2, tyk_4, tcq_4, s6]
        exact ⟨_, rfl, rfl, fin1 M6 z _ _ hm1 q1 (ST_2 q2) (ST_0 q2) (RO_b hro q3 (by omega)) (AE_b q3) (fun _ => ⟨dnvup_o hu (ab_o o6), Or.inr (Or.inr (Or.inr (Or.inr (Or.inr (Or.inr (Or.inr (Or.inr (Or.inr (Or.inl ⟨rfl, hm1, rfl, rfl⟩)))))))))⟩)⟩
      · have n318 : tT e d 2055 318 [some (.inr (.inr (.inl (77)))), some (.inl (a)), some (.inr (.inl (num))), none, some (.inl ((s : Int))), some (.inr (.inr (.inl (x5)))), some (.inr (.inr (.inl (113 + 3 * (m - 1))))), some (.inr (.inr (.inl (113 + 3 * m))))] [] M4 n (tQi n (fun z M' => (0 ≤ z ∧ z ≤ 2) ∧ (z = 0 → ∃ (m' : Nat) (B' : Nat → Int × Int), AR (M4 78 5) X Y a num s m B m' B' ∧ SK M' m' B') ∧ RO M' ∧ MKF b M4 M')) := by
          refine tb_X6_make_318 (c := false) ?_
          simp only [kb_X6_make_318, w_ald_0, w_gf_8_0, tw_f, w_ald6, w_ild_1, w_ild4, w_iv3, tfr_0, tfr_1, tfr_2, tfr_3, tfr_4, w_ire, trg, true_and, and_true, Nat.reduceAdd, Nat.reduceSub, eq_self, tsh_77, tsh_112, tyk_25, tel_4, tqo_112, tyk_8, tcq_8, tsh_78, tyk_2, tcq_2, tyk_4, tcq_4, s6]
          refine tc_i (D := 6) (fun d' hd' => z_ofOne (b := b) hoo c6 (by omega) g6.1 n61 n62 o6 hu he hro hb hC hd') (by omega) ?_
          rintro z M6 ⟨q1, q2, q3⟩
          try simp only [kb_X6_make_318, w_ald_0, w_gf_8_0, tw_f, w_ald6, w_ild_1, w_ild4, w_iv3, tfr_0, tfr_1, tfr_2, tfr_3, tfr_4, w_ire, trg, true_and, and_true, Nat.reduceAdd, Nat.reduceSub, eq_self, tsh_77, tsh_112, tyk_25, tel_4, tqo_112, tyk_8, tcq_8, tsh_78, tyk_2, tcq_2, tyk_4, tcq_4, s6]
          refine ⟨_, rfl, rfl, ?_⟩
          rcases q1 with rfl | ⟨t1, t2, ⟨c1, c2⟩, q4, q5⟩
          · exact ⟨by decide, fun h => absurd h (by decide), q2, MKF_AE (by omega) q3⟩
          · refine fin1 M6 z _ _ hm1 q4 (ST_2 q5) (ST_0 q5) q2 q3 (fun hz0 => ?_)
            have nf := ST_0 q5 hz0
            have d1 := COD_E hu c1 (Or.inl nf.1)
            have d2 := COD_E hu c2 (Or.inr nf.2)
            have ar := ab_r n61 n62
            have ao := ab_o o6
            have an := ab_n o6
            have h108 : a = 108 → 0 < (B (m - 1)).1 := fun h => by
              subst h
              have eL : oLo 108 s (B (m - 1)).1 (B (m - 1)).2 = (B (m - 1)).1 := if_neg (fun q => absurd q.1 (by decide))
              rcases d1 with ⟨q, _⟩ | ⟨q, _⟩ | ⟨q, _⟩ | ⟨_, q⟩ | ⟨q, _⟩ <;> try (exact absurd q (by decide))
              rw [eL] at q
              exact LGC_p q
            have hle : t1 ≤ t2 := by
              by_cases he2 : a = 94 ∧ s % 2 = 0
              · have eL : oLo a s (B (m - 1)).1 (B (m - 1)).2 = abLo (B (m - 1)).1 (B (m - 1)).2 := if_pos he2
                have eH : oHi a s (B (m - 1)).1 (B (m - 1)).2 = abHi (B (m - 1)).1 (B (m - 1)).2 := if_pos he2
                rw [eL] at d1
                rw [eH] at d2
                exact COE_le hoo ar ao (fun _ _ => an) (fun h => by omega) d1 d2
              · have eL : oLo a s (B (m - 1)).1 (B (m - 1)).2 = (B (m - 1)).1 := if_neg he2
                have eH : oHi a s (B (m - 1)).1 (B (m - 1)).2 = (B (m - 1)).2 := if_neg he2
                rw [eL] at d1
                rw [eH] at d2
                exact COE_le hoo ⟨n61, n62⟩ o6 (fun h h2 => absurd ⟨h, h2⟩ he2) h108 d1 d2
            exact ⟨dnup_o hu hle, Or.inr (Or.inr (Or.inr (Or.inr (Or.inr (Or.inr (Or.inr (Or.inr (Or.inr (Or.inr ⟨hoo, hm1, rfl, h108, t1, t2, ⟨d1, d2⟩, rfl⟩)))))))))⟩
        have na : a ≠ 35 ∧ a ≠ 42 ∧ a ≠ 43 ∧ a ≠ 45 ∧ a ≠ 47 ∧ a ≠ 69 ∧ a ≠ 98 ∧ a ≠ 112 ∧ a ≠ 120 ∧ a ≠ 121 ∧ a ≠ 126 := by unfold OOK at hoo; omega
        refine tb_X6_make_71 (c := false) ?_
        simp only [kb_X6_make_71, w_ild_1, w_sw, tsw, true_and, and_true, Nat.reduceAdd, Nat.reduceSub, eq_self]
        refine ⟨by omega, ?_⟩
        repeat refine ⟨fun h => absurd h (by omega), fun _ => ?_⟩
        show tT e d 2055 318 _ _ _ _ _
        exact n318
  have npair : 2 ≤ m → (a = 43 ∨ a = 45 ∨ a = 42 ∨ a = 47) → tT e d 2055 71 [some (.inr (.inr (.inl (77)))), some (.inl (a)), some (.inr (.inl (num))), none, some (.inl ((s : Int))), some (.inr (.inr (.inl (x5)))), some (.inr (.inr (.inl (x6)))), some (.inr (.inr (.inl (113 + 3 * m))))] [] (tU M4 77 2 ((m : Int) - 1)) n (tQi n (fun z M' => (0 ≤ z ∧ z ≤ 2) ∧ (z = 0 → ∃ (m' : Nat) (B' : Nat → Int × Int), AR (M4 78 5) X Y a num s m B m' B' ∧ SK M' m' B') ∧ RO M' ∧ MKF b M4 M')) := by
    intro hm2 hp
    have e5 : x5 = 113 + 3 * (m - 2) := by rw [h5]; unfold csA; rw [if_pos (by omega)]; omega
    have e6 : x6 = 113 + 3 * (m - 1) := by rw [h6]; unfold csA; rw [if_pos (by omega)]; omega
    subst e5
    subst e6
    have ft := MKF_top (b := b) (v := (m : Int) - 1) hb hC (by omega)
    have t77 : tU M4 77 2 ((m : Int) - 1) 77 2 = ((m - 1 : Nat) : Int) := by rw [tU_eq]; omega
    have t78 : tU M4 77 2 ((m : Int) - 1) 78 5 = M4 78 5 := tU_nk (by decide)
    have tro : RO (tU M4 77 2 ((m : Int) - 1)) := RO_u hro (tU_nk (by decide)) (tU_nk (by decide))
    have tk : ∀ (k : Nat) (i : Int), k ≠ 77 → tU M4 77 2 ((m : Int) - 1) k i = M4 k i := fun k i q => tU_nk q
    generalize tU M4 77 2 ((m : Int) - 1) = M5 at ft t77 t78 tro tk ⊢
    have c5 := cl_cs (i := m - 2) (by omega)
    have c6 := cl_cs (i := m - 1) (by omega)
    have g5 := hs.2 (m - 2) (by omega)
    have g6 := hs.2 (m - 1) (by omega)
    have v5 : BX M5 (113 + 3 * (m - 2)) (B (m - 2)).1 (B (m - 2)).2 := BX_f g5.1 (fun j => tk _ _ (by omega)) (fun j => tk _ _ (by omega))
    have v6 : BX M5 (113 + 3 * (m - 1)) (B (m - 1)).1 (B (m - 1)).2 := BX_f g6.1 (fun j => tk _ _ (by omega)) (fun j => tk _ _ (by omega))
    have s5 := c5.1
    have s6 := c6.1
    obtain ⟨⟨⟨n51, n52⟩, o5⟩, ⟨n61, n62⟩, o6⟩ : GBX (B (m - 2)) ∧ GBX (B (m - 1)) := ⟨g5.2, g6.2⟩
    -- what comes of a pair
    have fin : ∀ (M6 : tM) (z L H : Int), BX M6 (113 + 3 * (m - 2)) L H → ST z L H → RO M6 → AX b M5 M6 (113 + 3 * (m - 2)) (113 + 3 * (m - 1)) → (z = 0 → L ≤ H ∧ AR (M4 78 5) X Y a num s m B (m - 1) (upB B (m - 2) (L, H))) → (0 ≤ z ∧ z ≤ 2) ∧ (z = 0 → ∃ (m' : Nat) (B' : Nat → Int × Int), AR (M4 78 5) X Y a num s m B m' B' ∧ SK M6 m' B') ∧ RO M6 ∧ MKF b M4 M6 := by
      intro M6 z L H p1 p2 p3 p4 p5
      refine ⟨ST_2 p2, fun hz0 => ?_, p3, MKF_tr ft (MKF_AX (by omega) (by omega) p4)⟩
      obtain ⟨p6, p7⟩ := p5 hz0
      refine ⟨m - 1, _, p7, SK_two hs hm2 ((p4.2 77 2 (by omega) (by omega) (by omega) (by omega) (by omega)).trans t77) p1 ⟨ST_0 p2 hz0, p6⟩ (fun k i q => ?_)⟩
      rw [p4.2 k i (by omega) (by omega) (by omega) (by omega) (by omega)]
      exact tk k i (by omega)
    have ne56 : 113 + 3 * (m - 2) ≠ 113 + 3 * (m - 1) := by omega
    rcases hp with rfl | rfl | rfl | rfl
    · refine tb_X6_make_71 (c := false) ?_
      simp only [kb_X6_make_71, w_ild_1, w_sw, tsw, true_and, and_true, Nat.reduceAdd, Nat.reduceSub, eq_self]
      refine ⟨by omega, ?_⟩
      repeat refine ⟨fun h => absurd h (by decide), fun _ => ?_⟩
      refine ⟨fun _ => ?_, fun h => absurd rfl h⟩
      show tT e d 2055 250 _ _ _ _ _
      refine tb_X6_make_250 (c := false) ?_
      simp only [kb_X6_make_250, w_ald_0, w_gf_8_0, tw_f, w_ald5, w_ald6, w_iv2, tfr_0, tfr_1, tfr_2, tfr_3, tfr_4, w_ire, trg, true_and, and_true, Nat.reduceAdd, Nat.reduceSub, eq_self, tsh_77, tsh_112, tyk_25, tel_4, tqo_112, tyk_8, tcq_8, tsh_78, tyk_2, tcq_2, tyk_4, tcq_4, s5, s6]
      refine tc_i (D := 3) (fun d' hd' => z_sum (b := b) c5 c6 ne56 v5 v6 ⟨n51, n52⟩ ⟨n61, n62⟩ (by rw [t78]; exact hu) hb ft.1.1 hd') (by omega) ?_
      rintro z M6 ⟨⟨q1, q2⟩, q3⟩
      try simp only [kb_X6_make_250, w_ald_0, w_gf_8_0, tw_f, w_ald5, w_ald6, w_iv2, tfr_0, tfr_1, tfr_2, tfr_3, tfr_4, w_ire, trg, true_and, and_true, Nat.reduceAdd, Nat.reduceSub, eq_self, tsh_77, tsh_112, tyk_25, tel_4, tqo_112, tyk_8, tcq_8, tsh_78, tyk_2, tcq_2, tyk_4, tcq_4, s5, s6]
      rw [t78] at q1 q2
      refine ⟨_, rfl, rfl, fin M6 z _ _ q1 q2 (RO_b tro q3 (by omega)) (AX_r (AE_b q3)) (fun _ => ⟨dnvup_o hu (by omega), Or.inr (Or.inr (Or.inr (Or.inr (Or.inl ⟨rfl, hm2, rfl, rfl⟩))))⟩)⟩
    · refine tb_X6_make_71 (c := false) ?_
      simp only [kb_X6_make_71, w_ild_1, w_sw, tsw, true_and, and_true, Nat.reduceAdd, Nat.reduceSub, eq_self]
      refine ⟨by omega, ?_⟩
      repeat refine ⟨fun h => absurd h (by decide), fun _ => ?_⟩
      refine ⟨fun _ => ?_, fun h => absurd rfl h⟩
      show tT e d 2055 262 _ _ _ _ _
      refine tb_X6_make_262 (c := false) ?_
      simp only [kb_X6_make_262, w_ald_0, w_gf_8_0, tw_f, w_ald5, w_ald6, w_iv2, tfr_0, tfr_1, tfr_2, tfr_3, tfr_4, w_ire, trg, true_and, and_true, Nat.reduceAdd, Nat.reduceSub, eq_self, tsh_77, tsh_112, tyk_25, tel_4, tqo_112, tyk_8, tcq_8, tsh_78, tyk_2, tcq_2, tyk_4, tcq_4, s5, s6]
      refine tc_i (D := 3) (fun d' hd' => z_difference (b := b) c5 c6 ne56 v5 v6 ⟨n51, n52⟩ ⟨n61, n62⟩ (by rw [t78]; exact hu) hb ft.1.1 hd') (by omega) ?_
      rintro z M6 ⟨⟨q1, q2⟩, q3⟩
      try simp only [kb_X6_make_262, w_ald_0, w_gf_8_0, tw_f, w_ald5, w_ald6, w_iv2, tfr_0, tfr_1, tfr_2, tfr_3, tfr_4, w_ire, trg, true_and, and_true, Nat.reduceAdd, Nat.reduceSub, eq_self, tsh_77, tsh_112, tyk_25, tel_4, tqo_112, tyk_8, tcq_8, tsh_78, tyk_2, tcq_2, tyk_4, tcq_4, s5, s6]
      rw [t78] at q1 q2
      refine ⟨_, rfl, rfl, fin M6 z _ _ q1 q2 (RO_b tro q3 (by omega)) (AX_r (AE_b q3)) (fun _ => ⟨dnvup_o hu (by omega), Or.inr (Or.inr (Or.inr (Or.inr (Or.inr (Or.inl ⟨rfl, hm2, rfl, rfl⟩)))))⟩)⟩
    · refine tb_X6_make_71 (c := false) ?_
      simp only [kb_X6_make_71, w_ild_1, w_sw, tsw, true_and, and_true, Nat.reduceAdd, Nat.reduceSub, eq_self]
      refine ⟨by omega, ?_⟩
      repeat refine ⟨fun h => absurd h (by decide), fun _ => ?_⟩
      refine ⟨fun _ => ?_, fun h => absurd rfl h⟩
      show tT e d 2055 274 _ _ _ _ _
      refine tb_X6_make_274 (c := false) ?_
      simp only [kb_X6_make_274, w_ald_0, w_gf_8_0, tw_f, w_ald5, w_ald6, w_iv2, tfr_0, tfr_1, tfr_2, tfr_3, tfr_4, w_ire, trg, true_and, and_true, Nat.reduceAdd, Nat.reduceSub, eq_self, tsh_77, tsh_112, tyk_25, tel_4, tqo_112, tyk_8, tcq_8, tsh_78, tyk_2, tcq_2, tyk_4, tcq_4, s5, s6]
      refine tc_i (D := 4) (fun d' hd' => z_product (b := b) c5 c6 (by omega) (by omega) ne56 v5 v6 ⟨n51, n52⟩ ⟨n61, n62⟩ (by rw [t78]; exact hu) tro hb ft.1.1 hd') (by omega) ?_
      rintro z M6 ⟨L, H, ⟨q1, q2⟩, q3, q4, q5⟩
      try simp only [kb_X6_make_274, w_ald_0, w_gf_8_0, tw_f, w_ald5, w_ald6, w_iv2, tfr_0, tfr_1, tfr_2, tfr_3, tfr_4, w_ire, trg, true_and, and_true, Nat.reduceAdd, Nat.reduceSub, eq_self, tsh_77, tsh_112, tyk_25, tel_4, tqo_112, tyk_8, tcq_8, tsh_78, tyk_2, tcq_2, tyk_4, tcq_4, s5, s6]
      rw [t78] at q3
      refine ⟨_, rfl, rfl, fin M6 z _ _ q1 q2 q4 (AX_r q5) (fun hz0 => ?_)⟩
      obtain ⟨rfl, rfl⟩ := q3 hz0
      exact ⟨dnup_o hu pd_o, Or.inr (Or.inr (Or.inr (Or.inr (Or.inr (Or.inr (Or.inl ⟨rfl, hm2, rfl, rfl⟩))))))⟩
    · refine tb_X6_make_71 (c := false) ?_
      simp only [kb_X6_make_71, w_ild_1, w_sw, tsw, true_and, and_true, Nat.reduceAdd, Nat.reduceSub, eq_self]
      refine ⟨by omega, ?_⟩
      repeat refine ⟨fun h => absurd h (by decide), fun _ => ?_⟩
      refine ⟨fun _ => ?_, fun h => absurd rfl h⟩
      show tT e d 2055 286 _ _ _ _ _
      refine tb_X6_make_286 (c := false) ?_
      simp only [kb_X6_make_286, w_ald_0, w_gf_8_0, tw_f, w_ald5, w_ald6, w_iv2, tfr_0, tfr_1, tfr_2, tfr_3, tfr_4, w_ire, trg, true_and, and_true, Nat.reduceAdd, Nat.reduceSub, eq_self, tsh_77, tsh_112, tyk_25, tel_4, tqo_112, tyk_8, tcq_8, tsh_78, tyk_2, tcq_2, tyk_4, tcq_4, s5, s6]
      refine tc_i (D := 4) (fun d' hd' => z_quotient (b := b) c5 c6 (by omega) (by omega) ne56 v5 v6 ⟨n51, n52⟩ ⟨n61, n62⟩ o6 (by rw [t78]; exact hu) tro hb ft.1.1 hd') (by omega) ?_
      rintro z M6 ⟨q1, q2, q3⟩
      try simp only [kb_X6_make_286, w_ald_0, w_gf_8_0, tw_f, w_ald5, w_ald6, w_iv2, tfr_0, tfr_1, tfr_2, tfr_3, tfr_4, w_ire, trg, true_and, and_true, Nat.reduceAdd, Nat.reduceSub, eq_self, tsh_77, tsh_112, tyk_25, tel_4, tqo_112, tyk_8, tcq_8, tsh_78, tyk_2, tcq_2, tyk_4, tcq_4, s5, s6]
      refine ⟨_, rfl, rfl, ?_⟩
      rcases q1 with ⟨rfl, _⟩ | ⟨hnz, L, H, ⟨q4, q5⟩, q6⟩
      · exact ⟨by decide, fun h => absurd h (by decide), q2, MKF_tr ft (MKF_AX (by omega) (by omega) q3)⟩
      · rw [t78] at q6
        refine fin M6 z _ _ q4 q5 q2 q3 (fun hz0 => ?_)
        obtain ⟨rfl, rfl⟩ := q6 hz0
        exact ⟨dnup_o hu (qt_o o5 o6 hnz), Or.inr (Or.inr (Or.inr (Or.inr (Or.inr (Or.inr (Or.inr (Or.inl ⟨rfl, hm2, rfl, hnz, rfl⟩)))))))⟩
  repeat refine And.intro (by omega) ?_
  refine ⟨fun g => nleaf (by omega), fun g => ?_⟩
  have hp : a = 43 ∨ a = 45 ∨ a = 42 ∨ a = 47 := by omega
  have hm2 : 2 ≤ m := by unfold AOK OOK at ha; omega
  repeat refine And.intro (by omega) ?_
  first | refine ⟨fun q => absurd q (by omega), fun _ => ?_⟩ | refine fun _ => ?_
  repeat refine And.intro (by omega) ?_
  exact npair hm2 hp
end HAND
