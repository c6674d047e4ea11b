/-! THE CLASS, exactly: put. -/
theorem TT_le18 {k : Nat} (h : k ≤ 18) : TT k ≤ 1000000000000000000 := by
  have h1 := tn_mono h
  rw [tn_18] at h1
  unfold TT
  omega
theorem xor_sign (a b : Int64) (hb : 0 ≤ b.toInt) : (a ^^^ b).toInt < 0 ↔ a.toInt < 0 := by
  have e1 : (a ^^^ b).toBitVec.msb = decide ((a ^^^ b).toInt < 0) := BitVec.msb_eq_toInt
  have e2 : a.toBitVec.msb = decide (a.toInt < 0) := BitVec.msb_eq_toInt
  have e3 : b.toBitVec.msb = decide (b.toInt < 0) := BitVec.msb_eq_toInt
  have e4 : b.toBitVec.msb = false := by rw [e3]; exact decide_eq_false (by omega)
  rw [Int64.toBitVec_xor, BitVec.msb_xor, e4, Bool.xor_false, e2] at e1
  exact ⟨fun q => of_decide_eq_true (e1.trans (decide_eq_true q)), fun q => of_decide_eq_true (e1.symm.trans (decide_eq_true q))⟩
theorem xor_neg {x y : Int} (hx : (-9223372036854775808 ≤ x ∧ x < 9223372036854775808)) (hy : 0 ≤ y ∧ y < 9223372036854775808) : Int64.toInt (Int64.ofInt x ^^^ Int64.ofInt y) < 0 ↔ x < 0 := by
  have h := xor_sign (Int64.ofInt x) (Int64.ofInt y) (by rw [ofL_bound (by omega)]; exact hy.1)
  rw [ofL_bound hx] at h
  exact h
theorem tdiv_fl {x y : Int} (hy : 0 < y) : (0 ≤ x → x.tdiv y = x / y ∧ x.tmod y = x % y) ∧ (x < 0 → (x.tmod y = 0 → x.tdiv y = x / y ∧ x % y = 0) ∧ (x.tmod y ≠ 0 → x.tdiv y - 1 = x / y ∧ x.tmod y + y = x % y)) := by
  refine ⟨fun h => ⟨Int.tdiv_eq_ediv_of_nonneg h, Int.tmod_eq_emod_of_nonneg h⟩, fun h => ?_⟩
  have e := Int.tmod_add_mul_tdiv x y
  obtain ⟨w, hw⟩ : ∃ w : Int, w = -x := ⟨_, rfl⟩
  have hx : x = -w := by omega
  have m1 : x.tmod y = -(w % y) := by rw [hx, Int.neg_tmod, Int.tmod_eq_emod_of_nonneg (by omega)]
  have a1 := Int.emod_nonneg w (Int.ne_of_gt hy)
  have a2 := Int.emod_lt_of_pos w hy
  refine ⟨fun q => ?_, fun q => ?_⟩
  · have g := (Int.ediv_emod_unique (a := x) (r := 0) (q := x.tdiv y) hy).mpr ⟨by omega, Int.le_refl _, hy⟩
    exact ⟨g.1.symm, g.2⟩
  · have g := (Int.ediv_emod_unique (a := x) (r := x.tmod y + y) (q := x.tdiv y - 1) hy).mpr ⟨by rw [Int.mul_sub, Int.mul_one]; omega, by omega, by omega⟩
    exact ⟨g.1.symm, g.2.symm⟩
theorem Int64_rg (x : Int64) : -9223372036854775808 ≤ x.toInt ∧ x.toInt < 9223372036854775808 := ⟨Int64.le_toInt _, Int64.toInt_lt _⟩
section HAND
variable {e : tE} {b d n : Nat} {M : tM}
theorem t_floorDiv {x y : Int} (hx : (-9223372036854775808 ≤ x ∧ x < 9223372036854775808)) (hy : 0 < y ∧ y ≤ 1000000000000000000) : tC e d 4353 [.inr (.inl x), .inr (.inl y)] M n (tQl n (fun z M' => z = x / y ∧ M' = M)) := by
  have f := tdiv_fl (x := x) hy.1
  have hm := Int.tmod_add_mul_tdiv x y
  have hq : (-9223372036854775808 ≤ x.tdiv y ∧ x.tdiv y < 9223372036854775808) := by
    have h1 : (x.tdiv y).natAbs ≤ x.natAbs := Int.natAbs_tdiv_le_natAbs x y
    have h2 : x < 0 → x.tdiv y ≤ 0 := fun h => by
      rcases Classical.em (x.tmod y = 0) with q | q
      · rw [((f.2 h).1 q).1]
        exact Int.le_of_lt (Int.ediv_neg_of_neg_of_pos h hy.1)
      · have := ((f.2 h).2 q).1
        have := Int.ediv_neg_of_neg_of_pos h hy.1
        omega
    have h3 : 0 ≤ x → 0 ≤ x.tdiv y := fun h => by rw [(f.1 h).1]; exact Int.ediv_nonneg h (Int.le_of_lt hy.1)
    omega
  refine tst_J9_floorDiv_f86c9 ?_
  have n27 : ∀ (w : Option tV), x.tdiv y = x / y → tT e d 4353 27 [some (.inr (.inl (x))), none, some (.inr (.inl (y))), none, some (.inr (.inl (x.tdiv y))), w] [] M n (tQl n (fun z M' => z = x / y ∧ M' = M)) := by
    intro w h
    refine tb_J9_floorDiv_f86c9_27 (c := false) ?_
    simp only [kb_J9_floorDiv_f86c9_27, w_lld4, w_lre, true_and, and_true, Nat.reduceAdd, Nat.reduceSub, eq_self]
    exact ⟨_, rfl, rfl, h, rfl⟩
  have hs := xor_neg hx (y := y) (by omega)
  refine tb_J9_floorDiv_f86c9_0 (c := false) ?_
  simp only [kb_J9_floorDiv_f86c9_0, w_lld_0, w_lld_2, w_ldiv, tw_f, w_lst4, tkl_n, tkl_i, tkl_l, tkl_r, w_lxor, w_lc0, w_lcmp, ne_eq, tlc_r, tlc_eq, tlc_lt, tlc_ge, tlc_gt, tlc_le, w_if_ge, w_lld4, w_lmul, w_if_eq, w_lc1, w_lsub, w_lre, true_and, and_true, Nat.reduceAdd, Nat.reduceSub, eq_self]
  refine ⟨⟨by omega, hx, by omega⟩, ⟨Int64_rg _, by omega⟩, fun h => n27 _ (f.1 (by omega)).1, fun h => ?_⟩
  have h0 : x < 0 := hs.mp (by omega)
  refine ⟨⟨?_, hx⟩, fun h2 => n27 _ ?_, fun h2 => ?_⟩
  · have := f.2 h0
    rcases Classical.em (x.tmod y = 0) with q | q
    · rw [Int.mul_comm]; omega
    · have g := (this.2 q).2
      have a1 := Int.emod_nonneg x (Int.ne_of_gt hy.1)
      have a2 := Int.emod_lt_of_pos x hy.1
      rw [Int.mul_comm]
      have m1 : x.tmod y ≤ 0 := by
        obtain ⟨w, hw⟩ : ∃ w : Int, w = -x := ⟨_, rfl⟩
        rw [show x = -w by omega, Int.neg_tmod, Int.tmod_eq_emod_of_nonneg (by omega)]
        have := Int.emod_nonneg w (Int.ne_of_gt hy.1)
        omega
      omega
  · rw [Int.mul_comm] at h2
    exact ((f.2 h0).1 (by omega)).1
  · rw [Int.mul_comm] at h2
    exact ⟨_, rfl, rfl, ((f.2 h0).2 (by omega)).1, rfl⟩
theorem t_floorMod {x y : Int} (hx : (-9223372036854775808 ≤ x ∧ x < 9223372036854775808)) (hy : 0 < y ∧ y ≤ 1000000000000000000) : tC e d 4354 [.inr (.inl x), .inr (.inl y)] M n (tQl n (fun z M' => z = x % y ∧ M' = M)) := by
  have f := tdiv_fl (x := x) hy.1
  have hq : -1000000000000000000 ≤ x.tmod y ∧ x.tmod y ≤ 1000000000000000000 := by
    have g3 : (x.tmod y).natAbs < y.natAbs := by
      rw [Int.natAbs_tmod]
      exact Nat.mod_lt _ (by omega)
    omega
  refine tst_J9_floorMod_f86c9 ?_
  have n25 : ∀ (w : Option tV), x.tmod y = x % y → tT e d 4354 25 [some (.inr (.inl (x))), none, some (.inr (.inl (y))), none, some (.inr (.inl (x.tmod y))), w] [] M n (tQl n (fun z M' => z = x % y ∧ M' = M)) := by
    intro w h
    refine tb_J9_floorMod_f86c9_25 (c := false) ?_
    simp only [kb_J9_floorMod_f86c9_25, w_lld4, w_lre, true_and, and_true, Nat.reduceAdd, Nat.reduceSub, eq_self]
    exact ⟨_, rfl, rfl, h, rfl⟩
  have hs := xor_neg hx (y := y) (by omega)
  refine tb_J9_floorMod_f86c9_0 (c := false) ?_
  simp only [kb_J9_floorMod_f86c9_0, w_lld_0, w_lld_2, w_lrem, w_lst4, tkl_n, tkl_i, tkl_l, tkl_r, w_lxor, w_lc0, w_lcmp, ne_eq, tlc_r, tlc_eq, tlc_lt, tlc_ge, tlc_gt, tlc_le, w_if_ge, w_lld4, w_if_eq, w_ladd, tw_f, w_lre, true_and, and_true, Nat.reduceAdd, Nat.reduceSub, eq_self]
  refine ⟨⟨by omega, hx, by omega⟩, ⟨Int64_rg _, by omega⟩, fun h => n25 _ (f.1 (by omega)).2, fun h => ?_⟩
  have h0 : x < 0 := hs.mp (by omega)
  refine ⟨⟨by omega, by omega⟩, fun h2 => n25 _ ?_, fun h2 => ?_⟩
  · rw [((f.2 h0).1 h2).2]
    exact h2
  · exact ⟨_, rfl, rfl, ((f.2 h0).2 h2).2, rfl⟩
theorem x_take {X : Int} {s : Nat} (hX : (-9223372036854775808 ≤ X ∧ X < 9223372036854775808)) (hs : s ≤ 18) (hb : b < 2) (hC : CI M) (hd : 1 ≤ d) : tC e d 2572 [.inr (.inr (.inl 79)), .inr (.inl X), .inl (s : Int)] M n (tQn n (fun M' => (M' 80 0 = X / TT s ∧ M' 80 1 = tkp s X ∧ M' 79 1 = tkr s X) ∧ (CI M' ∧ pE b M M') ∧ ∀ (k : Nat) (i : Int), k ≠ 80 → k ≠ 79 → M' k i = M k i)) := by
  have ts := TT_pos s
  have ts2 := TT_le18 hs
  have hp := tkp_r (s := s) (X := X)
  have m1 := Int.emod_nonneg X (Int.ne_of_gt ts)
  have m2 := Int.emod_lt_of_pos X ts
  refine tst_X8_take ?_
  have n107 : ∀ (L : tL) (M1 : tM), ((M1 80 0 = X / TT s ∧ M1 80 1 = tkp s X ∧ M1 79 1 = tkr s X) ∧ (CI M1 ∧ pE b M M1) ∧ ∀ (k : Nat) (i : Int), k ≠ 80 → k ≠ 79 → M1 k i = M k i) → tT e d 2572 107 L [] M1 n (tQn n (fun M' => (M' 80 0 = X / TT s ∧ M' 80 1 = tkp s X ∧ M' 79 1 = tkr s X) ∧ (CI M' ∧ pE b M M') ∧ ∀ (k : Nat) (i : Int), k ≠ 80 → k ≠ 79 → M' k i = M k i)) := by
    intro L M1 h
    refine tb_X8_take_107 (c := false) ?_
    simp only [kb_X8_take_107, w_re, true_and, and_true, Nat.reduceAdd, Nat.reduceSub, eq_self]
    exact ⟨rfl, rfl, h⟩
  refine tb_X8_take_0 (c := false) ?_
  simp only [kb_X8_take_0, w_ild_3, w_if_lt, w_bi, w_ic_le, w_nil, true_and, and_true, Nat.reduceAdd, Nat.reduceSub, eq_self]
  refine ⟨by omega, fun q => absurd q (by omega), fun _ => ?_⟩
  refine ⟨by omega, fun _ => ?_, fun q => absurd (by omega) q⟩
  refine tb_X8_take_14 (c := false) ?_
  simp only [kb_X8_take_14, w_ild_3, w_nil, true_and, and_true, Nat.reduceAdd, Nat.reduceSub, eq_self]
  refine tb_X8_take_15 (c := false) ?_
  simp only [kb_X8_take_15, w_ist4, tkl_n, tkl_i, tkl_l, tkl_r, w_gs, w_ild4, w_la, w_lax, tw_f, w_lst5, w_lld_1, w_lld5, w_is2, tfr_0, tfr_1, tfr_2, tfr_3, tfr_4, w_lst7, w_lst9, w_bi, w_ic_gt, w_ald_0, w_lld7, w_lld9, w_isub, w_lmul, w_ic, w_iv3, w_goto, true_and, and_true, Nat.reduceAdd, Nat.reduceSub, eq_self, tsh_79, tyk_10, tcq_10]
  refine ⟨by decide, rfl, ⟨by omega, by show _ < ((19 : Nat) : Int); omega⟩, ?_⟩
  have e1 : txv e 0 ((s : Nat) : Int) = TT s := by
    rw [txv_0 (by omega), Int.toNat_natCast]
    rfl
  rw [e1]
  refine tc_l (D := 0) (fun d' _ => t_floorDiv hX ⟨ts, ts2⟩) (by omega) ?_
  rintro z1 M1 ⟨rfl, rfl⟩
  try simp only [kb_X8_take_15, w_ist4, tkl_n, tkl_i, tkl_l, tkl_r, w_gs, w_ild4, w_la, w_lax, tw_f, w_lst5, w_lld_1, w_lld5, w_is2, tfr_0, tfr_1, tfr_2, tfr_3, tfr_4, w_lst7, w_lst9, w_bi, w_ic_gt, w_ald_0, w_lld7, w_lld9, w_isub, w_lmul, w_ic, w_iv3, w_goto, true_and, and_true, Nat.reduceAdd, Nat.reduceSub, eq_self, tsh_79, tyk_10, tcq_10]
  refine tc_l (D := 0) (fun d' _ => t_floorMod hX ⟨ts, ts2⟩) (by omega) ?_
  rintro z2 M2 ⟨rfl, rfl⟩
  try simp only [kb_X8_take_15, w_ist4, tkl_n, tkl_i, tkl_l, tkl_r, w_gs, w_ild4, w_la, w_lax, tw_f, w_lst5, w_lld_1, w_lld5, w_is2, tfr_0, tfr_1, tfr_2, tfr_3, tfr_4, w_lst7, w_lst9, w_bi, w_ic_gt, w_ald_0, w_lld7, w_lld9, w_isub, w_lmul, w_ic, w_iv3, w_goto, true_and, and_true, Nat.reduceAdd, Nat.reduceSub, eq_self, tsh_79, tyk_10, tcq_10]
  refine ⟨by omega, fun h => ?_, fun h => ?_⟩
  · have e2 : txv e 0 ((s : Int) - 10) = TT (s - 10) := by
      rw [txv_0 (by omega), show ((s : Int) - 10).toNat = s - 10 by omega]
      rfl
    have tg := TT_pos (s - 10)
    have tg2 := TT_le18 (k := s - 10) (by omega)
    have ed : (X % TT s).tdiv (TT (s - 10)) = tkp s X := by
      unfold tkp
      rw [if_neg (by omega)]
      exact Int.tdiv_eq_ediv_of_nonneg m1
    have em : (X % TT s).tmod (TT (s - 10)) = X % TT s % TT (s - 10) := Int.tmod_eq_emod_of_nonneg m1
    have g1 := Int.emod_nonneg (X % TT s) (Int.ne_of_gt tg)
    have g2 := Int.emod_lt_of_pos (X % TT s) tg
    refine tb_X8_take_70 (c := false) ?_
    simp only [kb_X8_take_70, w_gs, w_ild4, w_bi, w_isub, w_la, w_lax, tw_f, w_lst11, tkl_n, tkl_i, tkl_l, tkl_r, w_ald_0, w_lld7, w_lld9, w_lld11, w_ldiv, w_lrem, w_lc0, w_lcmp, ne_eq, tlc_r, tlc_eq, tlc_lt, tlc_ge, tlc_gt, tlc_le, w_if_eq, w_ic, w_goto, true_and, and_true, Nat.reduceAdd, Nat.reduceSub, eq_self, tsh_79, tyk_10, tcq_10]
    refine ⟨by decide, rfl, ⟨by omega, by show _ < ((19 : Nat) : Int); omega⟩, ?_⟩
    rw [e2, ed, em]
    have n104 : ∀ v : Int, v = tkr s X → tT e d 2572 104 [some (.inr (.inr (.inl (79)))), some (.inr (.inl (X))), none, some (.inl ((s : Int))), some (.inl ((s : Int))), some (.inr (.inl (TT s))), none, some (.inr (.inl (X / TT s))), none, some (.inr (.inl (X % TT s))), none, some (.inr (.inl (TT (s - 10)))), none] [.inl v, .inr (.inl (tkp s X)), .inr (.inl (X / TT s)), .inr (.inr (.inl 79))] M2 n (tQn n (fun M' => (M' 80 0 = X / TT s ∧ M' 80 1 = tkp s X ∧ M' 79 1 = tkr s X) ∧ (CI M' ∧ pE b M2 M') ∧ ∀ (k : Nat) (i : Int), k ≠ 80 → k ≠ 79 → M' k i = M2 k i)) := by
      intro v hv
      have hr := tkr_r s X
      refine tb_X8_take_104 (c := false) ?_
      simp only [kb_X8_take_104, w_iv3, tfr_0, tfr_1, tfr_2, tfr_3, tfr_4, w_nil, true_and, and_true, Nat.reduceAdd, Nat.reduceSub, eq_self, tsh_79, tyk_10, tcq_10]
      refine tc_n (D := 0) (fun d' hd' => x_assign (b := b) (by omega) hb hC) (by omega) ?_
      rintro M3 ⟨⟨q1, q2, q3⟩, q4⟩
      try simp only [kb_X8_take_104, w_iv3, tfr_0, tfr_1, tfr_2, tfr_3, tfr_4, w_nil, true_and, and_true, Nat.reduceAdd, Nat.reduceSub, eq_self, tsh_79, tyk_10, tcq_10]
      exact n107 _ _ ⟨⟨q1, q2, q3.trans hv⟩, q4⟩
    refine ⟨⟨by omega, by omega, by omega⟩, ⟨by omega, by omega, by omega⟩, ⟨by omega, by omega⟩, fun q => ?_, fun q => ?_⟩
    · refine tb_X8_take_103 (c := false) ?_
      simp only [kb_X8_take_103, w_ic, w_nil, true_and, and_true, Nat.reduceAdd, Nat.reduceSub, eq_self]
      refine n104 0 ?_
      unfold tkr
      rw [if_neg (by omega), if_pos q]
    · refine n104 1 ?_
      unfold tkr
      rw [if_neg (by omega), if_neg q]
  · have e3 : txv e 0 (10 - (s : Int)) = TT (10 - s) := by
      rw [txv_0 (by omega), show (10 - (s : Int)).toNat = 10 - s by omega]
      rfl
    refine ⟨by decide, rfl, ⟨by omega, by show _ < ((19 : Nat) : Int); omega⟩, ?_⟩
    rw [e3]
    have ep : X % TT s * TT (10 - s) = tkp s X := by
      unfold tkp
      rw [if_pos (by omega)]
    have er : tkr s X = 0 := by
      unfold tkr
      rw [if_pos (by omega)]
    rw [ep]
    refine tc_n (D := 0) (fun d' hd' => x_assign (b := b) (by omega) hb hC) (by omega) ?_
    rintro M3 ⟨⟨q1, q2, q3⟩, q4⟩
    try simp only [kb_X8_take_15, w_ist4, tkl_n, tkl_i, tkl_l, tkl_r, w_gs, w_ild4, w_la, w_lax, tw_f, w_lst5, w_lld_1, w_lld5, w_is2, tfr_0, tfr_1, tfr_2, tfr_3, tfr_4, w_lst7, w_lst9, w_bi, w_ic_gt, w_ald_0, w_lld7, w_lld9, w_isub, w_lmul, w_ic, w_iv3, w_goto, true_and, and_true, Nat.reduceAdd, Nat.reduceSub, eq_self, tsh_79, tyk_10, tcq_10]
    exact n107 _ _ ⟨⟨q1, q2, q3.trans er.symm⟩, q4⟩
/-- what put makes of the first box of the stack -/
def PB (D s : Nat) (X : Int) (M : tM) (r : Nat) : Prop := (M (r + 1) 0 * 10000000000 + M (r + 1) 1 = nlo D s X ∧ M (r + 2) 0 * 10000000000 + M (r + 2) 1 = nhi D s X) ∧ (0 ≤ M (r + 1) 1 ∧ M (r + 1) 1 < 10000000000) ∧ (0 ≤ M (r + 2) 1 ∧ M (r + 2) 1 < 10000000000)
theorem tgb_FZ {M : tM} {r : Nat} (h : 0 ≤ M r 1 ∧ M r 1 < 10000000000) : tgb M r ↔ FZ (M r 0 * 10000000000 + M r 1) := by
  unfold tgb FZ
  omega
theorem x_tellNumber {r D s : Nat} {X : Int} (h0 : cl r 4) (hX : (-9223372036854775808 ≤ X ∧ X < 9223372036854775808)) (hs : s ≤ 18) (hD : D ≤ 10) (hu : M 78 5 = TT (10 - D)) (hb : b < 2) (hC : CI M) (hd : 3 ≤ d) : tC e d 522 [.inr (.inr (.inl 78)), .inr (.inr (.inl r)), .inr (.inl X), .inl (s : Int)] M n (tQi n (fun z M' => ((z = 2 ∧ (FZ (nlo D s X) ∨ FZ (nhi D s X))) ∨ (z = 0 ∧ ¬ (FZ (nlo D s X) ∨ FZ (nhi D s X)))) ∧ PB D s X M' r ∧ (CI M' ∧ pE b M M') ∧ ∀ (k : Nat) (i : Int), k ≠ 79 → k ≠ 80 → k ≠ r + 1 → k ≠ r + 2 → M' k i = M k i)) := by
  have hr := h0.1
  have tu := TT_pos (10 - D)
  have tu2 := TT_le10 (k := 10 - D) (by omega)
  have ts := TT_pos s
  have hp := tkp_r (s := s) (X := X)
  refine tst_X0_tellNumber ?_
  refine tb_X0_tellNumber_0 (c := false) ?_
  simp only [kb_X0_tellNumber_0, w_ald_0, w_gf_2_0, tw_f, w_lld_2, w_ild4, w_iv2, tfr_0, tfr_1, tfr_2, tfr_3, tfr_4, w_ald_1, w_iv1, w_ire, trg, true_and, and_true, Nat.reduceAdd, Nat.reduceSub, eq_self, tsh_78, tsh_79, tsh_80, tyk_4, tyk_2, tyk_10, tyk_3, tcq_4, tcq_2, tcq_10, tcq_3, hr]
  refine tc_n (D := 1) (fun d' hd' => x_take (b := b) hX hs hb hC hd') (by omega) ?_
  rintro M1 ⟨⟨q1, q2, q3⟩, ⟨c1, p1⟩, f1⟩
  try simp only [kb_X0_tellNumber_0, w_ald_0, w_gf_2_0, tw_f, w_lld_2, w_ild4, w_iv2, tfr_0, tfr_1, tfr_2, tfr_3, tfr_4, w_ald_1, w_iv1, w_ire, trg, true_and, and_true, Nat.reduceAdd, Nat.reduceSub, eq_self, tsh_78, tsh_79, tsh_80, tyk_4, tyk_2, tyk_10, tyk_3, tcq_4, tcq_2, tcq_10, tcq_3, hr]
  have e78 : M1 78 5 = TT (10 - D) := (f1 78 5 (by decide) (by decide)).trans hu
  have hq1 : (-9223372036854775808 ≤ X / TT s ∧ X / TT s < 9223372036854775808) := by
    have h1 := Int.emod_add_mul_ediv X (TT s)
    have h2 := Int.emod_nonneg X (Int.ne_of_gt ts)
    have h3 := Int.emod_lt_of_pos X ts
    have h4 : 0 ≤ X → 0 ≤ X / TT s ∧ X / TT s ≤ X := fun h => ⟨Int.ediv_nonneg h (Int.le_of_lt ts), Int.ediv_le_self _ h⟩
    have h5 : X < 0 → X ≤ X / TT s ∧ X / TT s < 0 := fun h => by
      have g := Int.ediv_neg_of_neg_of_pos h ts
      refine ⟨?_, g⟩
      have k2 : (1 - TT s) * (X / TT s + 1) ≥ 0 := Int.mul_nonneg_of_nonpos_of_nonpos (by omega) (by omega)
      rw [Int.sub_mul, Int.one_mul, Int.mul_add, Int.mul_one] at k2
      omega
    omega
  have hi := tk_hi (s := s) (X := X) hD
  have lo := tk_lo (s := s) (X := X) hD
  have hh : M1 80 0 * 10000000000 + M1 80 1 + gup (M1 78 5) (M1 80 1) (M1 79 1) < 92233720368547758080000000000 := by
    rw [q1, q2, q3, e78]
    have g := gup_r (u := TT (10 - D)) (p := tkp s X) (x := tkr s X) (by omega)
    by_cases h0 : s = 0
    · have hz : gup (TT (10 - D)) (tkp s X) (tkr s X) = 0 ∧ tkp s X = 0 := by
        have z := (tk_z (s := s) (X := X) hD).mpr (Or.inl (by omega))
        have k0 : tkp s X = 0 := by
          unfold tkp
          rw [if_pos (by omega), h0]
          have : TT 0 = 1 := by unfold TT; rw [tn_0]; rfl
          rw [this, Int.emod_one, Int.zero_mul]
        refine ⟨?_, k0⟩
        unfold gup
        rw [if_pos z]
      omega
    · have h10 : 10 ≤ TT s := by
        have h1 := tn_mono (show 1 ≤ s by omega)
        have h2 : tn 1 = 10 := (tn_def 1).trans (by decide)
        rw [h2] at h1
        unfold TT
        omega
      have h4 : X / TT s ≤ 922337203685477580 := by
        rcases Classical.em (0 ≤ X) with h | h
        · have w1 := Int.emod_add_mul_ediv X (TT s)
          have w2 := Int.emod_nonneg X (Int.ne_of_gt ts)
          have w3 : 10 * (X / TT s) ≤ TT s * (X / TT s) := Int.mul_le_mul_of_nonneg_right h10 (Int.ediv_nonneg h (Int.le_of_lt ts))
          omega
        · have := Int.ediv_neg_of_neg_of_pos (show X < 0 by omega) ts
          omega
      omega
  refine tc_i (D := 2) (fun d' hd' => x_told (b := b) h0 (by omega) (by rw [q1]; exact hq1) hh (by rw [q2]; exact hp) hb c1 hd') (by omega) ?_
  rintro z1 M3 ⟨hz, ⟨⟨t1, t2⟩, t3, t4⟩, ⟨c3, p3⟩, f3⟩
  try simp only [kb_X0_tellNumber_0, w_ald_0, w_gf_2_0, tw_f, w_lld_2, w_ild4, w_iv2, tfr_0, tfr_1, tfr_2, tfr_3, tfr_4, w_ald_1, w_iv1, w_ire, trg, true_and, and_true, Nat.reduceAdd, Nat.reduceSub, eq_self, tsh_78, tsh_79, tsh_80, tyk_4, tyk_2, tyk_10, tyk_3, tcq_4, tcq_2, tcq_10, tcq_3, hr]
  rw [q1] at t1
  rw [q2, e78] at t2
  rw [q1, q2, q3, e78, hi] at t3
  have em1 := Int.emod_nonneg (tkp s X) (Int.ne_of_gt tu)
  have em2 := emod_le_self (u := TT (10 - D)) hp.1 tu
  have pb : PB D s X M3 r := ⟨⟨by rw [t1, t2]; omega, t3⟩, by omega, t4⟩
  have k1 := tgb_FZ (M := M3) (r := r + 1) pb.2.1
  have k2 := tgb_FZ (M := M3) (r := r + 2) pb.2.2
  rw [pb.1.1] at k1
  rw [pb.1.2] at k2
  rw [k1, k2] at hz
  exact ⟨_, rfl, rfl, hz, pb, ⟨c3, pE_tr p1 p3⟩, fun k i g1 g2 g3 g4 => (f3 k i g3 g4).trans (f1 k i g2 g1)⟩
theorem x_makeN {D s : Nat} {X : Int} (hX : (-9223372036854775808 ≤ X ∧ X < 9223372036854775808)) (hs : s ≤ 18) (hD : D ≤ 10) (hu : M 78 5 = TT (10 - D)) (ht : M 77 2 = 0) (hb : b < 2) (hC : CI M) (hd : 7 ≤ d) : tC e d 2055 [.inr (.inr (.inl 77)), .inl 35, .inr (.inl X), .inl (s : Int)] M n (tQi n (fun z M' => ((z = 2 ∧ (FZ (nlo D s X) ∨ FZ (nhi D s X))) ∨ (z = 0 ∧ ¬ (FZ (nlo D s X) ∨ FZ (nhi D s X)))) ∧ (CI M' ∧ pE b M M') ∧ M' 77 2 = 1 ∧ PB D s X M' 113)) := by
  refine x_make (by omega) ht hC (by omega) (fun w5 w6 => ?_)
  have n172 : tT e d 2055 172 [some (.inr (.inr (.inl (77)))), some (.inl (35)), some (.inr (.inl (X))), none, some (.inl ((s : Int))), w5, w6, some (.inr (.inr (.inl (113))))] [] M n (tQi n (fun z M' => ((z = 2 ∧ (FZ (nlo D s X) ∨ FZ (nhi D s X))) ∨ (z = 0 ∧ ¬ (FZ (nlo D s X) ∨ FZ (nhi D s X)))) ∧ (CI M' ∧ pE b M M') ∧ M' 77 2 = 1 ∧ PB D s X M' 113)) := by
    refine tb_X6_make_172 (c := false) ?_
    simp only [kb_X6_make_172, w_ald_0, w_dupi, w_dupr, w_gf_8_2, tw_f, w_ic, w_iadd, w_pf_8_2, w_gf_8_0, w_ald7, w_lld_2, w_ild4, w_iv3, tfr_0, tfr_1, tfr_2, tfr_3, tfr_4, w_ire, trg, true_and, and_true, Nat.reduceAdd, Nat.reduceSub, eq_self, tsh_77, tsh_78, tyk_2, tcq_2, tyk_8, tcq_8, tyk_26, tyk_4, tcq_4, ht]
    have hp : pE b M (tU M 77 2 1) := pE_put (prt_f (a := 8) (f := 2) (Or.inl hb) cl_77 (by decide) (fun _ q => absurd q (by decide)) (by decide))
    have hC2 : CI (tU M 77 2 1) := CI_put (s := 8) hC tsh_77 (fun _ => by show (0 : Int) ≤ 1 ∧ (1 : Int) ≤ 128; omega)
    have hu2 : tU M 77 2 1 78 5 = M 78 5 := tU_nk (by decide)
    have h7 : tU M 77 2 1 77 2 = 1 := tU_eq ..
    have hz1 : (0 : Int) + 1 = 1 := rfl
    rw [hz1]
    generalize tU M 77 2 1 = M2 at hp hC2 hu2 h7 ⊢
    refine tc_i (D := 3) (fun d' hd' => x_tellNumber (b := b) cl_113 hX hs hD (hu2.trans hu) hb hC2 hd') (by omega) ?_
    rintro z M1 ⟨q0, q1, ⟨q2, q3⟩, q4⟩
    try simp only [kb_X6_make_172, w_ald_0, w_dupi, w_dupr, w_gf_8_2, tw_f, w_ic, w_iadd, w_pf_8_2, w_gf_8_0, w_ald7, w_lld_2, w_ild4, w_iv3, tfr_0, tfr_1, tfr_2, tfr_3, tfr_4, w_ire, trg, true_and, and_true, Nat.reduceAdd, Nat.reduceSub, eq_self, tsh_77, tsh_78, tyk_2, tcq_2, tyk_8, tcq_8, tyk_26, tyk_4, tcq_4, ht]
    exact ⟨_, rfl, rfl, q0, ⟨q2, pE_tr hp q3⟩, (q4 77 2 (by decide) (by decide) (by decide) (by decide)).trans h7, q1⟩
  refine tb_X6_make_71 (c := false) ?_
  simp only [kb_X6_make_71, w_ild_1, w_sw, tsw, true_and, and_true, Nat.reduceAdd, Nat.reduceSub, eq_self]
  refine ⟨by omega, ?_⟩
  repeat refine ⟨fun h => absurd h (by decide), fun _ => ?_⟩
  refine ⟨fun _ => ?_, fun h => absurd rfl h⟩
  exact n172
theorem x_checkStatus2 : tC e d 3346 [.inr (.inr (.inl 0)), .inl 2] M n (fun v M' n' => v = .inr "java/lang/IllegalStateException" ∧ n' = n + 1 ∧ M' = M) := by
  refine tst_X11_checkStatus ?_
  refine tb_X11_checkStatus_0 (c := true) ?_
  simp only [kb_X11_checkStatus_0, w_ild_1, w_ic, w_ic_ne, w_new, w64_r, true_and, and_true, Nat.reduceAdd, Nat.reduceSub, eq_self]
  refine ⟨by omega, fun _ => ?_, fun q => absurd (by decide) q⟩
  refine tb_X11_checkStatus_16 (c := true) ?_
  simp only [kb_X11_checkStatus_16, w_ild_1, w_if_eq, w_new, w64_r, true_and, and_true, Nat.reduceAdd, Nat.reduceSub, eq_self]
  exact ⟨by omega, fun q => absurd q (by decide), fun _ => rfl⟩
theorem x_become2 {s : Int} (hd : 1 ≤ d) : tC e d 3332 [.inr (.inr (.inl 0)), .inl s, .inl 2] M n (fun v M' n' => v = .inr "java/lang/IllegalStateException" ∧ n' = n + 1 ∧ M' = M) := by
  refine tst_X11_become ?_
  refine tb_X11_become_0 (c := true) ?_
  simp only [kb_X11_become_0, w_ald_0, w_ild_2, w_iv1, tfr_0, tfr_1, tfr_2, tfr_3, tfr_4, w_ild_1, w_gf_13_4, tw_t, w_iv0, w_iv2, w_ire, trg, w64_r, true_and, and_true, Nat.reduceAdd, Nat.reduceSub, eq_self, tsh_0, tyk_13, tsh_77, tyk_8, tcq_8, tsh_5, tyk_11, tcq_13, tcq_11, tyk_4, tcq_4, tsh_113]
  refine ⟨d - 1, by omega, _, x_checkStatus2, ?_, ?_⟩
  · rintro v M' n' ⟨q, _⟩
    cases q
  · rintro x M' n' ⟨q, rfl, rfl⟩
    cases q
    exact ⟨rfl, rfl, rfl, rfl⟩
/-- what put answers -/
def PR (M : tM) (n D : Nat) (x1 X x3 : Int) (v : tR) (M' : tM) (n' : Nat) : Prop := (¬ (0 ≤ x1 ∧ x1 ≤ 9) ∧ v = .inr "java/lang/IndexOutOfBoundsException" ∧ n' = n + 1 ∧ M' = M) ∨ (((0 ≤ x1 ∧ x1 ≤ 9) ∧ ¬ (0 ≤ x3 ∧ x3 ≤ 18)) ∧ v = .inr "java/lang/IllegalArgumentException" ∧ n' = n + 1 ∧ M' = M) ∨ (((0 ≤ x1 ∧ x1 ≤ 9) ∧ (0 ≤ x3 ∧ x3 ≤ 18)) ∧ (FZ (nlo D x3.toNat X) ∨ FZ (nhi D x3.toNat X)) ∧ v = .inr "java/lang/IllegalStateException" ∧ n' = n + 1 ∧ CI M' ∧ pE 0 M M') ∨ (((0 ≤ x1 ∧ x1 ≤ 9) ∧ (0 ≤ x3 ∧ x3 ≤ 18)) ∧ ¬ (FZ (nlo D x3.toNat X) ∨ FZ (nhi D x3.toNat X)) ∧ (∃ z, v = .inl (some (.inl z)) ∧ ((z = 1 ∧ nlo D x3.toNat X = nhi D x3.toNat X) ∨ (z = 0 ∧ ¬ nlo D x3.toNat X = nhi D x3.toNat X))) ∧ n' = n ∧ CI M' ∧ pE 0 M M')
theorem PB_s {D s : Nat} {X : Int} {M : tM} (h : PB D s X M 113) (hf : ¬ (FZ (nlo D s X) ∨ FZ (nhi D s X))) : BW M ∧ (BS M ↔ nlo D s X = nhi D s X) := by
  obtain ⟨⟨h1, h2⟩, h3, h4⟩ := h
  unfold FZ at hf
  have h1 : M 114 0 * 10000000000 + M 114 1 = nlo D s X := h1
  have h2 : M 115 0 * 10000000000 + M 115 1 = nhi D s X := h2
  have h3 : 0 ≤ M 114 1 ∧ M 114 1 < 10000000000 := h3
  have h4 : 0 ≤ M 115 1 ∧ M 115 1 < 10000000000 := h4
  refine ⟨?_, ?_⟩
  · unfold BW
    omega
  · unfold BS
    omega
theorem x_put {x1 X x3 : Int} {D : Nat} (h1 : -2147483648 ≤ x1 ∧ x1 ≤ 2147483647) (hX : (-9223372036854775808 ≤ X ∧ X < 9223372036854775808)) (h3 : -2147483648 ≤ x3 ∧ x3 ≤ 2147483647) (hD : D ≤ 10) (hu : M 78 5 = TT (10 - D)) (hC : CI M) (hd : 8 ≤ d) : tC e d 3382 [.inr (.inr (.inl 0)), .inl x1, .inr (.inl X), .inl x3] M n (PR M n D x1 X x3) := by
  refine tst_X11_put ?_
  have n17 : (0 ≤ x1 ∧ x1 ≤ 9) → ¬ (0 ≤ x3 ∧ x3 ≤ 18) → tT e d 3382 17 [some (.inr (.inr (.inl (0)))), some (.inl (x1)), some (.inr (.inl (X))), none, some (.inl (x3))] [] M n (PR M n D x1 X x3) := by
    intro hs h
    refine tb_X11_put_17 (c := true) ?_
    simp only [kb_X11_put_17, w_new, w64_r, true_and, and_true, Nat.reduceAdd, Nat.reduceSub, eq_self]
    exact Or.inr (Or.inl ⟨⟨hs, h⟩, rfl, rfl, rfl⟩)
  have n27 : (0 ≤ x1 ∧ x1 ≤ 9) → (0 ≤ x3 ∧ x3 ≤ 18) → tT e d 3382 27 [some (.inr (.inr (.inl (0)))), some (.inl (x1)), some (.inr (.inl (X))), none, some (.inl (x3))] [] M n (PR M n D x1 X x3) := by
    intro hs h
    obtain ⟨s, rfl⟩ : ∃ s : Nat, x3 = (s : Int) := ⟨x3.toNat, by omega⟩
    refine tb_X11_put_27 (c := true) ?_
    simp only [kb_X11_put_27, w_ald_0, w_gf_13_4, tw_t, w_iv0, tfr_0, tfr_1, tfr_2, tfr_3, tfr_4, w_ild_1, w_bi, w_lld_2, w_ild4, w_iv3, w_iv2, w_ire, trg, w64_r, true_and, and_true, Nat.reduceAdd, Nat.reduceSub, eq_self, tsh_0, tyk_13, tsh_77, tyk_8, tcq_8, tsh_5, tyk_11, tcq_13, tcq_11, tyk_4, tcq_4, tsh_113]
    refine tc_n (D := 0) (fun d' hd' => e_clear (b := 0) (by decide) hC) (by omega) ?_
    rintro M1 ⟨q1, q2, q3⟩
    try simp only [kb_X11_put_27, w_ald_0, w_gf_13_4, tw_t, w_iv0, tfr_0, tfr_1, tfr_2, tfr_3, tfr_4, w_ild_1, w_bi, w_lld_2, w_ild4, w_iv3, w_iv2, w_ire, trg, w64_r, true_and, and_true, Nat.reduceAdd, Nat.reduceSub, eq_self, tsh_0, tyk_13, tsh_77, tyk_8, tcq_8, tsh_5, tyk_11, tcq_13, tcq_11, tyk_4, tcq_4, tsh_113]
    have e78 : M1 78 5 = TT (10 - D) := (q3 78 5 (Or.inr (Or.inr (Or.inr ⟨rfl, rfl⟩)))).trans hu
    refine tc_i (D := 7) (fun d' hd' => x_makeN (b := 0) hX (by omega) hD e78 q1 (by decide) q2 hd') (by omega) ?_
    rintro z1 M2 ⟨(⟨rfl, hf⟩ | ⟨rfl, hf⟩), ⟨c2, p2⟩, t2, pb⟩
    · try simp only [kb_X11_put_27, w_ald_0, w_gf_13_4, tw_t, w_iv0, tfr_0, tfr_1, tfr_2, tfr_3, tfr_4, w_ild_1, w_bi, w_lld_2, w_ild4, w_iv3, w_iv2, w_ire, trg, w64_r, true_and, and_true, Nat.reduceAdd, Nat.reduceSub, eq_self, tsh_0, tyk_13, tsh_77, tyk_8, tcq_8, tsh_5, tyk_11, tcq_13, tcq_11, tyk_4, tcq_4, tsh_113]
      refine ⟨d - 1, by omega, _, x_become2 (by omega), ?_, ?_⟩
      · rintro v M' n' ⟨q, _⟩
        cases q
      · rintro x M' n' ⟨q, rfl, rfl⟩
        cases q
        exact ⟨rfl, Or.inr (Or.inr (Or.inl ⟨⟨hs, h⟩, hf, rfl, rfl, c2, pE_tr q3 p2⟩))⟩
    · try simp only [kb_X11_put_27, w_ald_0, w_gf_13_4, tw_t, w_iv0, tfr_0, tfr_1, tfr_2, tfr_3, tfr_4, w_ild_1, w_bi, w_lld_2, w_ild4, w_iv3, w_iv2, w_ire, trg, w64_r, true_and, and_true, Nat.reduceAdd, Nat.reduceSub, eq_self, tsh_0, tyk_13, tsh_77, tyk_8, tcq_8, tsh_5, tyk_11, tcq_13, tcq_11, tyk_4, tcq_4, tsh_113]
      have k := PB_s pb hf
      refine tc_i (D := 4) (fun d' hd' => x_become (b := 0) hs t2 k.1 (by decide) c2 hd') (by omega) ?_
      rintro z M3 ⟨q5, c3, p3⟩
      try simp only [kb_X11_put_27, w_ald_0, w_gf_13_4, tw_t, w_iv0, tfr_0, tfr_1, tfr_2, tfr_3, tfr_4, w_ild_1, w_bi, w_lld_2, w_ild4, w_iv3, w_iv2, w_ire, trg, w64_r, true_and, and_true, Nat.reduceAdd, Nat.reduceSub, eq_self, tsh_0, tyk_13, tsh_77, tyk_8, tcq_8, tsh_5, tyk_11, tcq_13, tcq_11, tyk_4, tcq_4, tsh_113]
      rw [k.2] at q5
      exact ⟨by omega, Or.inr (Or.inr (Or.inr ⟨⟨hs, h⟩, hf, ⟨z, rfl, q5⟩, rfl, c3, pE_tr q3 (pE_tr p2 p3)⟩))⟩
  refine tb_X11_put_0 (c := true) ?_
  simp only [kb_X11_put_0, w_ald_0, w_ild_1, w_iv1, tfr_0, tfr_1, tfr_2, tfr_3, tfr_4, w_ild4, w_if_lt, w_bi, w_ic_le, w_nil, w64_r, true_and, and_true, Nat.reduceAdd, Nat.reduceSub, eq_self, tsh_0, tyk_13, tsh_77, tyk_8, tcq_8, tsh_5, tyk_11, tcq_13, tcq_11, tyk_4, tcq_4, tsh_113]
  refine tc_cs (D := 0) (a := 0) h1 (by omega) rfl (fun hs => ?_) (fun hs => Or.inl ⟨hs, rfl, rfl, rfl⟩)
  try simp only [kb_X11_put_0, w_ald_0, w_ild_1, w_iv1, tfr_0, tfr_1, tfr_2, tfr_3, tfr_4, w_ild4, w_if_lt, w_bi, w_ic_le, w_nil, w64_r, true_and, and_true, Nat.reduceAdd, Nat.reduceSub, eq_self, tsh_0, tyk_13, tsh_77, tyk_8, tcq_8, tsh_5, tyk_11, tcq_13, tcq_11, tyk_4, tcq_4, tsh_113]
  refine ⟨by omega, fun h => n17 hs (by omega), fun h => ?_⟩
  exact ⟨by omega, fun h4 => n27 hs (by omega), fun h4 => n17 hs (by omega)⟩
end HAND
