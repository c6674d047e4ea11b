/-! THE CLASS: the wholes of bounds, as they are. -/
theorem tyk_3 : tyk 3 = (0, 3, 2) := rfl
theorem tyk_4 : tyk 4 = (0, 4, 2) := rfl
theorem tyk_10 : tyk 10 = (0, 10, 13) := rfl
theorem tyk_2 : tyk 2 = (0, 2, 6) := rfl
theorem tsh_80 : tsh 80 = 3 := by rw [tsh_def]; decide +kernel
theorem tsh_79 : tsh 79 = 10 := by rw [tsh_def]; decide +kernel
theorem tcq_3 : ((3 : Nat) : Int) = 3 := rfl
theorem tcq_4 : ((4 : Nat) : Int) = 4 := rfl
theorem tcq_10 : ((10 : Nat) : Int) = 10 := rfl
theorem tcq_2 : ((2 : Nat) : Int) = 2 := rfl
/-- what a number field holds -/
theorem CI_i {M : tM} {r a f : Nat} {lo hi : Int} (hC : CI M) (h : cl r a) (hq : fsp a f = (0, lo, hi)) : lo ≤ M r (f : Nat) ∧ M r (f : Nat) ≤ hi := by
  have hc := hC.1 r (f : Nat) h.2 (by omega)
  rw [h.1, Int.toNat_natCast] at hc
  unfold cok at hc
  rw [hq] at hc
  exact hc
theorem CI_26 {M : tM} {r : Nat} {i : Int} (hC : CI M) (h : cl r 26) (hi : 0 ≤ i) : -65536 ≤ M r i ∧ M r i ≤ 2147483647 := by
  have hc := hC.1 r i h.2 hi
  rw [h.1] at hc
  exact hc
section TCALLS
variable {e : tE} {b d mi a D n : Nat} {o : bO} {vs rest : List tV} {L : tL} {M : tM} {Q : tR → tM → Nat → Prop} {k : tL → List tV → tM → Nat → Prop}
theorem ts_i {P : Int → Prop} (h : ∀ d', D ≤ d' → sC e b d' a vs n (SQi n P)) (hC : CI M) (hd : D + 1 ≤ d) (hk : ∀ x M', P x → CI M' → pE b M M' → k L (.inl x :: rest) M' n) : tcall e d mi a o vs rest L M n Q k :=
  ⟨d - 1, by omega, _, h (d - 1) (by omega) M hC trivial, fun v M' n' q => by obtain ⟨⟨c1, c2⟩, x, q1, rfl, q2⟩ := q; cases q1; exact hk x M' q2 c1 c2, fun v M' n' q => by obtain ⟨-, x, q1, q2⟩ := q; cases q1⟩
theorem ts_l {P : Int → Prop} (h : ∀ d', D ≤ d' → sC e b d' a vs n (SQl n P)) (hC : CI M) (hd : D + 1 ≤ d) (hk : ∀ x M', P x → CI M' → pE b M M' → k L (.inr (.inl x) :: rest) M' n) : tcall e d mi a o vs rest L M n Q k :=
  ⟨d - 1, by omega, _, h (d - 1) (by omega) M hC trivial, fun v M' n' q => by obtain ⟨⟨c1, c2⟩, x, q1, rfl, q2⟩ := q; cases q1; exact hk x M' q2 c1 c2, fun v M' n' q => by obtain ⟨-, x, q1, q2⟩ := q; cases q1⟩
theorem ts_n {P : Prop} (h : ∀ d', D ≤ d' → sC e b d' a vs n (SQn n P)) (hC : CI M) (hd : D + 1 ≤ d) (hk : ∀ M', P → CI M' → pE b M M' → k L rest M' n) : tcall e d mi a o vs rest L M n Q k :=
  ⟨d - 1, by omega, _, h (d - 1) (by omega) M hC trivial, fun v M' n' q => by obtain ⟨⟨c1, c2⟩, q1, rfl, q2⟩ := q; cases q1; exact hk M' q2 c1 c2, fun v M' n' q => by obtain ⟨-, q1, q2⟩ := q; cases q1⟩
theorem ts_any {Qc : tR → tM → Nat → Prop} (h : ∀ d', D ≤ d' → tC e d' a vs M n Qc) (hd : D + 1 ≤ d) (hk : ∀ v M' n', Qc (.inl v) M' n' → k L (v.toList ++ rest) M' n') (hx : ∀ x M' n', Qc (.inr x) M' n' → False) : tcall e d mi a o vs rest L M n Q k :=
  ⟨d - 1, by omega, _, h (d - 1) (by omega), hk, fun x M' n' q => (hx x M' n' q).elim⟩
theorem tp_n {P : tM → Prop} {p : Int → Prop} (h : ∀ d', D ≤ d' → sP e b d' a vs n P (fun _ rr n' M' => rr = .inl none ∧ n' = n ∧ p (M' 80 ((0 : Nat) : Int)))) (hC : CI M) (hP : P M) (hd : D + 1 ≤ d) (hk : ∀ M', p (M' 80 0) → CI M' → pE b M M' → k L rest M' n) : tcall e d mi a o vs rest L M n Q k :=
  ⟨d - 1, by omega, _, h (d - 1) (by omega) M hC hP, fun v M' n' q => by obtain ⟨⟨c1, c2⟩, q1, rfl, q2⟩ := q; cases q1; exact hk M' q2 c1 c2, fun v M' n' q => by obtain ⟨-, q1, q2⟩ := q; cases q1⟩
end TCALLS
/-- only one bound changes -/
def BD (b : Nat) (M M' : tM) (r : Nat) : Prop := CI M' ∧ pE b M M' ∧ ∀ (k : Nat) (i : Int), k ≠ r → M' k i = M k i
theorem BD_refl {b r : Nat} {M : tM} (hC : CI M) : BD b M M r := ⟨hC, pE_refl, fun _ _ _ => rfl⟩
theorem BD_tr {b r : Nat} {M M1 M2 : tM} (h1 : BD b M M1 r) (h2 : BD b M1 M2 r) : BD b M M2 r := ⟨h2.1, pE_tr h1.2.1 h2.2.1, fun k i h => (h2.2.2 k i h).trans (h1.2.2 k i h)⟩
abbrev HB (b r : Nat) : Prop := b < 2 ∨ b = 3 ∨ (b = 6 ∧ 80 ≤ r ∧ r ≤ 82)
theorem BD_put {b r f : Nat} {M : tM} {v : Int} (hC : CI M) (h : cl r 3) (hf : f = 0 ∨ f = 1) (hb : HB b r) : BD b M (tU M r (f : Nat) v) r := by
  refine ⟨CI_put hC h.1 (fun _ => ?_), pE_put (prt_f (a := 3) (by unfold HB at hb; omega) h (by omega) (by omega) (by decide)), fun k i hk => tU_nk hk⟩
  rcases hf with rfl | rfl <;> exact trivial
theorem BD_0 {b r : Nat} {M : tM} {v : Int} (hC : CI M) (h : cl r 3) (hb : HB b r) : BD b M (tU M r 0 v) r := BD_put (f := 0) hC h (Or.inl rfl) hb
theorem BD_1 {b r : Nat} {M : tM} {v : Int} (hC : CI M) (h : cl r 3) (hb : HB b r) : BD b M (tU M r 1 v) r := BD_put (f := 1) hC h (Or.inr rfl) hb
section HAND
variable {e : tE} {b d n : Nat} {M : tM}
theorem e_copy {r x1 : Nat} (h0 : cl r 3) (h1 : cl x1 3) (hb : HB b r) (hC : CI M) : tC e d 771 [.inr (.inr (.inl r)), .inr (.inr (.inl x1))] M n (tQn n (fun M' => M' r 0 = w64 (M x1 0) ∧ BD b M M' r)) := by
  have hr := h0.1
  have hx := h1.1
  refine tst_X1_copy ?_
  refine tb_X1_copy_0 (c := true) ?_
  simp only [kb_X1_copy_0, w_ald_0, w_ald_1, w_gf_3_0, tw_t, w_pf_3_0, w_gf_3_1, w_pf_3_1, w_re, w64_r, true_and, and_true, Nat.reduceAdd, Nat.reduceSub, eq_self, hr, hx, tyk_3]
  refine ⟨rfl, rfl, (tU_ni (by decide)).trans (tU_eq ..), ?_⟩
  have h := BD_0 (v := w64 (M x1 0)) hC h0 hb
  exact BD_tr h (BD_1 h.1 h0 hb)
theorem e_roundDown {r : Nat} {x1 : Int} (h0 : cl r 3) (h1 : (-9223372036854775808 ≤ x1 ∧ x1 < 9223372036854775808)) (hb : HB b r) (hC : CI M) : tC e d 778 [.inr (.inr (.inl r)), .inr (.inl x1)] M n (tQn n (fun M' => M' r 0 = M r 0 ∧ BD b M M' r)) := by
  have hr := h0.1
  refine tst_X1_roundDown ?_
  refine tb_X1_roundDown_0 (c := true) ?_
  simp only [kb_X1_roundDown_0, w_lld_1, w_lc1, w_lcmp, ne_eq, tlc_r, tlc_eq, tlc_lt, tlc_ge, tlc_gt, tlc_le, w_if_le, w_ald_0, w_dupi, w_dupr, w_gf_3_1, tw_t, w_lrem, w_lsub, w_pf_3_1, w_nil, w64_r, true_and, and_true, Nat.reduceAdd, Nat.reduceSub, eq_self, hr, tyk_3]
  refine ⟨by omega, fun h => ?_, fun h => ?_⟩
  · refine tb_X1_roundDown_21 (c := true) ?_
    simp only [kb_X1_roundDown_21, w_re, w64_r, true_and, and_true, Nat.reduceAdd, Nat.reduceSub, eq_self]
    exact ⟨rfl, rfl, rfl, BD_refl hC⟩
  refine ⟨by omega, ?_⟩
  refine tb_X1_roundDown_21 (c := true) ?_
  simp only [kb_X1_roundDown_21, w_re, w64_r, true_and, and_true, Nat.reduceAdd, Nat.reduceSub, eq_self]
  exact ⟨rfl, rfl, tU_ni (by decide), BD_1 hC h0 hb⟩
theorem e_roundUp {r : Nat} {x1 x2 : Int} (h0 : cl r 3) (h1 : (-9223372036854775808 ≤ x1 ∧ x1 < 9223372036854775808)) (h2 : 0 ≤ x2 ∧ x2 ≤ 1) (hb : HB b r) (hC : CI M) : tC e d 779 [.inr (.inr (.inl r)), .inr (.inl x1), .inl x2] M n (tQn n (fun M' => (M' r 0 = M r 0 ∨ M' r 0 = w64 (w64 (M r 0) + 1)) ∧ BD b M M' r)) := by
  have hr := h0.1
  refine tst_X1_roundUp ?_
  have n42 : ∀ (M1 : tM) (v4 : Int), M1 r 0 = M r 0 → BD b M M1 r → tT e d 779 42 [some (.inr (.inr (.inl r))), some (.inr (.inl x1)), none, some (.inl x2), some (.inr (.inl v4)), none] [] M1 n (tQn n (fun M' => (M' r 0 = M r 0 ∨ M' r 0 = w64 (w64 (M r 0) + 1)) ∧ BD b M M' r)) := by
    intro M1 v4 q1 q2
    refine tb_X1_roundUp_42 (c := true) ?_
    simp only [kb_X1_roundUp_42, w_ald_0, w_gf_3_1, tw_t, w_ld2, w_lcmp, ne_eq, tlc_r, tlc_eq, tlc_lt, tlc_ge, tlc_gt, tlc_le, w_if_lt, w_dupi, w_dupr, w_lsub, w_pf_3_1, w_gf_3_0, w_lc1, w_ladd, w_pf_3_0, w_nil, w64_r, true_and, and_true, Nat.reduceAdd, Nat.reduceSub, eq_self, hr, tyk_3]
    refine ⟨by omega, fun h => ?_, fun h => ?_⟩
    · refine tb_X1_roundUp_75 (c := true) ?_
      simp only [kb_X1_roundUp_75, w_re, w64_r, true_and, and_true, Nat.reduceAdd, Nat.reduceSub, eq_self]
      exact ⟨rfl, rfl, Or.inl q1, q2⟩
    refine tb_X1_roundUp_75 (c := true) ?_
    simp only [kb_X1_roundUp_75, w_re, w64_r, true_and, and_true, Nat.reduceAdd, Nat.reduceSub, eq_self]
    refine ⟨rfl, rfl, Or.inr ?_, ?_⟩
    · rw [tU_eq, tU_ni (show (0 : Int) ≠ 1 by decide), q1]
    · have g := BD_1 (v := w64 (w64 (M1 r 1) - 10000000000)) q2.1 h0 hb
      exact BD_tr q2 (BD_tr g (BD_0 g.1 h0 hb))
  have n16 : ∀ v : Int, (-9223372036854775808 ≤ v ∧ v < 9223372036854775808) → tT e d 779 16 [some (.inr (.inr (.inl r))), some (.inr (.inl x1)), none, some (.inl x2), none, none] [.inr (.inl v)] M n (tQn n (fun M' => (M' r 0 = M r 0 ∨ M' r 0 = w64 (w64 (M r 0) + 1)) ∧ BD b M M' r)) := by
    intro v hv
    have n29 : tT e d 779 29 [some (.inr (.inr (.inl r))), some (.inr (.inl x1)), none, some (.inl x2), some (.inr (.inl v)), none] [] M n (tQn n (fun M' => (M' r 0 = M r 0 ∨ M' r 0 = w64 (w64 (M r 0) + 1)) ∧ BD b M M' r)) := by
      refine tb_X1_roundUp_29 (c := true) ?_
      simp only [kb_X1_roundUp_29, w_ald_0, w_dupi, w_dupr, w_gf_3_1, tw_t, w_lld_1, w_lld4, w_lsub, w_ladd, w_pf_3_1, w_nil, w64_r, true_and, and_true, Nat.reduceAdd, Nat.reduceSub, eq_self, hr, tyk_3]
      exact n42 _ _ (tU_ni (by decide)) (BD_1 hC h0 hb)
    refine tb_X1_roundUp_16 (c := true) ?_
    simp only [kb_X1_roundUp_16, w_lst4, tkl_n, tkl_i, tkl_l, tkl_r, w_lld4, w_lc0, w_lcmp, ne_eq, tlc_r, tlc_eq, tlc_lt, tlc_ge, tlc_gt, tlc_le, w_if_gt, w_ild_3, w_if_eq, w_nil, w64_r, true_and, and_true, Nat.reduceAdd, Nat.reduceSub, eq_self]
    refine ⟨by omega, fun h => n29, fun h => ?_⟩
    refine ⟨by omega, fun h => ?_, fun h => n29⟩
    exact n42 _ _ rfl (BD_refl hC)
  refine tb_X1_roundUp_0 (c := true) ?_
  simp only [kb_X1_roundUp_0, w_lld_1, w_lc1, w_lcmp, ne_eq, tlc_r, tlc_eq, tlc_lt, tlc_ge, tlc_gt, tlc_le, w_if_le, w_ald_0, w_gf_3_1, tw_t, w_lrem, w_goto, w64_r, true_and, and_true, Nat.reduceAdd, Nat.reduceSub, eq_self, hr, tyk_3]
  refine ⟨by omega, fun h => ?_, fun h => ?_⟩
  · refine tb_X1_roundUp_15 (c := true) ?_
    simp only [kb_X1_roundUp_15, w_lc0, w_nil, w64_r, true_and, and_true, Nat.reduceAdd, Nat.reduceSub, eq_self]
    exact n16 _ (by omega)
  refine ⟨by omega, ?_⟩
  have hm : (w64 (M r 1)).tmod x1 = (w64 (M r 1)).tmod x1 := rfl
  refine n16 _ ?_
  have g2 : ((w64 (M r 1)).tmod x1).natAbs ≤ (w64 (M r 1)).natAbs := by
    rw [Int.natAbs_tmod]
    exact Nat.mod_le _ _
  have g3 : ((w64 (M r 1)).tmod x1).natAbs < x1.natAbs := by
    rw [Int.natAbs_tmod]
    exact Nat.mod_lt _ (by omega)
  have := w64_LR (M r 1)
  unfold LR at this
  omega
theorem e_tooGreat {r : Nat} (h0 : cl r 3) (hs : -100000000000 ≤ M r 0 ∧ M r 0 ≤ 100000000000) : tC e d 776 [.inr (.inr (.inl r))] M n (tQi n (fun z M' => z = 0 ∧ M' = M)) := by
  have hr := h0.1
  have e1 : w64 (M r 0) = M r 0 := by unfold w64; omega
  refine tst_X1_isTooGreat ?_
  refine tb_X1_isTooGreat_0 (c := true) ?_
  simp only [kb_X1_isTooGreat_0, w_ald_0, w_gf_3_0, tw_t, w_ld2, w_lcmp, ne_eq, tlc_r, tlc_eq, tlc_lt, tlc_ge, tlc_gt, tlc_le, w_if_ge, w_if_lt, w_if_ne, w_gf_3_1, w_lc0, w_nil, w64_r, true_and, and_true, Nat.reduceAdd, Nat.reduceSub, eq_self, hr, tyk_3, e1]
  refine ⟨by omega, fun h => absurd h (by omega), fun h => ?_⟩
  refine ⟨by omega, fun h => absurd h (by omega), fun h => ?_⟩
  refine ⟨by omega, fun h => ?_, fun h => absurd h (by omega)⟩
  refine tb_X1_isTooGreat_46 (c := true) ?_
  simp only [kb_X1_isTooGreat_46, w_ic, w_nil, w64_r, true_and, and_true, Nat.reduceAdd, Nat.reduceSub, eq_self]
  refine tb_X1_isTooGreat_47 (c := true) ?_
  simp only [kb_X1_isTooGreat_47, w_ire, trg, w64_r, true_and, and_true, Nat.reduceAdd, Nat.reduceSub, eq_self]
  exact ⟨by omega, _, rfl, rfl, rfl, rfl⟩
end HAND
theorem cl_79 : cl 79 10 := ⟨tsh_79, by decide⟩
theorem cl_80 : cl 80 3 := ⟨tsh_80, by decide⟩
theorem x_10 {r : Nat} (h : cl r 10) : r = 79 := by
  have g : ∀ r : Nat, r < 664 → tshl.getD r 0 = 10 → r = 79 := by decide +kernel
  have h1 := h.1
  rw [tsh_def] at h1
  exact g r h.2 h1
section HAND
variable {e : tE} {b d n : Nat} {M : tM}
theorem e_assign {x1 x2 x3 : Int} (h1 : (-9223372036854775808 ≤ x1 ∧ x1 < 9223372036854775808)) (h2 : (-9223372036854775808 ≤ x2 ∧ x2 < 9223372036854775808)) (h3 : 0 ≤ x3 ∧ x3 ≤ 1) (hb : b < 2 ∨ b = 6) (hC : CI M) : tC e d 2562 [.inr (.inr (.inl 79)), .inr (.inl x1), .inr (.inl x2), .inl x3] M n (tQn n (fun M' => M' 80 0 = x1 ∧ CI M' ∧ pE b M M')) := by
  refine tst_X8_assign ?_
  refine tb_X8_assign_0 (c := true) ?_
  simp only [kb_X8_assign_0, w_ald_0, w_gf_10_0, tw_t, w_lld_1, w_pf_3_0, w_lld_3, w_pf_3_1, w_ild5, w_pf_10_1, w_re, w64_r, true_and, and_true, Nat.reduceAdd, Nat.reduceSub, eq_self, tsh_79, tyk_10, tsh_80, tyk_3, tcq_10, tcq_3]
  have g1 := BD_0 (b := b) (v := x1) hC cl_80 (by omega)
  have g2 := BD_1 (b := b) (v := x2) g1.1 cl_80 (by omega)
  refine ⟨h3, rfl, rfl, (tU_nk (by decide)).trans ((tU_ni (by decide)).trans (tU_eq ..)), ?_, ?_⟩
  · exact CI_put (s := 10) g2.1 tsh_79 (fun _ => by show 0 ≤ x3 ∧ x3 ≤ 1; exact h3)
  · exact pE_tr (pE_tr g1.2.1 g2.2.1) (pE_put (prt_f (a := 10) (f := 1) (by omega) cl_79 (fun q => absurd q (by decide)) (fun q => absurd q (by decide)) (by decide)))
theorem k_X8_assign_b {r : Nat} {x1 x2 x3 : Int} (h0 : cl r 10) (h1 : -922337204 ≤ x1 ∧ x1 ≤ 922337204) (h2 : (-9223372036854775808 ≤ x2 ∧ x2 < 9223372036854775808)) (h3 : 0 ≤ x3 ∧ x3 ≤ 1) (hb : b < 2 ∨ b = 6) (hd : 0 ≤ d) : sP e b d 2562 [.inr (.inr (.inl r)), .inr (.inl x1), .inr (.inl x2), .inl x3] n (fun _ => True) (fun _ rr n' M' => rr = .inl none ∧ n' = n ∧ (fun c => -922337204 ≤ c ∧ c ≤ 922337204) (M' 80 ((0 : Nat) : Int))) := by
  cases x_10 h0
  intro M hC _
  refine tC_mono (e_assign (by omega) h2 h3 hb hC) ?_
  intro v M' n' q
  obtain ⟨q1, q2, q3, q4, q5⟩ := q
  exact ⟨⟨q4, q5⟩, q1, q2, by rw [show ((0 : Nat) : Int) = 0 from rfl, q3]; exact h1⟩
end HAND
