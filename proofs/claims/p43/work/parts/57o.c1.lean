/-! THE CLASS BY VALUES: long numbers, eight limbs of nine digits. -/
/-- what the first limbs of a row are worth -/
noncomputable def S9 (M : tM) (r : Nat) : Nat → Int
  | 0 => 0
  | k + 1 => S9 M r k + M r (k : Nat) * TT (9 * k)
theorem S9_s (M : tM) (r k : Nat) : S9 M r (k + 1) = S9 M r k + M r (k : Nat) * TT (9 * k) := rfl
theorem S9_u {M M' : tM} {r r' : Nat} : ∀ {k : Nat}, (∀ j : Nat, j < k → M' r' (j : Nat) = M r (j : Nat)) → S9 M' r' k = S9 M r k := by
  intro k
  induction k with
  | zero => intro _; rfl
  | succ k ih =>
    intro h
    rw [S9_s, S9_s, h k (by omega), ih (fun j q => h j (by omega))]
theorem S9_z {M : tM} {r : Nat} : ∀ {k : Nat}, (∀ j : Nat, j < k → M r (j : Int) = 0) → S9 M r k = 0 := by
  intro k
  induction k with
  | zero => intro _; rfl
  | succ k ih =>
    intro h
    rw [S9_s, h k (by omega), Int.zero_mul, ih (fun j q => h j (by omega))]
    rfl
theorem TT_9 : TT 9 = 1000000000 := by
  unfold TT
  rw [tn_def]
  rfl
theorem TT_72 : TT 72 = 1000000000000000000000000000000000000000000000000000000000000000000000000 := by
  unfold TT
  rw [tn_def]
  rfl
theorem TT_9s (k : Nat) : TT (9 * (k + 1)) = TT (9 * k) * 1000000000 := by rw [show 9 * (k + 1) = 9 * k + 9 by omega, TT_add, TT_9]
theorem S9_r {M : tM} {r : Nat} : ∀ {k : Nat}, (∀ j : Nat, j < k → 0 ≤ M r (j : Nat) ∧ M r (j : Nat) < 1000000000) → 0 ≤ S9 M r k ∧ S9 M r k < TT (9 * k) := by
  intro k
  induction k with
  | zero =>
    intro _
    exact ⟨Int.le_refl _, TT_pos _⟩
  | succ k ih =>
    intro h
    have g := ih (fun j q => h j (by omega))
    have hk := h k (by omega)
    have t := TT_pos (9 * k)
    have p1 := Int.mul_nonneg hk.1 (Int.le_of_lt t)
    have p2 : M r (k : Nat) * TT (9 * k) ≤ 999999999 * TT (9 * k) := Int.mul_le_mul_of_nonneg_right (by omega) (Int.le_of_lt t)
    rw [S9_s, TT_9s]
    omega
theorem S9_set {M : tM} {r j : Nat} {v : Int} : ∀ {k : Nat}, j < k → S9 (tU M r (j : Nat) v) r k = S9 M r k + (v - M r (j : Nat)) * TT (9 * j) := by
  intro k
  induction k with
  | zero => intro h; exact absurd h (Nat.not_lt_zero j)
  | succ k ih =>
    intro h
    rw [S9_s, S9_s]
    by_cases hj : j = k
    · subst hj
      rw [tU_eq, S9_u (M := M) (r := r) (fun i q => tU_ni (by omega)), Int.sub_mul]
      omega
    · rw [ih (by omega), tU_ni (by omega)]
      omega
/-- the long numbers of the curves -/
def FXC (r : Nat) : Prop := r = 87 ∨ r = 90 ∨ r = 93 ∨ r = 96 ∨ r = 99 ∨ r = 102
/-- a long number -/
def LX (M : tM) (r : Nat) (N : Int) : Prop := (∀ j : Nat, j < 8 → 0 ≤ M (r + 1) (j : Nat) ∧ M (r + 1) (j : Nat) < 1000000000) ∧ S9 M (r + 1) 8 = N
theorem LX_u {M M' : tM} {r : Nat} {N : Int} (h : LX M r N) (e : ∀ i, M' (r + 1) i = M (r + 1) i) : LX M' r N := ⟨fun j q => by rw [e]; exact h.1 j q, (S9_u (fun j _ => e _)).trans h.2⟩
theorem LX_r {M : tM} {r : Nat} {N : Int} (h : LX M r N) : 0 ≤ N ∧ N < 1000000000000000000000000000000000000000000000000000000000000000000000000 := by
  have g := S9_r h.1
  rw [h.2, TT_72] at g
  exact g
/-- only one long number changes -/
def GE (b : Nat) (M M' : tM) (r : Nat) : Prop := (CI M' ∧ pE b M M') ∧ ∀ (k : Nat) (i : Int), k ≠ r + 1 → k ≠ r + 2 → M' k i = M k i
theorem GE_refl {b r : Nat} {M : tM} (hC : CI M) : GE b M M r := ⟨⟨hC, pE_refl⟩, fun _ _ _ _ => rfl⟩
theorem GE_tr {b r : Nat} {M M1 M2 : tM} (h1 : GE b M M1 r) (h2 : GE b M1 M2 r) : GE b M M2 r := ⟨⟨h2.1.1, pE_tr h1.1.2 h2.1.2⟩, fun k i a c => (h2.2 k i a c).trans (h1.2 k i a c)⟩
theorem FS_of {r : Nat} (h : FXC r) : tsh r = 6 ∧ tsh (r + 1) = 23 ∧ tsh (r + 2) = 24 := by
  rcases h with rfl | rfl | rfl | rfl | rfl | rfl <;> (refine ⟨?_, ?_, ?_⟩ <;> (rw [tsh_def]; decide +kernel))
theorem tyk_6 : tyk 6 = (0, 6, 2) := rfl
theorem tcq_6 : ((6 : Nat) : Int) = 6 := rfl
theorem tyk_23 : tyk 23 = (2, 2, 8) := rfl
theorem tyk_24 : tyk 24 = (2, 2, 10) := rfl
theorem tcq_8n : ((8 : Nat) : Int) = 8 := rfl
theorem tcq_10n : ((10 : Nat) : Int) = 10 := rfl
section HAND
variable {e : tE} {b d n : Nat} {M : tM}
theorem lim_put {r : Nat} {i v : Int} (hb : b < 2) (hC : CI M) (h : FXC r) (hi : 0 ≤ i ∧ i < 8) : GE b M (tU M (r + 1) i v) r := by
  have ht := (FS_of h).2.1
  exact ⟨⟨CI_put hC ht (fun _ => trivial), pE_put (prt_a (t := 2) (Or.inl hb) ⟨by unfold FXC at h; omega, by rw [ht]; rfl, hi.1, by rw [ht]; show _ < (8 : Int); exact hi.2⟩ (by decide) (fun q => by rw [ht] at q; cases q))⟩, fun _ _ q _ => tU_nk q⟩
theorem sms_put {r : Nat} {i v : Int} (hb : b < 2) (hC : CI M) (h : FXC r) (hi : 0 ≤ i ∧ i < 10) : GE b M (tU M (r + 2) i v) r := by
  have ht := (FS_of h).2.2
  exact ⟨⟨CI_put hC ht (fun _ => trivial), pE_put (prt_a (t := 2) (Or.inl hb) ⟨by unfold FXC at h; omega, by rw [ht]; rfl, hi.1, by rw [ht]; show _ < (10 : Int); exact hi.2⟩ (by decide) (fun q => by rw [ht] at q; cases q))⟩, fun _ _ _ q => tU_nk q⟩
theorem f_clear {r : Nat} (hr : FXC r) (hb : b < 2) (hC : CI M) : tC e d 1537 [.inr (.inr (.inl r))] M n (tQn n (fun M' => LX M' r 0 ∧ GE b M M' r)) := by
  obtain ⟨t0, t1, t2⟩ := FS_of hr
  refine tst_X4_clear ?_
  have n2 : ∀ (fu : Nat) (M1 : tM) (I : Nat), 8 - I = fu → I ≤ 8 → (∀ j : Nat, j < I → M1 (r + 1) (j : Int) = 0) → GE b M M1 r → tT e d 1537 2 [some (.inr (.inr (.inl (r)))), some (.inl ((I : Int)))] [] M1 n (tQn n (fun M' => LX M' r 0 ∧ GE b M M' r)) := by
    intro fu
    induction fu with
    | zero =>
      intro M1 I hf hI hz hg
      have hIe : I = 8 := by omega
      subst hIe
      refine tb_X4_clear_2 (c := false) ?_
      simp only [kb_X4_clear_2, w_ild_1, w_bi, w_ic_ge, w_ald_0, w_gf_6_0, tw_f, w_lc0, w_las, w_inc1, tkl_n, tkl_i, tkl_l, tkl_r, w_goto, true_and, and_true, Nat.reduceAdd, Nat.reduceSub, eq_self, tyk_6, tcq_6, tyk_23, tyk_24, tcq_8n, tcq_10n, t0, t1]
      repeat refine And.intro (by omega) ?_
      refine ⟨fun _ => ?_, fun q => absurd (by omega) q⟩
      refine tb_X4_clear_21 (c := false) ?_
      simp only [kb_X4_clear_21, w_re, true_and, and_true, Nat.reduceAdd, Nat.reduceSub, eq_self]
      exact ⟨rfl, rfl, ⟨fun j hj => by rw [hz j hj]; decide, S9_z hz⟩, hg⟩
    | succ fu ih =>
      intro M1 I hf hI hz hg
      refine tb_X4_clear_2 (c := false) ?_
      simp only [kb_X4_clear_2, w_ild_1, w_bi, w_ic_ge, w_ald_0, w_gf_6_0, tw_f, w_lc0, w_las, w_inc1, tkl_n, tkl_i, tkl_l, tkl_r, w_goto, true_and, and_true, Nat.reduceAdd, Nat.reduceSub, eq_self, tyk_6, tcq_6, tyk_23, tyk_24, tcq_8n, tcq_10n, t0, t1]
      repeat refine And.intro (by omega) ?_
      first | refine ⟨fun q => absurd q (by omega), fun _ => ?_⟩ | refine fun _ => ?_
      repeat refine And.intro (by omega) ?_
      rw [show ((I : Nat) : Int) + 1 = ((I + 1 : Nat) : Int) by omega]
      refine ih _ (I + 1) (by omega) (by omega) (fun j hj => ?_) (GE_tr hg (lim_put (i := (I : Int)) (v := 0) hb hg.1.1 hr (by omega)))
      by_cases hjI : j = I
      · rw [hjI, tU_eq]
      · rw [tU_ni (by omega)]
        exact hz j (by omega)
  refine tb_X4_clear_0 (c := false) ?_
  simp only [kb_X4_clear_0, w_ic, w_ist_1, tkl_n, tkl_i, tkl_l, tkl_r, w_nil, true_and, and_true, Nat.reduceAdd, Nat.reduceSub, eq_self]
  repeat refine And.intro (by omega) ?_
  exact n2 8 M 0 (by omega) (by omega) (fun j hj => absurd hj (Nat.not_lt_zero j)) (GE_refl hC)
theorem f_copy {r x : Nat} {N : Int} (hr : FXC r) (hx : FXC x) (hn : r ≠ x) (hN : LX M x N) (hb : b < 2) (hC : CI M) : tC e d 1538 [.inr (.inr (.inl r)), .inr (.inr (.inl x))] M n (tQn n (fun M' => LX M' r N ∧ GE b M M' r)) := by
  obtain ⟨t0, t1, t2⟩ := FS_of hr
  obtain ⟨u0, u1, u2⟩ := FS_of hx
  have hne : x + 1 ≠ r + 1 ∧ x + 1 ≠ r + 2 := by unfold FXC at hr hx; omega
  refine tst_X4_copy ?_
  have n2 : ∀ (fu : Nat) (M1 : tM) (I : Nat), 8 - I = fu → I ≤ 8 → (∀ j : Nat, j < I → M1 (r + 1) (j : Int) = M (x + 1) (j : Int)) → GE b M M1 r → tT e d 1538 2 [some (.inr (.inr (.inl (r)))), some (.inr (.inr (.inl (x)))), some (.inl ((I : Int)))] [] M1 n (tQn n (fun M' => LX M' r N ∧ GE b M M' r)) := by
    intro fu
    induction fu with
    | zero =>
      intro M1 I hf hI hz hg
      have hIe : I = 8 := by omega
      subst hIe
      refine tb_X4_copy_2 (c := false) ?_
      simp only [kb_X4_copy_2, w_ild_2, w_bi, w_ic_ge, w_ald_0, w_gf_6_0, tw_f, w_ald_1, w_la, w_lax, w_las, w_inc2, tkl_n, tkl_i, tkl_l, tkl_r, w_goto, true_and, and_true, Nat.reduceAdd, Nat.reduceSub, eq_self, tyk_6, tcq_6, tyk_23, tyk_24, tcq_8n, tcq_10n, t0, t1, u0, u1]
      repeat refine And.intro (by omega) ?_
      refine ⟨fun _ => ?_, fun q => absurd (by omega) q⟩
      refine tb_X4_copy_26 (c := false) ?_
      simp only [kb_X4_copy_26, w_re, true_and, and_true, Nat.reduceAdd, Nat.reduceSub, eq_self]
      exact ⟨rfl, rfl, ⟨fun j hj => by rw [hz j hj]; exact hN.1 j hj, (S9_u hz).trans hN.2⟩, hg⟩
    | succ fu ih =>
      intro M1 I hf hI hz hg
      have e1 := hg.2 (x + 1) (I : Int) hne.1 hne.2
      refine tb_X4_copy_2 (c := false) ?_
      simp only [kb_X4_copy_2, w_ild_2, w_bi, w_ic_ge, w_ald_0, w_gf_6_0, tw_f, w_ald_1, w_la, w_lax, w_las, w_inc2, tkl_n, tkl_i, tkl_l, tkl_r, w_goto, true_and, and_true, Nat.reduceAdd, Nat.reduceSub, eq_self, tyk_6, tcq_6, tyk_23, tyk_24, tcq_8n, tcq_10n, t0, t1, u0, u1, e1]
      repeat refine And.intro (by omega) ?_
      first | refine ⟨fun q => absurd q (by omega), fun _ => ?_⟩ | refine fun _ => ?_
      repeat refine And.intro (by omega) ?_
      rw [show ((I : Nat) : Int) + 1 = ((I + 1 : Nat) : Int) by omega]
      refine ih _ (I + 1) (by omega) (by omega) (fun j hj => ?_) (GE_tr hg (lim_put (i := (I : Int)) (v := M (x + 1) (I : Int)) hb hg.1.1 hr (by omega)))
      by_cases hjI : j = I
      · rw [hjI, tU_eq]
      · rw [tU_ni (by omega)]
        exact hz j (by omega)
  refine tb_X4_copy_0 (c := false) ?_
  simp only [kb_X4_copy_0, w_ic, w_ist_2, tkl_n, tkl_i, tkl_l, tkl_r, w_nil, true_and, and_true, Nat.reduceAdd, Nat.reduceSub, eq_self]
  repeat refine And.intro (by omega) ?_
  exact n2 8 M 0 (by omega) (by omega) (fun j hj => absurd hj (Nat.not_lt_zero j)) (GE_refl hC)
theorem f_plus {r x : Nat} {N W : Int} (hr : FXC r) (hx : FXC x) (hN : LX M r N) (hW : LX M x W) (hs : N + W < 1000000000000000000000000000000000000000000000000000000000000000000000000) (hb : b < 2) (hC : CI M) : tC e d 1545 [.inr (.inr (.inl r)), .inr (.inr (.inl x))] M n (tQn n (fun M' => LX M' r (N + W) ∧ GE b M M' r)) := by
  obtain ⟨t0, t1, t2⟩ := FS_of hr
  obtain ⟨u0, u1, u2⟩ := FS_of hx
  refine tst_X4_plus ?_
  have n5 : ∀ (fu : Nat) (M1 : tM) (I : Nat) (cy : Int) (w5 w6 : Option tV), 8 - I = fu → I ≤ 8 → (0 ≤ cy ∧ cy ≤ 1) → (∀ j : Nat, j < I → 0 ≤ M1 (r + 1) (j : Int) ∧ M1 (r + 1) (j : Int) < 1000000000) → (∀ j : Nat, I ≤ j → M1 (r + 1) (j : Int) = M (r + 1) (j : Int) ∧ M1 (x + 1) (j : Int) = M (x + 1) (j : Int)) → S9 M1 (r + 1) I + cy * TT (9 * I) = S9 M (r + 1) I + S9 M (x + 1) I → GE b M M1 r → tT e d 1545 5 [some (.inr (.inr (.inl (r)))), some (.inr (.inr (.inl (x)))), some (.inr (.inl (cy))), none, some (.inl ((I : Int))), w5, w6] [] M1 n (tQn n (fun M' => LX M' r (N + W) ∧ GE b M M' r)) := by
    intro fu
    induction fu with
    | zero =>
      intro M1 I cy w5 w6 hf hI hcy hd1 hd2 hs2 hg
      have hIe : I = 8 := by omega
      subst hIe
      refine tb_X4_plus_5 (c := false) ?_
      simp only [kb_X4_plus_5, w_ild4, w_bi, w_ic_ge, w_ald_0, w_gf_6_0, tw_f, w_la, w_lax, w_ald_1, w_ladd, w_lld_2, w_lst5, tkl_n, tkl_i, tkl_l, tkl_r, w_lld5, w_ld2, w_lcmp, ne_eq, tlc_r, tlc_eq, tlc_lt, tlc_ge, tlc_gt, tlc_le, w_if_lt, w_lc1, w_goto, true_and, and_true, Nat.reduceAdd, Nat.reduceSub, eq_self, tyk_6, tcq_6, tyk_23, tyk_24, tcq_8n, tcq_10n, t0, t1, u0, u1]
      repeat refine And.intro (by omega) ?_
      refine ⟨fun _ => ?_, fun q => absurd (by omega) q⟩
      refine tb_X4_plus_67 (c := false) ?_
      simp only [kb_X4_plus_67, w_re, true_and, and_true, Nat.reduceAdd, Nat.reduceSub, eq_self]
      rw [hN.2, hW.2, show 9 * 8 = 72 from rfl, TT_72] at hs2
      have g := (S9_r hd1).1
      have hc0 : cy = 0 := by omega
      exact ⟨rfl, rfl, ⟨hd1, by rw [hc0] at hs2; omega⟩, hg⟩
    | succ fu ih =>
      intro M1 I cy w5 w6 hf hI hcy hd1 hd2 hs2 hg
      obtain ⟨e1, e2⟩ := hd2 I (Nat.le_refl _)
      have a1 := hN.1 I (by omega)
      have a2 := hW.1 I (by omega)
      have n45 : ∀ c' : Int, (0 ≤ c' ∧ c' ≤ 1) → (0 ≤ M (r + 1) (I : Int) + M (x + 1) (I : Int) + cy - c' * 1000000000 ∧ M (r + 1) (I : Int) + M (x + 1) (I : Int) + cy - c' * 1000000000 < 1000000000) → tT e d 1545 45 [some (.inr (.inr (.inl (r)))), some (.inr (.inr (.inl (x)))), some (.inr (.inl (cy))), none, some (.inl ((I : Int))), some (.inr (.inl (M (r + 1) (I : Int) + M (x + 1) (I : Int) + cy))), none] [.inr (.inl c')] M1 n (tQn n (fun M' => LX M' r (N + W) ∧ GE b M M' r)) := by
        intro c' hc1 hc2
        refine tb_X4_plus_45 (c := false) ?_
        simp only [kb_X4_plus_45, w_lst_2, tkl_n, tkl_i, tkl_l, tkl_r, w_ald_0, w_gf_6_0, tw_f, w_ild4, w_lld5, w_lld_2, w_ld2, w_lmul, w_lsub, w_las, w_inc4, w_goto, true_and, and_true, Nat.reduceAdd, Nat.reduceSub, eq_self, tyk_6, tcq_6, tyk_23, tyk_24, tcq_8n, tcq_10n, t0, t1]
        repeat refine And.intro (by omega) ?_
        rw [show ((I : Nat) : Int) + 1 = ((I + 1 : Nat) : Int) by omega]
        refine ih _ (I + 1) c' _ _ (by omega) (by omega) hc1 (fun j hj => ?_) (fun j hj => ?_) ?_ (GE_tr hg (lim_put (i := (I : Int)) (v := M (r + 1) (I : Int) + M (x + 1) (I : Int) + cy - c' * 1000000000) hb hg.1.1 hr (by omega)))
        · by_cases hjI : j = I
          · rw [hjI, tU_eq]
            exact hc2
          · rw [tU_ni (by omega)]
            exact hd1 j (by omega)
        · rw [tU_ni (by omega), tU_ni (by omega)]
          exact hd2 j (by omega)
        · rw [S9_s, S9_s, S9_s, tU_eq, S9_u (M := M1) (r := r + 1) (fun j q => tU_ni (by omega)), TT_9s]
          generalize M (r + 1) (I : Int) = p
          generalize M (x + 1) (I : Int) = q
          generalize TT (9 * I) = T at hs2 ⊢
          have e3 : (p + q + cy - c' * 1000000000) * T = p * T + q * T + cy * T - c' * 1000000000 * T := by
            rw [Int.sub_mul, Int.add_mul, Int.add_mul]
          rw [e3, vm]
          omega
      refine tb_X4_plus_5 (c := false) ?_
      simp only [kb_X4_plus_5, w_ild4, w_bi, w_ic_ge, w_ald_0, w_gf_6_0, tw_f, w_la, w_lax, w_ald_1, w_ladd, w_lld_2, w_lst5, tkl_n, tkl_i, tkl_l, tkl_r, w_lld5, w_ld2, w_lcmp, ne_eq, tlc_r, tlc_eq, tlc_lt, tlc_ge, tlc_gt, tlc_le, w_if_lt, w_lc1, w_goto, true_and, and_true, Nat.reduceAdd, Nat.reduceSub, eq_self, tyk_6, tcq_6, tyk_23, tyk_24, tcq_8n, tcq_10n, t0, t1, u0, u1, e1, e2]
      repeat refine And.intro (by omega) ?_
      first | refine ⟨fun q => absurd q (by omega), fun _ => ?_⟩ | refine fun _ => ?_
      repeat refine And.intro (by omega) ?_
      refine ⟨fun q => ?_, fun q => ?_⟩
      · refine tb_X4_plus_44 (c := false) ?_
        simp only [kb_X4_plus_44, w_lc0, w_nil, true_and, and_true, Nat.reduceAdd, Nat.reduceSub, eq_self]
        exact n45 0 (by decide) (by omega)
      · exact n45 1 (by decide) (by omega)
  refine tb_X4_plus_0 (c := false) ?_
  simp only [kb_X4_plus_0, w_lc0, w_lst_2, tkl_n, tkl_i, tkl_l, tkl_r, w_ic, w_ist4, w_nil, true_and, and_true, Nat.reduceAdd, Nat.reduceSub, eq_self]
  repeat refine And.intro (by omega) ?_
  exact n5 8 M 0 0 _ _ (by omega) (by omega) (by omega) (fun j hj => absurd hj (Nat.not_lt_zero j)) (fun j _ => ⟨rfl, rfl⟩) (by rw [Int.zero_mul]; rfl) (GE_refl hC)
theorem f_minus {r x : Nat} {N W : Int} (hr : FXC r) (hx : FXC x) (hN : LX M r N) (hW : LX M x W) (hs : W ≤ N) (hb : b < 2) (hC : CI M) : tC e d 1543 [.inr (.inr (.inl r)), .inr (.inr (.inl x))] M n (tQn n (fun M' => LX M' r (N - W) ∧ GE b M M' r)) := by
  obtain ⟨t0, t1, t2⟩ := FS_of hr
  obtain ⟨u0, u1, u2⟩ := FS_of hx
  refine tst_X4_minus ?_
  have n5 : ∀ (fu : Nat) (M1 : tM) (I : Nat) (cy : Int) (w5 w6 : Option tV), 8 - I = fu → I ≤ 8 → (0 ≤ cy ∧ cy ≤ 1) → (∀ j : Nat, j < I → 0 ≤ M1 (r + 1) (j : Int) ∧ M1 (r + 1) (j : Int) < 1000000000) → (∀ j : Nat, I ≤ j → M1 (r + 1) (j : Int) = M (r + 1) (j : Int) ∧ M1 (x + 1) (j : Int) = M (x + 1) (j : Int)) → S9 M1 (r + 1) I = S9 M (r + 1) I - S9 M (x + 1) I + cy * TT (9 * I) → GE b M M1 r → tT e d 1543 5 [some (.inr (.inr (.inl (r)))), some (.inr (.inr (.inl (x)))), some (.inr (.inl (cy))), none, some (.inl ((I : Int))), w5, w6] [] M1 n (tQn n (fun M' => LX M' r (N - W) ∧ GE b M M' r)) := by
    intro fu
    induction fu with
    | zero =>
      intro M1 I cy w5 w6 hf hI hcy hd1 hd2 hs2 hg
      have hIe : I = 8 := by omega
      subst hIe
      refine tb_X4_minus_5 (c := false) ?_
      simp only [kb_X4_minus_5, w_ild4, w_bi, w_ic_ge, w_ald_0, w_gf_6_0, tw_f, w_la, w_lax, w_ald_1, w_lsub, w_lld_2, w_lst5, tkl_n, tkl_i, tkl_l, tkl_r, w_lld5, w_lc0, w_lcmp, ne_eq, tlc_r, tlc_eq, tlc_lt, tlc_ge, tlc_gt, tlc_le, w_if_ge, w_lc1, w_goto, true_and, and_true, Nat.reduceAdd, Nat.reduceSub, eq_self, tyk_6, tcq_6, tyk_23, tyk_24, tcq_8n, tcq_10n, t0, t1, u0, u1]
      repeat refine And.intro (by omega) ?_
      refine ⟨fun _ => ?_, fun q => absurd (by omega) q⟩
      refine tb_X4_minus_65 (c := false) ?_
      simp only [kb_X4_minus_65, w_re, true_and, and_true, Nat.reduceAdd, Nat.reduceSub, eq_self]
      rw [hN.2, hW.2, show 9 * 8 = 72 from rfl, TT_72] at hs2
      have g := (S9_r hd1).2
      rw [show 9 * 8 = 72 from rfl, TT_72] at g
      have hc0 : cy = 0 := by omega
      exact ⟨rfl, rfl, ⟨hd1, by rw [hc0] at hs2; omega⟩, hg⟩
    | succ fu ih =>
      intro M1 I cy w5 w6 hf hI hcy hd1 hd2 hs2 hg
      obtain ⟨e1, e2⟩ := hd2 I (Nat.le_refl _)
      have a1 := hN.1 I (by omega)
      have a2 := hW.1 I (by omega)
      have n43 : ∀ c' : Int, (0 ≤ c' ∧ c' ≤ 1) → (0 ≤ M (r + 1) (I : Int) - M (x + 1) (I : Int) - cy + c' * 1000000000 ∧ M (r + 1) (I : Int) - M (x + 1) (I : Int) - cy + c' * 1000000000 < 1000000000) → tT e d 1543 43 [some (.inr (.inr (.inl (r)))), some (.inr (.inr (.inl (x)))), some (.inr (.inl (cy))), none, some (.inl ((I : Int))), some (.inr (.inl (M (r + 1) (I : Int) - M (x + 1) (I : Int) - cy))), none] [.inr (.inl c')] M1 n (tQn n (fun M' => LX M' r (N - W) ∧ GE b M M' r)) := by
        intro c' hc1 hc2
        refine tb_X4_minus_43 (c := false) ?_
        simp only [kb_X4_minus_43, w_lst_2, tkl_n, tkl_i, tkl_l, tkl_r, w_ald_0, w_gf_6_0, tw_f, w_ild4, w_lld5, w_lld_2, w_ld2, w_lmul, w_ladd, w_las, w_inc4, w_goto, true_and, and_true, Nat.reduceAdd, Nat.reduceSub, eq_self, tyk_6, tcq_6, tyk_23, tyk_24, tcq_8n, tcq_10n, t0, t1]
        repeat refine And.intro (by omega) ?_
        rw [show ((I : Nat) : Int) + 1 = ((I + 1 : Nat) : Int) by omega]
        refine ih _ (I + 1) c' _ _ (by omega) (by omega) hc1 (fun j hj => ?_) (fun j hj => ?_) ?_ (GE_tr hg (lim_put (i := (I : Int)) (v := M (r + 1) (I : Int) - M (x + 1) (I : Int) - cy + c' * 1000000000) hb hg.1.1 hr (by omega)))
        · by_cases hjI : j = I
          · rw [hjI, tU_eq]
            exact hc2
          · rw [tU_ni (by omega)]
            exact hd1 j (by omega)
        · rw [tU_ni (by omega), tU_ni (by omega)]
          exact hd2 j (by omega)
        · rw [S9_s, S9_s, S9_s, tU_eq, S9_u (M := M1) (r := r + 1) (fun j q => tU_ni (by omega)), TT_9s]
          generalize M (r + 1) (I : Int) = p
          generalize M (x + 1) (I : Int) = q
          generalize TT (9 * I) = T at hs2 ⊢
          have e3 : (p - q - cy + c' * 1000000000) * T = p * T - q * T - cy * T + c' * 1000000000 * T := by
            rw [Int.add_mul, Int.sub_mul, Int.sub_mul]
          rw [e3, vm]
          omega
      refine tb_X4_minus_5 (c := false) ?_
      simp only [kb_X4_minus_5, w_ild4, w_bi, w_ic_ge, w_ald_0, w_gf_6_0, tw_f, w_la, w_lax, w_ald_1, w_lsub, w_lld_2, w_lst5, tkl_n, tkl_i, tkl_l, tkl_r, w_lld5, w_lc0, w_lcmp, ne_eq, tlc_r, tlc_eq, tlc_lt, tlc_ge, tlc_gt, tlc_le, w_if_ge, w_lc1, w_goto, true_and, and_true, Nat.reduceAdd, Nat.reduceSub, eq_self, tyk_6, tcq_6, tyk_23, tyk_24, tcq_8n, tcq_10n, t0, t1, u0, u1, e1, e2]
      repeat refine And.intro (by omega) ?_
      first | refine ⟨fun q => absurd q (by omega), fun _ => ?_⟩ | refine fun _ => ?_
      repeat refine And.intro (by omega) ?_
      refine ⟨fun q => ?_, fun q => ?_⟩
      · refine tb_X4_minus_42 (c := false) ?_
        simp only [kb_X4_minus_42, w_lc0, w_nil, true_and, and_true, Nat.reduceAdd, Nat.reduceSub, eq_self]
        exact n43 0 (by decide) (by omega)
      · exact n43 1 (by decide) (by omega)
  refine tb_X4_minus_0 (c := false) ?_
  simp only [kb_X4_minus_0, w_lc0, w_lst_2, tkl_n, tkl_i, tkl_l, tkl_r, w_ic, w_ist4, w_nil, true_and, and_true, Nat.reduceAdd, Nat.reduceSub, eq_self]
  repeat refine And.intro (by omega) ?_
  exact n5 8 M 0 0 _ _ (by omega) (by omega) (by omega) (fun j hj => absurd hj (Nat.not_lt_zero j)) (fun j _ => ⟨rfl, rfl⟩) (by rw [Int.zero_mul]; rfl) (GE_refl hC)
end HAND
