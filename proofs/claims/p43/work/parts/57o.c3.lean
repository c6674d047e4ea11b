/-! THE CLASS BY VALUES: the product of long numbers. -/
theorem TT_45 : TT 45 = 1000000000000000000000000000000000000000000000 := by
  unfold TT
  rw [tn_def]
  rfl
theorem TT_81 : TT 81 = 1000000000000000000000000000000000000000000000000000000000000000000000000000000000 := by
  unfold TT
  rw [tn_def]
  rfl
/-- a limb of a number, and what a product leaves out -/
def lb (N : Int) (i : Nat) : Int := N / 1000000000 ^ i % 1000000000
def drI (N W : Int) : Nat → Int
  | 0 => 0
  | i + 1 => drI N W i + lb N i * (W % 1000000000 ^ (5 - i)) * 1000000000 ^ i
def tpv (N W : Int) : Int := (N * W - drI N W 5) / 1000000000000000000000000000000000000000000000000000000
theorem TT_lb (k : Nat) : TT (9 * k) = 1000000000 ^ k := by
  induction k with
  | zero => rw [show 9 * 0 = 0 from rfl, TT_v.1]; rfl
  | succ k ih => rw [TT_9s, ih]; rfl
theorem S9_top {M : tM} {r : Nat} {k : Nat} : ∀ m : Nat, ∃ H : Int, S9 M r (k + m) = S9 M r k + H * TT (9 * k) := by
  intro m
  induction m with
  | zero => exact ⟨0, by rw [Int.zero_mul, Int.add_zero]; rfl⟩
  | succ m ih =>
    obtain ⟨H, h⟩ := ih
    refine ⟨H + M r ((k + m : Nat) : Int) * TT (9 * m), ?_⟩
    rw [show k + (m + 1) = (k + m) + 1 from rfl, S9_s, h, Int.add_mul, Int.mul_assoc, ← TT_add, show 9 * m + 9 * k = 9 * (k + m) by omega, Int.add_assoc]
theorem S9_mod {M : tM} {r k : Nat} {N : Int} (h : LX M r N) (hk : k ≤ 8) : S9 M (r + 1) k = N % 1000000000 ^ k := by
  obtain ⟨H, g⟩ := S9_top (M := M) (r := r + 1) (k := k) (8 - k)
  have s := S9_r (k := k) (r := r + 1) (M := M) (fun j q => h.1 j (by omega))
  rw [show k + (8 - k) = 8 by omega, h.2] at g
  rw [← TT_lb]
  exact ((dm_v (N := N) (K := TT (9 * k)) (q := H) g s).2).symm
theorem S9_lb {M : tM} {r k : Nat} {N : Int} (h : LX M r N) (hk : k < 8) : M (r + 1) (k : Int) = lb N k := by
  obtain ⟨H, g⟩ := S9_top (M := M) (r := r + 1) (k := k + 1) (8 - (k + 1))
  have s := S9_r (k := k) (r := r + 1) (M := M) (fun j q => h.1 j (by omega))
  have hl := h.1 k hk
  rw [show k + 1 + (8 - (k + 1)) = 8 by omega, h.2, S9_s, TT_9s] at g
  unfold lb
  rw [← TT_lb]
  have t := TT_pos (9 * k)
  have e : N = S9 M (r + 1) k + (M (r + 1) (k : Int) + H * 1000000000) * TT (9 * k) := by
    rw [g, Int.add_mul, vm, Int.mul_right_comm]
    omega
  rw [(dm_v e s).1]
  omega
theorem drI_r {N W : Int} (hN : 0 ≤ N) (hW : 0 ≤ W) : ∀ {I : Nat}, I ≤ 5 → 0 ≤ drI N W I ∧ drI N W I ≤ (I : Int) * 1000000000000000000000000000000000000000000000000000000 := by
  intro I
  induction I with
  | zero => intro _; exact ⟨Int.le_refl _, by show (0 : Int) ≤ _; omega⟩
  | succ I ih =>
    intro hI
    have g := ih (by omega)
    have p1 : (0 : Int) < 1000000000 ^ (5 - I) := Int.pow_pos (by decide)
    have p2 : (0 : Int) < 1000000000 ^ I := Int.pow_pos (by decide)
    have m1 := Int.emod_nonneg W (Int.ne_of_gt p1)
    have m2 := Int.emod_lt_of_pos W p1
    have l1 : 0 ≤ lb N I := Int.emod_nonneg _ (by decide)
    have l2 : lb N I < 1000000000 := Int.emod_lt_of_pos _ (by decide)
    have z0 := Int.mul_nonneg (Int.mul_nonneg l1 m1) (Int.le_of_lt p2)
    have z2 : lb N I * (W % 1000000000 ^ (5 - I)) ≤ 1000000000 * 1000000000 ^ (5 - I) := Int.mul_le_mul (by omega) (by omega) m1 (by decide)
    have z3 := Int.mul_le_mul_of_nonneg_right z2 (Int.le_of_lt p2)
    have z4 : (1000000000 : Int) * 1000000000 ^ (5 - I) * 1000000000 ^ I = 1000000000000000000000000000000000000000000000000000000 := by
      rw [Int.mul_assoc, ← Int.pow_add, show 5 - I + I = 5 by omega]
      rfl
    rw [z4] at z3
    show 0 ≤ drI N W I + lb N I * (W % 1000000000 ^ (5 - I)) * 1000000000 ^ I ∧ drI N W I + lb N I * (W % 1000000000 ^ (5 - I)) * 1000000000 ^ I ≤ ((I + 1 : Nat) : Int) * 1000000000000000000000000000000000000000000000000000000
    generalize lb N I * (W % 1000000000 ^ (5 - I)) * 1000000000 ^ I = z at *
    omega
theorem tpv_r {N W : Int} (hN : 0 ≤ N) (hW : 0 ≤ W) : tpv N W * 1000000000000000000000000000000000000000000000000000000 ≤ N * W ∧ N * W < (tpv N W + 6) * 1000000000000000000000000000000000000000000000000000000 := by
  have g := drI_r hN hW (I := 5) (Nat.le_refl _)
  unfold tpv
  generalize drI N W 5 = D at *
  generalize N * W = V at *
  omega
theorem tpv_0 {N W : Int} (hN : 0 ≤ N) (hW : 0 ≤ W) : 0 ≤ tpv N W + 5 := by
  have h := (tpv_r hN hW).2
  have p := Int.mul_nonneg hN hW
  generalize tpv N W = R at *
  generalize N * W = V at *
  omega
section HAND
variable {e : tE} {b d n : Nat} {M : tM}
theorem CE_sm {r : Nat} {i v : Int} (hb : b < 2) (hC : CI M) (h : FXC r) (hi : 0 ≤ i ∧ i < 10) : CE b M (tU M (r + 2) i v) (r + 2) := ⟨(sms_put hb hC h hi).1, fun _ _ q => tU_nk q⟩
theorem CE_GE {r : Nat} {M' : tM} (h : CE b M M' (r + 2)) : GE b M M' r := ⟨h.1, fun k i _ q => h.2 k i q⟩
theorem f_toProduct {r x y : Nat} {N W : Int} (hr : FXC r) (hx : FXC x) (hy : FXC y) (hN : LX M x N) (hW : LX M y W) (hs : N * W < 1000000000000000000000000000000000000000000000000000000000000000000000000000000000000000000000000000000000000000000000000000000) (hb : b < 2) (hC : CI M) : tC e d 1547 [.inr (.inr (.inl r)), .inr (.inr (.inl x)), .inr (.inr (.inl y))] M n (tQn n (fun M' => LX M' r (tpv N W) ∧ GE b M M' r)) := by
  obtain ⟨t0, t1, t2⟩ := FS_of hr
  obtain ⟨u0, u1, u2⟩ := FS_of hx
  obtain ⟨v0, v1, v2⟩ := FS_of hy
  have hne : r + 1 ≠ r + 2 ∧ x + 1 ≠ r + 2 ∧ y + 1 ≠ r + 2 := by unfold FXC at hr hx hy; omega
  have rW := LX_r hW
  have rN := LX_r hN
  refine tst_X4_toProduct ?_
  -- carries
  have n104 : ∀ (M1 : tM) (w3 w4 w5 w6 w7 : Option tV), (∀ k : Nat, k < 10 → 0 ≤ M1 (r + 2) (k : Int) ∧ M1 (r + 2) (k : Int) ≤ 8 * 1000000000000000000) → N * W - S9 M1 (r + 2) 10 * 1000000000000000000000000000000000000000000000 = drI N W 5 → CE b M M1 (r + 2) → tT e d 1547 104 [some (.inr (.inr (.inl (r)))), some (.inr (.inr (.inl (x)))), some (.inr (.inr (.inl (y)))), w3, w4, w5, w6, w7] [] M1 n (tQn n (fun M' => LX M' r (tpv N W) ∧ GE b M M' r)) := by
    intro M1 w3 w4 w5 w6 w7 hd1 he hce
    have s0 : 0 ≤ M1 (r + 2) 0 ∧ M1 (r + 2) 0 ≤ 8 * 1000000000000000000 := hd1 0 (by omega)
    have td0 := td_e (y := M1 (r + 2) 0) (q := 1000000000) s0.1
    have n118 : ∀ (fu : Nat) (M2 : tM) (I : Nat) (cy : Int) (w6 w7 : Option tV), 8 - I = fu → I ≤ 8 → (0 ≤ cy ∧ cy ≤ 9000000000) → (∀ j : Nat, j < I → 0 ≤ M2 (r + 1) (j : Int) ∧ M2 (r + 1) (j : Int) < 1000000000) → M1 (r + 2) 0 % 1000000000 + 1000000000 * (S9 M2 (r + 1) I + cy * TT (9 * I)) = S9 M1 (r + 2) (I + 1) → (∀ i, M2 (r + 2) i = M1 (r + 2) i) → GE b M M2 r → tT e d 1547 118 [some (.inr (.inr (.inl (r)))), some (.inr (.inr (.inl (x)))), some (.inr (.inr (.inl (y)))), some (.inr (.inl (cy))), none, some (.inl ((I : Int))), w6, w7] [] M2 n (tQn n (fun M' => LX M' r (tpv N W) ∧ GE b M M' r)) := by
      intro fu
      induction fu with
      | zero =>
        intro M2 I cy w6 w7 hf hI hcy hd2 hs2 hu hg
        have hIe : I = 8 := by omega
        subst hIe
        refine tb_X4_toProduct_118 (c := false) ?_
        simp only [kb_X4_toProduct_118, w_ild5, w_bi, w_ic_ge, w_ald_0, w_gf_6_1, tw_f, w_ic, w_iadd, w_la, w_lax, w_lld_3, w_ladd, w_lst6, tkl_n, tkl_i, tkl_l, tkl_r, w_gf_6_0, w_lld6, w_ld2, w_lrem, w_las, w_ldiv, w_lst_3, w_inc5, w_goto, true_and, and_true, Nat.reduceAdd, Nat.reduceSub, eq_self, tyk_6, tcq_6, tyk_23, tyk_24, tcq_8n, tcq_10n]
        repeat refine And.intro (by omega) ?_
        refine ⟨fun _ => ?_, fun q => absurd (by omega) q⟩
        refine tb_X4_toProduct_164 (c := false) ?_
        simp only [kb_X4_toProduct_164, w_re, true_and, and_true, Nat.reduceAdd, Nat.reduceSub, eq_self]
        have e9 := S9_s M1 (r + 2) 9
        have s9 := hd1 9 (by omega)
        rw [show 9 * 9 = 81 from rfl, TT_81, show 9 + 1 = 10 from rfl] at e9
        rw [show 9 * 8 = 72 from rfl, TT_72, show 8 + 1 = 9 from rfl] at hs2
        have g := S9_r hd2
        rw [show 9 * 8 = 72 from rfl, TT_72] at g
        have m0 := Int.emod_nonneg (M1 (r + 2) 0) (show (1000000000 : Int) ≠ 0 by decide)
        have m1 := Int.emod_lt_of_pos (M1 (r + 2) 0) (show (0 : Int) < 1000000000 by decide)
        generalize M1 (r + 2) 0 % 1000000000 = r0 at hs2 m0 m1
        generalize hP : S9 M1 (r + 2) 10 = P at he e9
        generalize S9 M1 (r + 2) 9 = P9 at hs2 e9
        generalize hR : S9 M2 (r + 1) 8 = R at hs2 g
        have e99 : M1 (r + 2) ((9 : Nat) : Int) = M1 (r + 2) 9 := rfl
        rw [e99] at e9 s9
        generalize M1 (r + 2) 9 = z at e9 s9
        have hdr := drI_r rN.1 rW.1 (I := 5) (Nat.le_refl _)
        rw [← he] at hdr
        generalize hVV : N * W = V at he hs hdr
        have h1 : cy = 0 := by omega
        have h2 : z = 0 := by omega
        subst h1
        subst h2
        refine ⟨rfl, rfl, ⟨hd2, ?_⟩, hg⟩
        rw [hR]
        unfold tpv
        rw [hVV, ← he]
        omega
      | succ fu ih =>
        intro M2 I cy w6 w7 hf hI hcy hd2 hs2 hu hg
        have ei : ((I : Nat) : Int) + 1 = ((I + 1 : Nat) : Int) := by omega
        have s1 := hd1 (I + 1) (by omega)
        have h1 := hu ((I + 1 : Nat) : Int)
        have td := td_e (y := M1 (r + 2) ((I + 1 : Nat) : Int) + cy) (q := 1000000000) (by omega)
        refine tb_X4_toProduct_118 (c := false) ?_
        simp only [kb_X4_toProduct_118, w_ild5, w_bi, w_ic_ge, w_ald_0, w_gf_6_1, tw_f, w_ic, w_iadd, w_la, w_lax, w_lld_3, w_ladd, w_lst6, tkl_n, tkl_i, tkl_l, tkl_r, w_gf_6_0, w_lld6, w_ld2, w_lrem, w_las, w_ldiv, w_lst_3, w_inc5, w_goto, true_and, and_true, Nat.reduceAdd, Nat.reduceSub, eq_self, tyk_6, tcq_6, tyk_23, tyk_24, tcq_8n, tcq_10n, t0, t1, t2, ei, h1]
        repeat refine And.intro (by omega) ?_
        first | refine ⟨fun q => absurd q (by omega), fun _ => ?_⟩ | refine fun _ => ?_
        repeat refine And.intro (by omega) ?_
        rw [td.1, td.2]
        repeat refine And.intro (by omega) ?_
        refine ih _ (I + 1) _ _ _ (by omega) (by omega) (by omega) (fun j hj => ?_) ?_ (fun i => ?_) (GE_tr hg (lim_put (i := (I : Int)) (v := (M1 (r + 2) ((I + 1 : Nat) : Int) + cy) % 1000000000) hb hg.1.1 hr (by omega)))
        · by_cases hjI : j = I
          · rw [hjI, tU_eq]
            omega
          · rw [tU_ni (by omega)]
            exact hd2 j (by omega)
        · rw [S9_s M1 (r + 2) (I + 1), ← hs2, S9_s, tU_eq, S9_u (M := M2) (r := r + 1) (fun j q => tU_ni (by omega)), TT_9s]
          generalize M1 (r + 2) ((I + 1 : Nat) : Int) = s
          generalize TT (9 * I) = T
          generalize S9 M2 (r + 1) I = S
          have f1 : (s + cy) % 1000000000 * T + (s + cy) / 1000000000 * (T * 1000000000) = s * T + cy * T := by
            rw [vm, ← Int.add_mul, ← Int.add_mul]
            congr 1
            omega
          have f2 : s * (T * 1000000000) = s * T * 1000000000 := by rw [← Int.mul_assoc]
          rw [f2, Int.add_assoc S, f1]
          omega
        · rw [tU_nk (by omega)]
          exact hu i
    refine tb_X4_toProduct_104 (c := false) ?_
    simp only [kb_X4_toProduct_104, w_ald_0, w_gf_6_1, tw_f, w_ic, w_la, w_lax, w_ld2, w_ldiv, w_lst_3, tkl_n, tkl_i, tkl_l, tkl_r, w_ist5, w_nil, true_and, and_true, Nat.reduceAdd, Nat.reduceSub, eq_self, tyk_6, tcq_6, tyk_23, tyk_24, tcq_8n, tcq_10n, t0, t2]
    repeat refine And.intro (by omega) ?_
    rw [td0.1]
    repeat refine And.intro (by omega) ?_
    refine n118 8 M1 0 _ _ _ (by omega) (by omega) (by omega) (fun j hj => absurd hj (Nat.not_lt_zero j)) ?_ (fun _ => rfl) (CE_GE hce)
    have e1 : S9 M1 (r + 2) (0 + 1) = 0 + M1 (r + 2) 0 * TT 0 := rfl
    have e0 : S9 M1 (r + 1) 0 = 0 := rfl
    rw [e1, e0, show 9 * 0 = 0 from rfl, TT_v.1]
    omega
  -- rows
  have n23 : ∀ (fu : Nat) (M1 : tM) (I : Nat) (w4 w5 w6 w7 : Option tV), 8 - I = fu → I ≤ 8 → (∀ k : Nat, k < 10 → 0 ≤ M1 (r + 2) (k : Int) ∧ M1 (r + 2) (k : Int) ≤ (I : Int) * 1000000000000000000) → S9 M (x + 1) I * W - S9 M1 (r + 2) 10 * 1000000000000000000000000000000000000000000000 = drI N W (min I 5) → CE b M M1 (r + 2) → tT e d 1547 23 [some (.inr (.inr (.inl (r)))), some (.inr (.inr (.inl (x)))), some (.inr (.inr (.inl (y)))), some (.inl ((I : Int))), w4, w5, w6, w7] [] M1 n (tQn n (fun M' => LX M' r (tpv N W) ∧ GE b M M' r)) := by
    intro fu
    induction fu with
    | zero =>
      intro M1 I w4 w5 w6 w7 hf hI hd1 he hce
      have hIe : I = 8 := by omega
      subst hIe
      refine tb_X4_toProduct_23 (c := false) ?_
      simp only [kb_X4_toProduct_23, w_ild_3, w_bi, w_ic_ge, w_ald_1, w_gf_6_0, tw_f, w_la, w_lax, w_lst4, tkl_n, tkl_i, tkl_l, tkl_r, w_lld4, w_lc0, w_lcmp, ne_eq, tlc_r, tlc_eq, tlc_lt, tlc_ge, tlc_gt, tlc_le, w_if_eq, w_ic, w_isub, w_goto, true_and, and_true, Nat.reduceAdd, Nat.reduceSub, eq_self, tyk_6, tcq_6, tyk_23, tyk_24, tcq_8n, tcq_10n]
      repeat refine And.intro (by omega) ?_
      refine ⟨fun _ => ?_, fun q => absurd (by omega) q⟩
      rw [hN.2] at he
      exact n104 M1 _ _ _ _ _ hd1 he hce
    | succ fu ih =>
      intro M1 I w4 w5 w6 w7 hf hI hd1 he hce
      have hl := hN.1 I (by omega)
      have e1 := hce.2 (x + 1) (I : Int) hne.2.1
      have n98 : ∀ (M2 : tM) (w4 w5 w6 w7 : Option tV), (∀ k : Nat, k < 10 → 0 ≤ M2 (r + 2) (k : Int) ∧ M2 (r + 2) (k : Int) ≤ ((I + 1 : Nat) : Int) * 1000000000000000000) → S9 M (x + 1) (I + 1) * W - S9 M2 (r + 2) 10 * 1000000000000000000000000000000000000000000000 = drI N W (min (I + 1) 5) → CE b M M2 (r + 2) → tT e d 1547 98 [some (.inr (.inr (.inl (r)))), some (.inr (.inr (.inl (x)))), some (.inr (.inr (.inl (y)))), some (.inl ((I : Int))), w4, w5, w6, w7] [] M2 n (tQn n (fun M' => LX M' r (tpv N W) ∧ GE b M M' r)) := by
        intro M2 w4 w5 w6 w7 a1 a2 a3
        refine tb_X4_toProduct_98 (c := false) ?_
        simp only [kb_X4_toProduct_98, w_inc3, tkl_n, tkl_i, tkl_l, tkl_r, w_goto, true_and, and_true, Nat.reduceAdd, Nat.reduceSub, eq_self]
        repeat refine And.intro (by omega) ?_
        rw [show ((I : Nat) : Int) + 1 = ((I + 1 : Nat) : Int) by omega]
        exact ih M2 (I + 1) _ _ _ _ (by omega) (by omega) a1 a2 a3
      have n58 : ∀ (fu2 : Nat) (M2 : tM) (J : Nat) (w7 : Option tV), 8 - J = fu2 → J ≤ 8 → 5 - I ≤ J → (∀ k : Nat, k < 10 → 0 ≤ M2 (r + 2) (k : Int) ∧ M2 (r + 2) (k : Int) ≤ ((I + 1 : Nat) : Int) * 1000000000000000000) → (∀ k : Nat, I + J ≤ k + 5 → k < 10 → M2 (r + 2) (k : Int) ≤ (I : Int) * 1000000000000000000) → (S9 M2 (r + 2) 10 - S9 M1 (r + 2) 10) * 1000000000000000000000000000000000000000000000 = M (x + 1) (I : Int) * (S9 M (y + 1) J - S9 M (y + 1) (5 - I)) * TT (9 * I) → CE b M M2 (r + 2) → tT e d 1547 58 [some (.inr (.inr (.inl (r)))), some (.inr (.inr (.inl (x)))), some (.inr (.inr (.inl (y)))), some (.inl ((I : Int))), some (.inr (.inl (M (x + 1) (I : Int)))), none, some (.inl ((J : Int))), w7] [] M2 n (tQn n (fun M' => LX M' r (tpv N W) ∧ GE b M M' r)) := by
        intro fu2
        induction fu2 with
        | zero =>
          intro M2 J w7 hf2 hJ hlo a1 a2 a3 a4
          have hJe : J = 8 := by omega
          subst hJe
          refine tb_X4_toProduct_58 (c := false) ?_
          simp only [kb_X4_toProduct_58, w_ild6, w_bi, w_ic_ge, w_ald_0, w_gf_6_1, tw_f, w_ild_3, w_iadd, w_isub, w_ic, w_dup2l, w_dup2a, w_la, w_lax, w_lld4, w_ald_2, w_gf_6_0, w_lmul, w_ladd, w_las, w_inc6, tkl_n, tkl_i, tkl_l, tkl_r, w_goto, true_and, and_true, Nat.reduceAdd, Nat.reduceSub, eq_self, tyk_6, tcq_6, tyk_23, tyk_24, tcq_8n, tcq_10n]
          repeat refine And.intro (by omega) ?_
          refine ⟨fun _ => ?_, fun q => absurd (by omega) q⟩
          rw [hW.2] at a3
          have hT := TT_pos (9 * I)
          have sb := S9_r (k := 5 - I) (r := y + 1) (M := M) (fun j q => hW.1 j (by omega))
          -- what is left out
          have hz : M (x + 1) (I : Int) * S9 M (y + 1) (5 - I) * TT (9 * I) = drI N W (min (I + 1) 5) - drI N W (min I 5) := by
            rcases Nat.lt_or_ge I 5 with h5 | h5
            · rw [show min (I + 1) 5 = I + 1 by omega, show min I 5 = I by omega, S9_mod hW (by omega), S9_lb hN (by omega), TT_lb]
              show _ = drI N W I + lb N I * (W % 1000000000 ^ (5 - I)) * 1000000000 ^ I - drI N W I
              omega
            · rw [show min (I + 1) 5 = 5 by omega, show min I 5 = 5 by omega, show 5 - I = 0 by omega, show S9 M (y + 1) 0 = 0 from rfl, Int.mul_zero, Int.zero_mul, Int.sub_self]
          have e2 : S9 M (x + 1) (I + 1) * W = S9 M (x + 1) I * W + M (x + 1) (I : Int) * W * TT (9 * I) := by
            rw [S9_s, Int.add_mul, Int.mul_right_comm]
          have e3 : M (x + 1) (I : Int) * (W - S9 M (y + 1) (5 - I)) * TT (9 * I) = M (x + 1) (I : Int) * W * TT (9 * I) - M (x + 1) (I : Int) * S9 M (y + 1) (5 - I) * TT (9 * I) := by
            rw [Int.mul_sub, Int.sub_mul]
          rw [e3] at a3
          refine n98 M2 _ _ _ _ a1 ?_ a4
          rw [e2]
          generalize M (x + 1) (I : Int) * W * TT (9 * I) = X1 at a3 ⊢
          generalize M (x + 1) (I : Int) * S9 M (y + 1) (5 - I) * TT (9 * I) = X2 at a3 hz
          generalize S9 M (x + 1) I * W = X3 at he ⊢
          rw [Int.sub_mul] at a3
          generalize S9 M2 (r + 2) 10 * 1000000000000000000000000000000000000000000000 = X4 at a3 ⊢
          generalize S9 M1 (r + 2) 10 * 1000000000000000000000000000000000000000000000 = X5 at a3 he
          omega
        | succ fu2 ih2 =>
          intro M2 J w7 hf2 hJ hlo a1 a2 a3 a4
          have hlb := hW.1 J (by omega)
          have f1 := a4.2 (y + 1) (J : Int) hne.2.2
          have ek : ((I : Nat) : Int) + ((J : Nat) : Int) - 6 + 1 = ((I + J - 5 : Nat) : Int) := by omega
          have b1 := a1 (I + J - 5) (by omega)
          have b2 := a2 (I + J - 5) (by omega) (by omega)
          have p1 := Int.mul_nonneg hl.1 hlb.1
          have p2 : M (x + 1) (I : Int) * M (y + 1) (J : Int) ≤ 999999999 * 999999999 := Int.mul_le_mul (by omega) (by omega) hlb.1 (by decide)
          refine tb_X4_toProduct_58 (c := false) ?_
          simp only [kb_X4_toProduct_58, w_ild6, w_bi, w_ic_ge, w_ald_0, w_gf_6_1, tw_f, w_ild_3, w_iadd, w_isub, w_ic, w_dup2l, w_dup2a, w_la, w_lax, w_lld4, w_ald_2, w_gf_6_0, w_lmul, w_ladd, w_las, w_inc6, tkl_n, tkl_i, tkl_l, tkl_r, w_goto, true_and, and_true, Nat.reduceAdd, Nat.reduceSub, eq_self, tyk_6, tcq_6, tyk_23, tyk_24, tcq_8n, tcq_10n, t0, t2, v0, v1, f1, ek]
          repeat refine And.intro (by omega) ?_
          first | refine ⟨fun q => absurd q (by omega), fun _ => ?_⟩ | refine fun _ => ?_
          repeat refine And.intro (by omega) ?_
          rw [show ((J : Nat) : Int) + 1 = ((J + 1 : Nat) : Int) by omega]
          have ce := CE_tr a4 (CE_sm (i := ((I + J - 5 : Nat) : Int)) (v := M2 (r + 2) ((I + J - 5 : Nat) : Int) + M (x + 1) (I : Int) * M (y + 1) (J : Int)) hb a4.1.1 hr (by omega))
          refine ih2 _ (J + 1) _ (by omega) (by omega) (by omega) (fun k hk => ?_) (fun k hk1 hk2 => ?_) ?_ ce
          · by_cases hkI : k = I + J - 5
            · rw [hkI, tU_eq]
              omega
            · rw [tU_ni (by omega)]
              exact a1 k hk
          · rw [tU_ni (by omega)]
            exact a2 k (by omega) hk2
          · rw [S9_set (show I + J - 5 < 10 by omega), S9_s M (y + 1) J]
            have eT : TT (9 * (I + J - 5)) * 1000000000000000000000000000000000000000000000 = TT (9 * J) * TT (9 * I) := by
              rw [← TT_45, ← TT_add, ← TT_add]
              congr 1
              omega
            generalize M (x + 1) (I : Int) = p at *
            generalize M (y + 1) (J : Int) = q at *
            generalize M2 (r + 2) ((I + J - 5 : Nat) : Int) = s at *
            have g1 : (S9 M2 (r + 2) 10 + (s + p * q - s) * TT (9 * (I + J - 5)) - S9 M1 (r + 2) 10) * 1000000000000000000000000000000000000000000000 = (S9 M2 (r + 2) 10 - S9 M1 (r + 2) 10) * 1000000000000000000000000000000000000000000000 + p * q * (TT (9 * J) * TT (9 * I)) := by
              rw [← eT, show s + p * q - s = p * q by omega, ← Int.mul_assoc (p * q), ← Int.add_mul]
              congr 1
              omega
            have g2 : p * (S9 M (y + 1) J + q * TT (9 * J) - S9 M (y + 1) (5 - I)) * TT (9 * I) = p * (S9 M (y + 1) J - S9 M (y + 1) (5 - I)) * TT (9 * I) + p * q * (TT (9 * J) * TT (9 * I)) := by
              rw [show S9 M (y + 1) J + q * TT (9 * J) - S9 M (y + 1) (5 - I) = (S9 M (y + 1) J - S9 M (y + 1) (5 - I)) + q * TT (9 * J) by omega, Int.mul_add, Int.add_mul, ← Int.mul_assoc p q, Int.mul_assoc (p * q)]
            rw [g1, g2, a3]
      have n56 : ∀ (lo : Nat) (w6 w7 : Option tV), lo = 5 - I → tT e d 1547 56 [some (.inr (.inr (.inl (r)))), some (.inr (.inr (.inl (x)))), some (.inr (.inr (.inl (y)))), some (.inl ((I : Int))), some (.inr (.inl (M (x + 1) (I : Int)))), none, w6, w7] [.inl (lo : Int)] M1 n (tQn n (fun M' => LX M' r (tpv N W) ∧ GE b M M' r)) := by
        intro lo w6 w7 hlo
        refine tb_X4_toProduct_56 (c := false) ?_
        simp only [kb_X4_toProduct_56, w_ist6, tkl_n, tkl_i, tkl_l, tkl_r, w_nil, true_and, and_true, Nat.reduceAdd, Nat.reduceSub, eq_self]
        repeat refine And.intro (by omega) ?_
        refine n58 (8 - lo) M1 lo _ rfl (by omega) (by omega) (fun k hk => ?_) (fun k _ hk => (hd1 k hk).2) ?_ hce
        · have := hd1 k hk
          omega
        · rw [hlo, Int.sub_self, Int.sub_self, Int.mul_zero, Int.zero_mul, Int.zero_mul]
      refine tb_X4_toProduct_23 (c := false) ?_
      simp only [kb_X4_toProduct_23, w_ild_3, w_bi, w_ic_ge, w_ald_1, w_gf_6_0, tw_f, w_la, w_lax, w_lst4, tkl_n, tkl_i, tkl_l, tkl_r, w_lld4, w_lc0, w_lcmp, ne_eq, tlc_r, tlc_eq, tlc_lt, tlc_ge, tlc_gt, tlc_le, w_if_eq, w_ic, w_isub, w_goto, true_and, and_true, Nat.reduceAdd, Nat.reduceSub, eq_self, tyk_6, tcq_6, tyk_23, tyk_24, tcq_8n, tcq_10n, u0, u1, e1]
      repeat refine And.intro (by omega) ?_
      first | refine ⟨fun q => absurd q (by omega), fun _ => ?_⟩ | refine fun _ => ?_
      repeat refine And.intro (by omega) ?_
      refine ⟨fun q => ?_, fun q => ?_⟩
      · refine n98 M1 _ _ _ _ (fun k hk => ?_) ?_ hce
        · have := hd1 k hk
          omega
        · rw [S9_s, q, Int.zero_mul, Int.add_zero, he]
          rcases Nat.lt_or_ge I 5 with h5 | h5
          · rw [show min (I + 1) 5 = I + 1 by omega, show min I 5 = I by omega]
            show _ = drI N W I + lb N I * (W % 1000000000 ^ (5 - I)) * 1000000000 ^ I
            rw [← S9_lb hN (by omega), q, Int.zero_mul, Int.zero_mul, Int.add_zero]
          · rw [show min (I + 1) 5 = 5 by omega, show min I 5 = 5 by omega]
      · repeat refine And.intro (by omega) ?_
        refine ⟨fun q2 => ?_, fun q2 => ?_⟩
        · refine tb_X4_toProduct_55 (c := false) ?_
          simp only [kb_X4_toProduct_55, w_ic, w_nil, true_and, and_true, Nat.reduceAdd, Nat.reduceSub, eq_self]
          exact n56 0 _ _ (by omega)
        · repeat refine And.intro (by omega) ?_
          rw [show (5 : Int) - (I : Int) = ((5 - I : Nat) : Int) by omega]
          exact n56 (5 - I) _ _ rfl
  -- zeros
  have n2 : ∀ (fu : Nat) (M1 : tM) (I : Nat) (w4 w5 w6 w7 : Option tV), 10 - I = fu → I ≤ 10 → (∀ j : Nat, j < I → M1 (r + 2) (j : Int) = 0) → CE b M M1 (r + 2) → tT e d 1547 2 [some (.inr (.inr (.inl (r)))), some (.inr (.inr (.inl (x)))), some (.inr (.inr (.inl (y)))), some (.inl ((I : Int))), w4, w5, w6, w7] [] M1 n (tQn n (fun M' => LX M' r (tpv N W) ∧ GE b M M' r)) := by
    intro fu
    induction fu with
    | zero =>
      intro M1 I w4 w5 w6 w7 hf hI hz hg
      have hIe : I = 10 := by omega
      subst hIe
      refine tb_X4_toProduct_2 (c := false) ?_
      simp only [kb_X4_toProduct_2, w_ild_3, w_bi, w_ic_ge, w_ald_0, w_gf_6_1, tw_f, w_lc0, w_las, w_inc3, tkl_n, tkl_i, tkl_l, tkl_r, w_goto, true_and, and_true, Nat.reduceAdd, Nat.reduceSub, eq_self, tyk_6, tcq_6, tyk_23, tyk_24, tcq_8n, tcq_10n]
      repeat refine And.intro (by omega) ?_
      refine ⟨fun _ => ?_, fun q => absurd (by omega) q⟩
      refine tb_X4_toProduct_21 (c := false) ?_
      simp only [kb_X4_toProduct_21, w_ic, w_ist_3, tkl_n, tkl_i, tkl_l, tkl_r, w_nil, true_and, and_true, Nat.reduceAdd, Nat.reduceSub, eq_self]
      repeat refine And.intro (by omega) ?_
      refine n23 8 M1 0 _ _ _ _ (by omega) (by omega) (fun k hk => by rw [hz k hk]; decide) ?_ hg
      rw [S9_z hz, show S9 M (x + 1) 0 = 0 from rfl, Int.zero_mul, Int.zero_mul]
      rfl
    | succ fu ih =>
      intro M1 I w4 w5 w6 w7 hf hI hz hg
      refine tb_X4_toProduct_2 (c := false) ?_
      simp only [kb_X4_toProduct_2, w_ild_3, w_bi, w_ic_ge, w_ald_0, w_gf_6_1, tw_f, w_lc0, w_las, w_inc3, tkl_n, tkl_i, tkl_l, tkl_r, w_goto, true_and, and_true, Nat.reduceAdd, Nat.reduceSub, eq_self, tyk_6, tcq_6, tyk_23, tyk_24, tcq_8n, tcq_10n, t0, t2]
      repeat refine And.intro (by omega) ?_
      first | refine ⟨fun q => absurd q (by omega), fun _ => ?_⟩ | refine fun _ => ?_
      repeat refine And.intro (by omega) ?_
      rw [show ((I : Nat) : Int) + 1 = ((I + 1 : Nat) : Int) by omega]
      refine ih _ (I + 1) _ _ _ _ (by omega) (by omega) (fun j hj => ?_) (CE_tr hg (CE_sm (i := (I : Int)) (v := 0) hb hg.1.1 hr (by omega)))
      by_cases hjI : j = I
      · rw [hjI, tU_eq]
      · rw [tU_ni (by omega)]
        exact hz j (by omega)
  refine tb_X4_toProduct_0 (c := false) ?_
  simp only [kb_X4_toProduct_0, w_ic, w_ist_3, tkl_n, tkl_i, tkl_l, tkl_r, w_nil, true_and, and_true, Nat.reduceAdd, Nat.reduceSub, eq_self]
  repeat refine And.intro (by omega) ?_
  exact n2 10 M 0 _ _ _ _ (by omega) (by omega) (fun j hj => absurd hj (Nat.not_lt_zero j)) (CE_refl hC)
end HAND
