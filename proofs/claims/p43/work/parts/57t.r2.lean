/-! THE CLASS BY VALUES: a root. -/
/-- near the root -/
def NR (k : Nat) (v g : Int) : Prop := (0 ≤ g ∧ g ≤ 100000000000000000) ∧ (g ≤ 900 ∨ (g - 900) ^ k ≤ v * pwrK k) ∧ v * pwrK k < (g + 900) ^ k
/-- what the table says of the guessed root -/
def EVr (e : tE) : Prop := ∀ (M : tM) (n r : Nat) (k : Int32) (v : Int), tsh r = 3 → (2 ≤ k.toInt ∧ k.toInt ≤ 4) → BB M r v → (0 ≤ v ∧ v < 10000000000000000000000) → ∃ z : Int64, NR k.toInt.toNat v z.toInt ∧ ∀ lv : List (Nat × bV), blk lv 0 = some (.inr (.inr (.inl r))) → blk lv 1 = some (.inl k) → e.2 2564 0 lv [] (two M n) = some (.inr (.inl z))
/-- the root's code -/
def RT (k : Nat) (v t : Int) : Prop := ∃ r : Int, 0 ≤ r ∧ r ^ k ≤ v * pwrK k ∧ v * pwrK k < (r + 1) ^ k ∧ t = 2 * r + (if r ^ k = v * pwrK k then 0 else 1)
theorem pow_le {x y : Int} (hx : 0 ≤ x) (h : x ≤ y) : ∀ k : Nat, x ^ k ≤ y ^ k := by
  intro k
  induction k with
  | zero => rw [Int.pow_zero, Int.pow_zero]; exact Int.le_refl _
  | succ k ih =>
    rw [Int.pow_succ, Int.pow_succ]
    exact Int.mul_le_mul ih h hx (powi_0 (by omega))
theorem pow_lt_of {x y : Int} {k : Nat} (hy : 0 ≤ y) (h : x ^ k < y ^ k) : x < y := by
  rcases Int.lt_or_le x y with g | g
  · exact g
  · have := pow_le hy g k
    omega
theorem RT_le {k : Nat} {v w t s : Int} (h : v ≤ w) (ht : RT k v t) (hs : RT k w s) : t ≤ s := by
  obtain ⟨r, r1, r2, r3, rfl⟩ := ht
  obtain ⟨q, q1, q2, q3, rfl⟩ := hs
  have m := Int.mul_le_mul_of_nonneg_right h (Int.le_of_lt (pwrK_pos k))
  have a : r < q + 1 := pow_lt_of (k := k) (by omega) (by omega)
  rcases Int.lt_or_le r q with g | g
  · split <;> split <;> omega
  · have e : r = q := by omega
    subst e
    split
    · split <;> omega
    · split
      · omega
      · omega
theorem RT_r {k : Nat} {v t : Int} (hk : 1 ≤ k) (h0 : 0 ≤ v) (h : RT k v t) : 0 ≤ t ∧ t ≤ 2 * (v * pwrK k) + 1 := by
  obtain ⟨r, r1, r2, r3, rfl⟩ := h
  have p : r ≤ v * pwrK k := by
    rcases Int.lt_or_le 0 r with g | g
    · have e : r ^ k = r ^ (k - 1) * r := by
        rw [← Int.pow_succ]
        congr 1
        omega
      have p1 : 0 < r ^ (k - 1) := Int.pow_pos g
      have p2 : 1 * r ≤ r ^ (k - 1) * r := Int.mul_le_mul_of_nonneg_right (by omega) r1
      omega
    · have := Int.mul_nonneg h0 (Int.le_of_lt (pwrK_pos k))
      omega
  split <;> omega
/-- a power's code against a number -/
theorem cd_cmp {N K v : Int} (hK : 0 < K) : (cd N K < 2 * v ↔ N < v * K) ∧ (cd N K = 2 * v ↔ N = v * K) := by
  have e := Int.emod_add_mul_ediv N K
  have m1 := Int.emod_nonneg N (Int.ne_of_gt hK)
  have m2 := Int.emod_lt_of_pos N hK
  rw [Int.mul_comm K] at e
  unfold cd
  have key : ∀ q : Int, q < v → q * K + K ≤ v * K := fun q h => by
    have := Int.mul_le_mul_of_nonneg_right (show q + 1 ≤ v by omega) (Int.le_of_lt hK)
    rw [Int.add_mul, Int.one_mul] at this
    exact this
  have key2 : ∀ q : Int, v ≤ q → v * K ≤ q * K := fun q h => Int.mul_le_mul_of_nonneg_right h (Int.le_of_lt hK)
  rcases Int.lt_trichotomy (N / K) v with g | g | g
  · have := key _ g
    split <;> (refine ⟨⟨fun _ => by omega, fun _ => by omega⟩, ⟨fun h => by omega, fun h => by omega⟩⟩)
  · rw [g] at e ⊢
    split <;> (refine ⟨⟨fun h => by omega, fun h => by omega⟩, ⟨fun h => by omega, fun h => by omega⟩⟩)
  · have h1 := key2 (N / K) (by omega)
    have h2 : v * K + K ≤ N / K * K := by
      have := Int.mul_le_mul_of_nonneg_right (show v + 1 ≤ N / K by omega) (Int.le_of_lt hK)
      rw [Int.add_mul, Int.one_mul] at this
      exact this
    split <;> (refine ⟨⟨fun h => by omega, fun h => by omega⟩, ⟨fun h => by omega, fun h => by omega⟩⟩)
theorem pow_s {g : Int} (hg : 0 ≤ g) {k : Nat} (hk : 1 ≤ k) : g ^ k < (g + 1) ^ k := by
  have e : ∀ x : Int, x ^ k = x ^ (k - 1) * x := fun x => by
    rw [← Int.pow_succ]
    congr 1
    omega
  rw [e, e]
  have a := pow_le hg (show g ≤ g + 1 by omega) (k - 1)
  have p : 0 < (g + 1) ^ (k - 1) := Int.pow_pos (by omega)
  have m : g ^ (k - 1) * g ≤ (g + 1) ^ (k - 1) * g := Int.mul_le_mul_of_nonneg_right a hg
  rw [Int.mul_add, Int.mul_one]
  omega
theorem TT_30 : TT 30 = 1000000000000000000000000000000 := by
  unfold TT
  rw [tn_def]
  rfl
theorem TT_40 : TT 40 = 10000000000000000000000000000000000000000 := by
  unfold TT
  rw [tn_def]
  rfl
/-- how great a guess can be -/
def gmx (k : Nat) : Int := if k = 2 then 15000000000000000 else if k = 3 then 150000000000000 else 15000000000000
theorem pwrK_v : pwrK 2 = 10000000000 ∧ pwrK 3 = 100000000000000000000 ∧ pwrK 4 = 1000000000000000000000000000000 := by
  unfold pwrK
  refine ⟨?_, ?_, ?_⟩
  · show TT 10 = _
    exact TT_10
  · show TT 20 = _
    exact TT_v.2.2
  · show TT 30 = _
    exact TT_30
/-- a guess's power is whole in the row -/
theorem pw_full {g N : Int} {x be : Nat} (hx : 2 ≤ x ∧ x ≤ 4) (hg : 0 ≤ g ∧ g ≤ gmx x) (h : PW g N x be) : N = g ^ x ∧ be = 2 * x ∧ N < 10000000000000 * TT (5 * be) := by
  rcases h with ⟨h1, _, _⟩ | ⟨h1, j, ⟨h2, h3⟩, rfl, rfl, h6⟩
  · omega
  have t10 : TT (5 * (2 * 1)) = 10000000000 := TT_10
  have t20 : TT (5 * (2 * 2)) = 100000000000000000000 := TT_v.2.2
  have t30 : TT (5 * (2 * 3)) = 1000000000000000000000000000000 := TT_30
  have t40 : TT (5 * (2 * 4)) = 10000000000000000000000000000000000000000 := TT_40
  have key : ∀ (j : Nat) (G : Int), g ≤ G → g ^ j ≤ G ^ j := fun j G q => pow_le hg.1 q j
  rcases (show x = 2 ∨ x = 3 ∨ x = 4 by omega) with rfl | rfl | rfl
  · have a := key j 15000000000000000 hg.2
    rcases (show j = 1 ∨ j = 2 by omega) with rfl | rfl
    · rw [t10] at h6
      rw [show (15000000000000000 : Int) ^ 1 = 15000000000000000 by decide] at a
      omega
    · rw [show (15000000000000000 : Int) ^ 2 = 225000000000000000000000000000000 by decide] at a
      exact ⟨rfl, rfl, by omega⟩
  · have a := key j 150000000000000 hg.2
    rcases (show j = 1 ∨ j = 2 ∨ j = 3 by omega) with rfl | rfl | rfl
    · rw [t10] at h6
      rw [show (150000000000000 : Int) ^ 1 = 150000000000000 by decide] at a
      omega
    · rw [t20] at h6
      rw [show (150000000000000 : Int) ^ 2 = 22500000000000000000000000000 by decide] at a
      omega
    · rw [show (150000000000000 : Int) ^ 3 = 3375000000000000000000000000000000000000000 by decide] at a
      exact ⟨rfl, rfl, by omega⟩
  · have a := key j 15000000000000 hg.2
    rcases (show j = 1 ∨ j = 2 ∨ j = 3 ∨ j = 4 by omega) with rfl | rfl | rfl | rfl
    · rw [t10] at h6
      rw [show (15000000000000 : Int) ^ 1 = 15000000000000 by decide] at a
      omega
    · rw [t20] at h6
      rw [show (15000000000000 : Int) ^ 2 = 225000000000000000000000000 by decide] at a
      omega
    · rw [t30] at h6
      rw [show (15000000000000 : Int) ^ 3 = 3375000000000000000000000000000000000000 by decide] at a
      omega
    · rw [show (15000000000000 : Int) ^ 4 = 50625000000000000000000000000000000000000000000000000 by decide] at a
      exact ⟨rfl, rfl, by omega⟩
/-- roots are far below -/
theorem rt_b {v g : Int} {k : Nat} (hk : 2 ≤ k ∧ k ≤ 4) (rv : v < 10000000000000000000000) (h : g ^ k ≤ v * pwrK k) : g + 2000 ≤ gmx k := by
  obtain ⟨e2, e3, e4⟩ := pwrK_v
  rcases (show k = 2 ∨ k = 3 ∨ k = 4 by omega) with rfl | rfl | rfl
  · rw [e2] at h
    have : g < 10000000000000000 := pow_lt_of (k := 2) (by decide) (by rw [show (10000000000000000 : Int) ^ 2 = 100000000000000000000000000000000 by decide]; omega)
    show g + 2000 ≤ 15000000000000000
    omega
  · rw [e3] at h
    have : g < 100000000000000 := pow_lt_of (k := 3) (by decide) (by rw [show (100000000000000 : Int) ^ 3 = 1000000000000000000000000000000000000000000 by decide]; omega)
    show g + 2000 ≤ 150000000000000
    omega
  · rw [e4] at h
    have : g < 10000000000000 := pow_lt_of (k := 4) (by decide) (by rw [show (10000000000000 : Int) ^ 4 = 10000000000000000000000000000000000000000000000000000 by decide]; omega)
    show g + 2000 ≤ 15000000000000
    omega
theorem gmx_r (k : Nat) : 15000000000000 ≤ gmx k ∧ gmx k ≤ 15000000000000000 := by
  unfold gmx
  split
  · omega
  · split <;> omega
section HAND
variable {e : tE} {b d n : Nat} {M : tM}
theorem y_cmp {x y : Int} (hx : (-9223372036854775808 ≤ x ∧ x < 9223372036854775808)) (hy : (-9223372036854775808 ≤ y ∧ y < 9223372036854775808)) : tC e d 4096 [.inr (.inl x), .inr (.inl y)] M n (tQi n (fun z M' => ((z = 0 ↔ x = y) ∧ (z < 0 ↔ x < y) ∧ (-1 ≤ z ∧ z ≤ 1)) ∧ M' = M)) := by
  refine tst_J13_compare_74951 ?_
  have n21 : ∀ z : Int, ((z = 0 ↔ x = y) ∧ (z < 0 ↔ x < y)) → (-1 ≤ z ∧ z ≤ 1) → tT e d 4096 21 [some (.inr (.inl (x))), none, some (.inr (.inl (y))), none] [.inl z] M n (tQi n (fun z M' => ((z = 0 ↔ x = y) ∧ (z < 0 ↔ x < y) ∧ (-1 ≤ z ∧ z ≤ 1)) ∧ M' = M)) := by
    intro z h1 h2
    refine tb_J13_compare_74951_21 (c := false) ?_
    simp only [kb_J13_compare_74951_21, w_ire, trg, true_and, and_true, Nat.reduceAdd, Nat.reduceSub, eq_self]
    exact ⟨_, rfl, rfl, ⟨h1.1, h1.2, h2⟩, rfl⟩
  refine tb_J13_compare_74951_0 (c := false) ?_
  simp only [kb_J13_compare_74951_0, w_lld_0, w_lld_2, w_lcmp, ne_eq, tlc_r, tlc_eq, tlc_lt, tlc_ge, tlc_gt, tlc_le, w_if_ge, w_ic, w_goto, true_and, and_true, Nat.reduceAdd, Nat.reduceSub, eq_self]
  refine ⟨⟨hx, hy⟩, fun h => ?_, fun h => n21 _ (by omega) (by omega)⟩
  refine tb_J13_compare_74951_10 (c := false) ?_
  simp only [kb_J13_compare_74951_10, w_lld_0, w_lld_2, w_lcmp, ne_eq, tlc_r, tlc_eq, tlc_lt, tlc_ge, tlc_gt, tlc_le, w_if_ne, w_ic, w_goto, true_and, and_true, Nat.reduceAdd, Nat.reduceSub, eq_self]
  refine ⟨⟨hx, hy⟩, fun h2 => ?_, fun h2 => n21 _ (by omega) (by omega)⟩
  refine tb_J13_compare_74951_20 (c := false) ?_
  simp only [kb_J13_compare_74951_20, w_ic, w_nil, true_and, and_true, Nat.reduceAdd, Nat.reduceSub, eq_self]
  exact n21 _ (by omega) (by omega)
theorem y_against {r x1 : Nat} {v w : Int} (h0 : cl r 3) (h1 : cl x1 3) (hv : BB M r v) (hw : BB M x1 w) (rv : RV v) (rw_ : RV w) (hd : 1 ≤ d) : tC e d 769 [.inr (.inr (.inl r)), .inr (.inr (.inl x1))] M n (tQi n (fun z M' => ((z = 0 ↔ v = w) ∧ (z < 0 ↔ v < w) ∧ (-1 ≤ z ∧ z ≤ 1)) ∧ M' = M)) := by
  have hr := h0.1
  have hx := h1.1
  have a := BB_r hv rv
  have c := BB_r hw rw_
  obtain ⟨v1, v2⟩ := hv
  obtain ⟨w1, w2⟩ := hw
  refine tst_X1_against ?_
  have n37 : ∀ z : Int, ((z = 0 ↔ v = w) ∧ (z < 0 ↔ v < w)) → (-1 ≤ z ∧ z ≤ 1) → tT e d 769 37 [some (.inr (.inr (.inl (r)))), some (.inr (.inr (.inl (x1))))] [.inl z] M n (tQi n (fun z M' => ((z = 0 ↔ v = w) ∧ (z < 0 ↔ v < w) ∧ (-1 ≤ z ∧ z ≤ 1)) ∧ M' = M)) := by
    intro z hz hz2
    refine tb_X1_against_37 (c := false) ?_
    simp only [kb_X1_against_37, w_ire, trg, true_and, and_true, Nat.reduceAdd, Nat.reduceSub, eq_self]
    exact ⟨_, rfl, rfl, ⟨hz.1, hz.2, hz2⟩, rfl⟩
  refine tb_X1_against_0 (c := false) ?_
  simp only [kb_X1_against_0, w_ald_0, w_gf_3_0, tw_f, w_ald_1, w_lcmp, ne_eq, tlc_r, tlc_eq, tlc_lt, tlc_ge, tlc_gt, tlc_le, w_if_eq, w_is2, tfr_0, tfr_1, tfr_2, tfr_3, tfr_4, w_goto, true_and, and_true, Nat.reduceAdd, Nat.reduceSub, eq_self, tyk_3, tcq_3, hr, hx]
  refine ⟨by omega, fun h => ?_, fun h => ?_⟩
  · refine tb_X1_against_26 (c := false) ?_
    simp only [kb_X1_against_26, w_ald_0, w_gf_3_1, tw_f, w_ald_1, w_is2, tfr_0, tfr_1, tfr_2, tfr_3, tfr_4, w_nil, true_and, and_true, Nat.reduceAdd, Nat.reduceSub, eq_self, tyk_3, tcq_3, hr, hx]
    refine tc_i (D := 0) (fun d' hd' => y_cmp (by omega) (by omega)) (by omega) ?_
    rintro z M1 ⟨q, rfl⟩
    try simp only [kb_X1_against_26, w_ald_0, w_gf_3_1, tw_f, w_ald_1, w_is2, tfr_0, tfr_1, tfr_2, tfr_3, tfr_4, w_nil, true_and, and_true, Nat.reduceAdd, Nat.reduceSub, eq_self, tyk_3, tcq_3, hr, hx]
    exact n37 z (by omega) q.2.2
  refine tc_i (D := 0) (fun d' hd' => y_cmp (by omega) (by omega)) (by omega) ?_
  rintro z M1 ⟨q, rfl⟩
  try simp only [kb_X1_against_0, w_ald_0, w_gf_3_0, tw_f, w_ald_1, w_lcmp, ne_eq, tlc_r, tlc_eq, tlc_lt, tlc_ge, tlc_gt, tlc_le, w_if_eq, w_is2, tfr_0, tfr_1, tfr_2, tfr_3, tfr_4, w_goto, true_and, and_true, Nat.reduceAdd, Nat.reduceSub, eq_self, tyk_3, tcq_3, hr, hx]
  exact n37 z (by omega) q.2.2
theorem t_guess {r k : Nat} {v : Int} (hr : cl r 3) (hk : 2 ≤ k ∧ k ≤ 4) (hv : BB M r v) (rv : 0 ≤ v ∧ v < 10000000000000000000000) (he : EVr e) (hd : 4 ≤ d) : tC e d 2564 [.inr (.inr (.inl r)), .inl (k : Int)] M n (tQl n (fun z M' => NR k v z ∧ M' = M)) := by
  have ek : (Int32.ofInt (k : Int)).toInt = (k : Int) := ofI_bound ⟨by omega, by omega⟩
  obtain ⟨z, h1, h2⟩ := he M n r (Int32.ofInt (k : Int)) v hr.1 (by rw [ek]; omega) hv rv
  rw [ek, nat_n] at h1
  refine tst_X8_guessRoot ?_
  intro _
  refine ⟨.inl (some (.inr (.inl z.toInt))), M, n, ⟨_, rfl, rfl, h1, rfl⟩, fun lv hl => ?_⟩
  have q := h2 lv (hl 0 _ rfl) (hl 1 _ rfl)
  have y := y_spec (d := d - 4) q
  rw [show d - 4 + 4 = d by omega] at y
  have e1 : tdr (.inl (some (.inr (.inl z.toInt)))) = .inl (some (.inr (.inl z))) := by
    show Sum.inl (some (Sum.inr (Sum.inl (Int64.ofInt (Int64.toInt _))))) = _
    rw [Int64.ofInt_toInt]
  rw [e1]
  exact y
theorem y_toRoot {x1 k : Nat} {v : Int} (hk : 2 ≤ k ∧ k ≤ 4) (h1 : cl x1 3) (hx1 : x1 < 79 ∨ 85 < x1) (hv : BB M x1 v) (rv : 0 ≤ v ∧ v < 10000000000000000000000) (he : EVr e) (hro : RO M) (hb : b < 2) (hC : CI M) (hd : 5 ≤ d) : tC e d 2578 [.inr (.inr (.inl 79)), .inr (.inr (.inl x1)), .inl (k : Int)] M n (tQn n (fun M' => (∃ t, RN M' t ∧ RT k v t) ∧ RO M' ∧ RF b M M')) := by
  have Rv : RV v := by unfold RV; omega
  refine tst_X8_toRoot ?_
  generalize hV : v * pwrK k = V
  have V0 : 0 ≤ V := by rw [← hV]; exact Int.mul_nonneg rv.1 (Int.le_of_lt (pwrK_pos k))
  -- the end
  have n226 : ∀ (M1 : tM) (g ex : Int) (w6 w7 : Option tV), (0 ≤ g ∧ g ≤ gmx k) → ((ex = 1 ∧ g ^ k = V) ∨ (ex = 0 ∧ g ^ k < V ∧ V < (g + 1) ^ k)) → RO M1 → RF b M M1 → tT e d 2578 226 [some (.inr (.inr (.inl (79)))), some (.inr (.inr (.inl (x1)))), some (.inl ((k : Int))), some (.inr (.inl (g))), none, some (.inl (ex)), w6, w7] [] M1 n (tQn n (fun M' => (∃ t, RN M' t ∧ RT k v t) ∧ RO M' ∧ RF b M M')) := by
    intro M1 g ex w6 w7 hg hex ro1 f1
    have gm := gmx_r k
    have td := td_e (y := g) (q := 10000000000) hg.1
    have n247 : ∀ h : Int, h = 1 - ex → tT e d 2578 247 [some (.inr (.inr (.inl (79)))), some (.inr (.inr (.inl (x1)))), some (.inl ((k : Int))), some (.inr (.inl (g))), none, some (.inl (ex)), w6, w7] [.inl h, .inr (.inl (g % 10000000000)), .inr (.inl (g / 10000000000)), .inr (.inr (.inl 79))] M1 n (tQn n (fun M' => (∃ t, RN M' t ∧ RT k v t) ∧ RO M' ∧ RF b M M')) := by
      intro h hh
      refine tb_X8_toRoot_247 (c := false) ?_
      simp only [kb_X8_toRoot_247, w_iv3, tfr_0, tfr_1, tfr_2, tfr_3, tfr_4, w_re, true_and, and_true, Nat.reduceAdd, Nat.reduceSub, eq_self, tsh_79, tyk_10, tcq_10, tyk_3, tcq_3, tsh_80, tsh_81, tsh_82]
      refine tc_n (D := 0) (fun d' hd' => y_rassign (b := b) (x1 := g / 10000000000) (x2 := g % 10000000000) (x3 := h) (by omega) (by omega) hb f1.1.1) (by omega) ?_
      rintro M2 ⟨q1, q2, q3⟩
      try simp only [kb_X8_toRoot_247, w_iv3, tfr_0, tfr_1, tfr_2, tfr_3, tfr_4, w_re, true_and, and_true, Nat.reduceAdd, Nat.reduceSub, eq_self, tsh_79, tyk_10, tcq_10, tyk_3, tcq_3, tsh_80, tsh_81, tsh_82]
      rw [show 2 * (g / 10000000000 * 10000000000 + g % 10000000000) + h = 2 * g + h by omega] at q1
      refine ⟨rfl, rfl, ⟨_, q1, g, hg.1, ?_, ?_, ?_⟩, RO_u ro1 (q3 79 4 (by decide) (by decide)) (q3 79 5 (by decide) (by decide)), RF_tr f1 ⟨q2, fun k i g => q3 k i (by omega) (by omega)⟩⟩
      · rw [hV]
        omega
      · rw [hV]
        have := pow_s hg.1 (show 1 ≤ k by omega)
        omega
      · rw [hV]
        split <;> omega
    refine tb_X8_toRoot_226 (c := false) ?_
    simp only [kb_X8_toRoot_226, w_ald_0, w_lld_3, w_ld2, w_ldiv, tw_f, w_lrem, w_ild5, w_if_ne, w_ic, w_goto, true_and, and_true, Nat.reduceAdd, Nat.reduceSub, eq_self]
    repeat refine And.intro (by omega) ?_
    rw [td.1]
    repeat refine And.intro (by omega) ?_
    rw [td.2]
    repeat refine And.intro (by omega) ?_
    refine ⟨fun q => ?_, fun q => ?_⟩
    · refine tb_X8_toRoot_246 (c := false) ?_
      simp only [kb_X8_toRoot_246, w_ic, w_nil, true_and, and_true, Nat.reduceAdd, Nat.reduceSub, eq_self]
      exact n247 0 (by omega)
    · exact n247 1 (by omega)
  -- upward
  have n121 : ∀ (fu : Nat) (M1 : tM) (i : Nat) (g g0 ex : Int) (w7 : Option tV), 1000 - i = fu → i ≤ 1000 → NR k v g0 → 0 ≤ g → ((ex = 1 ∧ g ^ k = V) ∨ (ex = 0 ∧ g ^ k < V)) → ((i = 0 ∧ (g = g0 ∨ V < (g + 1) ^ k)) ∨ g = g0 + (i : Int)) → RF b M M1 → RO M1 → BB M1 82 v → tT e d 2578 121 [some (.inr (.inr (.inl (79)))), some (.inr (.inr (.inl (x1)))), some (.inl ((k : Int))), some (.inr (.inl (g))), none, some (.inl (ex)), some (.inl ((i : Int))), w7] [] M1 n (tQn n (fun M' => (∃ t, RN M' t ∧ RT k v t) ∧ RO M' ∧ RF b M M')) := by
    intro fu
    induction fu with
    | zero =>
      intro M1 i g g0 ex w7 hf hi hN hg hex hgi a1 a2 a3
      have hie : i = 1000 := by omega
      have hgg : g = g0 + 1000 := by omega
      have n2 := hN.2.2
      rw [hV] at n2
      have := pow_lt_of (k := k) (x := g) (y := g0 + 900) (by have := hN.1; omega) (by omega)
      omega
    | succ fu ih =>
      intro M1 i g g0 ex w7 hf hi hN hg hex hgi a1 a2 a3
      have gb := rt_b (g := g) hk rv.2 (by rw [hV]; omega)
      have gm := gmx_r k
      refine tb_X8_toRoot_121 (c := false) ?_
      simp only [kb_X8_toRoot_121, w_ild6, w_si, w_ic_ge, w_ild5, w_if_ne, w_ald_0, w_gf_10_2, tw_f, w_lld_3, w_lc1, w_ladd, w_ld2, w_ldiv, w_lrem, w_iv2, tfr_0, tfr_1, tfr_2, tfr_3, tfr_4, w_ild_2, w_iv1, w_iv0, w_gf_10_0, w_gf_10_3, w_ist7, tkl_n, tkl_i, tkl_l, tkl_r, w_ild7, w_gf_10_1, w_ic, w_goto, true_and, and_true, Nat.reduceAdd, Nat.reduceSub, eq_self, tsh_79, tyk_10, tcq_10, tyk_3, tcq_3, tsh_80, tsh_81, tsh_82]
      repeat refine And.intro (by omega) ?_
      first | refine ⟨fun q => absurd q (by omega), fun _ => ?_⟩ | refine fun _ => ?_
      repeat refine And.intro (by omega) ?_
      refine ⟨fun q => ?_, fun q => ?_⟩
      · exact n226 M1 g ex _ _ ⟨hg, by omega⟩ (by omega) a2 a1
      have hlt : g ^ k < V := by omega
      have td := td_e (y := g + 1) (q := 10000000000) (by omega)
      repeat refine And.intro (by omega) ?_
      rw [td.1]
      repeat refine And.intro (by omega) ?_
      try rw [td.2]
      repeat refine And.intro (by omega) ?_
      refine tc_n (D := 0) (fun d' hd' => y_assign (b := b) (w := (g + 1) / 10000000000) (p := (g + 1) % 10000000000) cl_81 (by omega) (Or.inl hb) a1.1.1) (by omega) ?_
      rintro M2 ⟨q1, q2⟩
      rw [show (g + 1) / 10000000000 * 10000000000 + (g + 1) % 10000000000 = g + 1 by omega] at q1
      try simp only [kb_X8_toRoot_121, w_ild6, w_si, w_ic_ge, w_ild5, w_if_ne, w_ald_0, w_gf_10_2, tw_f, w_lld_3, w_lc1, w_ladd, w_ld2, w_ldiv, w_lrem, w_iv2, tfr_0, tfr_1, tfr_2, tfr_3, tfr_4, w_ild_2, w_iv1, w_iv0, w_gf_10_0, w_gf_10_3, w_ist7, tkl_n, tkl_i, tkl_l, tkl_r, w_ild7, w_gf_10_1, w_ic, w_goto, true_and, and_true, Nat.reduceAdd, Nat.reduceSub, eq_self, tsh_79, tyk_10, tcq_10, tyk_3, tcq_3, tsh_80, tsh_81, tsh_82]
      have ro2 : RO M2 := RO_u a2 (q2.2.2 79 4 (by decide)) (q2.2.2 79 5 (by decide))
      refine tc_n (D := 1) (fun d' hd' => y_raise (b := b) (x := k) (by omega) q1 (by have := gmx_r k; omega) ro2 hb q2.1 hd') (by omega) ?_
      rintro M3 ⟨⟨a, c, u, be, N, r1, r2, r3, r4, r5, r6, r7⟩, f3⟩
      try simp only [kb_X8_toRoot_121, w_ild6, w_si, w_ic_ge, w_ild5, w_if_ne, w_ald_0, w_gf_10_2, tw_f, w_lld_3, w_lc1, w_ladd, w_ld2, w_ldiv, w_lrem, w_iv2, tfr_0, tfr_1, tfr_2, tfr_3, tfr_4, w_ild_2, w_iv1, w_iv0, w_gf_10_0, w_gf_10_3, w_ist7, tkl_n, tkl_i, tkl_l, tkl_r, w_ild7, w_gf_10_1, w_ic, w_goto, true_and, and_true, Nat.reduceAdd, Nat.reduceSub, eq_self, tsh_79, tyk_10, tcq_10, tyk_3, tcq_3, tsh_80, tsh_81, tsh_82]
      refine tc_n (D := 1) (fun d' hd' => y_settle2 (b := b) r1 r2.1 r2.2 r3 r4 r5 hb f3.1.1 hd') (by omega) ?_
      rintro M4 ⟨⟨t, q3, q4⟩, q5, q6⟩
      obtain ⟨p1, p2, p3⟩ := pw_full hk (by omega) r7
      have ht : t = cd N (TT (5 * (be - 2))) := by
        rcases q4 with q4 | q4 | q4
        · exact q4
        · have htop := top_ge r5 (by omega) (by omega)
          have h15 : TT (5 * be + 15) ≤ TT (5 * (u - 1)) := TT_le (by omega)
          rw [TT_add, TT_v.2.1] at h15
          have hp := TT_pos (5 * be)
          omega
        · omega
      have hK : TT (5 * (be - 2)) = pwrK k := by
        unfold pwrK
        rw [if_neg (by omega), p2]
        congr 1
        omega
      rw [hK, p1] at ht
      have kc := cd_cmp (N := (g + 1) ^ k) (K := pwrK k) (v := v) (pwrK_pos k)
      rw [← ht] at kc
      have N0 : 0 ≤ (g + 1) ^ k := powi_0 (by omega)
      have t0 : 0 ≤ t := by rw [ht]; exact cd_0 (pwrK_pos k) N0
      have tr : RV (t / 2) := by
        have c1 := cd_r (N := (g + 1) ^ k) (K := pwrK k) (B := 100000000000000000000000) (Int.ediv_lt_of_lt_mul (pwrK_pos k) (by
          rw [← p1]
          have e5 : TT (5 * be) = pwrK k * 10000000000 := by rw [← hK, show 5 * be = 5 * (be - 2) + 10 by omega, TT_add, TT_10]
          rw [e5] at p3
          omega))
        rw [← ht] at c1
        unfold RV
        omega
      have d4 : BB M4 82 v := BB_u (BB_u (BB_u a3 (fun i => q2.2.2 _ _ (by decide))) (fun i => f3.2 _ _ (by decide))) (fun i => q6 _ _ (by decide) (by omega))
      have ro4 : RO M4 := ⟨a, c, r1.1, (q6 79 4 (by decide) (by decide)).trans r1.2.1, (q6 79 5 (by decide) (by decide)).trans r1.2.2⟩
      have f4 : RF b M M4 := RF_tr a1 (RF_tr (RF_d q2 (by decide)) (RF_tr (FP_R f3) ⟨q5, fun k i g => q6 k i (by omega) (by omega)⟩))
      try simp only [kb_X8_toRoot_121, w_ild6, w_si, w_ic_ge, w_ild5, w_if_ne, w_ald_0, w_gf_10_2, tw_f, w_lld_3, w_lc1, w_ladd, w_ld2, w_ldiv, w_lrem, w_iv2, tfr_0, tfr_1, tfr_2, tfr_3, tfr_4, w_ild_2, w_iv1, w_iv0, w_gf_10_0, w_gf_10_3, w_ist7, tkl_n, tkl_i, tkl_l, tkl_r, w_ild7, w_gf_10_1, w_ic, w_goto, true_and, and_true, Nat.reduceAdd, Nat.reduceSub, eq_self, tsh_79, tyk_10, tcq_10, tyk_3, tcq_3, tsh_80, tsh_81, tsh_82]
      refine tc_i (D := 1) (fun d' hd' => y_against cl_80 cl_82 q3.1 d4 tr Rv hd') (by omega) ?_
      rintro z M5 ⟨⟨z1, z2, z3⟩, rfl⟩
      have h79 := q3.2
      try simp only [kb_X8_toRoot_121, w_ild6, w_si, w_ic_ge, w_ild5, w_if_ne, w_ald_0, w_gf_10_2, tw_f, w_lld_3, w_lc1, w_ladd, w_ld2, w_ldiv, w_lrem, w_iv2, tfr_0, tfr_1, tfr_2, tfr_3, tfr_4, w_ild_2, w_iv1, w_iv0, w_gf_10_0, w_gf_10_3, w_ist7, tkl_n, tkl_i, tkl_l, tkl_r, w_ild7, w_gf_10_1, w_ic, w_goto, true_and, and_true, Nat.reduceAdd, Nat.reduceSub, eq_self, tsh_79, tyk_10, tcq_10, tyk_3, tcq_3, tsh_80, tsh_81, tsh_82, h79]
      rw [hV] at kc
      have n216 : ∀ ex' : Int, ((ex' = 1 ∧ (g + 1) ^ k = V) ∨ (ex' = 0 ∧ (g + 1) ^ k < V)) → tT e d 2578 216 [some (.inr (.inr (.inl (79)))), some (.inr (.inr (.inl (x1)))), some (.inl ((k : Int))), some (.inr (.inl (g))), none, some (.inl (ex')), some (.inl ((i : Int))), some (.inl (z))] [] M5 n (tQn n (fun M' => (∃ t, RN M' t ∧ RT k v t) ∧ RO M' ∧ RF b M M')) := by
        intro ex' hx'
        refine tb_X8_toRoot_216 (c := false) ?_
        simp only [kb_X8_toRoot_216, w_lld_3, w_lc1, w_ladd, tw_f, w_lst_3, tkl_n, tkl_i, tkl_l, tkl_r, w_inc6, w_goto, true_and, and_true, Nat.reduceAdd, Nat.reduceSub, eq_self]
        repeat refine And.intro (by omega) ?_
        rw [show ((i : Nat) : Int) + 1 = ((i + 1 : Nat) : Int) by omega]
        refine ih M5 (i + 1) (g + 1) g0 ex' _ (by omega) (by omega) hN (by omega) hx' (Or.inr (by omega)) f4 ro4 d4
      have n194 : ∀ ex' : Int, ((ex' = 1 ∧ (z = 0 ∧ t % 2 = 0)) ∨ (ex' = 0 ∧ ¬ (z = 0 ∧ t % 2 = 0))) → tT e d 2578 194 [some (.inr (.inr (.inl (79)))), some (.inr (.inr (.inl (x1)))), some (.inl ((k : Int))), some (.inr (.inl (g))), none, some (.inl (ex)), some (.inl ((i : Int))), some (.inl (z))] [.inl ex'] M5 n (tQn n (fun M' => (∃ t, RN M' t ∧ RT k v t) ∧ RO M' ∧ RF b M M')) := by
        intro ex' hx'
        refine tb_X8_toRoot_194 (c := false) ?_
        simp only [kb_X8_toRoot_194, w_ist5, tkl_n, tkl_i, tkl_l, tkl_r, w_ild7, w_if_gt, w_if_ne, w_ald_0, w_gf_10_1, tw_f, w_if_eq, w_goto, true_and, and_true, Nat.reduceAdd, Nat.reduceSub, eq_self, tsh_79, tyk_10, tcq_10, tyk_3, tcq_3, tsh_80, tsh_81, tsh_82, h79]
        repeat refine And.intro (by omega) ?_
        refine ⟨fun q => n226 M5 g ex' _ _ ⟨hg, by omega⟩ (by omega) ro4 f4, fun q => ?_⟩
        repeat refine And.intro (by omega) ?_
        refine ⟨fun q8 => n216 ex' (by omega), fun q8 => ?_⟩
        repeat refine And.intro (by omega) ?_
        refine ⟨fun q9 => n216 ex' (by omega), fun q9 => n226 M5 g ex' _ _ ⟨hg, by omega⟩ (by omega) ro4 f4⟩
      have n193 : ¬ (z = 0 ∧ t % 2 = 0) → tT e d 2578 193 [some (.inr (.inr (.inl (79)))), some (.inr (.inr (.inl (x1)))), some (.inl ((k : Int))), some (.inr (.inl (g))), none, some (.inl (ex)), some (.inl ((i : Int))), some (.inl (z))] [] M5 n (tQn n (fun M' => (∃ t, RN M' t ∧ RT k v t) ∧ RO M' ∧ RF b M M')) := by
        intro hn
        refine tb_X8_toRoot_193 (c := false) ?_
        simp only [kb_X8_toRoot_193, w_ic, w_nil, true_and, and_true, Nat.reduceAdd, Nat.reduceSub, eq_self]
        exact n194 0 (Or.inr ⟨rfl, hn⟩)
      repeat refine And.intro (by omega) ?_
      refine ⟨fun q7 => n193 (by omega), fun q7 => ?_⟩
      repeat refine And.intro (by omega) ?_
      refine ⟨fun q8 => n193 (by omega), fun q8 => n194 1 (Or.inl ⟨rfl, by omega⟩)⟩
  have n118 : ∀ (M1 : tM) (g g0 ex : Int) (w6 w7 : Option tV), NR k v g0 → 0 ≤ g → ((ex = 1 ∧ g ^ k = V) ∨ (ex = 0 ∧ g ^ k < V)) → (g = g0 ∨ V < (g + 1) ^ k) → RF b M M1 → RO M1 → BB M1 82 v → tT e d 2578 118 [some (.inr (.inr (.inl (79)))), some (.inr (.inr (.inl (x1)))), some (.inl ((k : Int))), some (.inr (.inl (g))), none, some (.inl (ex)), w6, w7] [] M1 n (tQn n (fun M' => (∃ t, RN M' t ∧ RT k v t) ∧ RO M' ∧ RF b M M')) := by
    intro M1 g g0 ex w6 w7 hN hg hex hgg a1 a2 a3
    refine tb_X8_toRoot_118 (c := false) ?_
    simp only [kb_X8_toRoot_118, w_ic, w_ist6, tkl_n, tkl_i, tkl_l, tkl_r, w_nil, true_and, and_true, Nat.reduceAdd, Nat.reduceSub, eq_self]
    repeat refine And.intro (by omega) ?_
    exact n121 1000 M1 0 g g0 ex _ rfl (by decide) hN hg hex (Or.inl ⟨rfl, hgg⟩) a1 a2 a3
  -- downward
  have n23 : ∀ (fu : Nat) (M1 : tM) (i : Nat) (g g0 ex : Int) (w7 : Option tV), 1000 - i = fu → i ≤ 1000 → NR k v g0 → g0 ≤ gmx k → 0 ≤ g → g = g0 - (i : Int) → (i = 0 ∨ V < (g + 1) ^ k) → RF b M M1 → RO M1 → BB M1 82 v → tT e d 2578 23 [some (.inr (.inr (.inl (79)))), some (.inr (.inr (.inl (x1)))), some (.inl ((k : Int))), some (.inr (.inl (g))), none, some (.inl (ex)), some (.inl ((i : Int))), w7] [] M1 n (tQn n (fun M' => (∃ t, RN M' t ∧ RT k v t) ∧ RO M' ∧ RF b M M')) := by
    intro fu
    induction fu with
    | zero =>
      intro M1 i g g0 ex w7 hf hi hN hgx hg hgi hup a1 a2 a3
      have hie : i = 1000 := by omega
      have n1 := hN.2.1
      rw [hV] at n1
      have h1 : (g0 - 900) ^ k ≤ V := by
        rcases n1 with q | q
        · omega
        · exact q
      have h2 : V < (g + 1) ^ k := by omega
      have := pow_lt_of (k := k) (x := g0 - 900) (y := g + 1) (by omega) (by omega)
      omega
    | succ fu ih =>
      intro M1 i g g0 ex w7 hf hi hN hgx hg hgi hup a1 a2 a3
      have gm := gmx_r k
      refine tb_X8_toRoot_23 (c := false) ?_
      simp only [kb_X8_toRoot_23, w_ild6, w_si, w_ic_ge, w_ald_0, w_gf_10_2, tw_f, w_lld_3, w_ld2, w_ldiv, w_lrem, w_iv2, tfr_0, tfr_1, tfr_2, tfr_3, tfr_4, w_ild_2, w_iv1, w_iv0, w_gf_10_0, w_gf_10_3, w_ist7, tkl_n, tkl_i, tkl_l, tkl_r, w_ild7, w_if_ne, w_gf_10_1, w_ic, w_goto, true_and, and_true, Nat.reduceAdd, Nat.reduceSub, eq_self, tsh_79, tyk_10, tcq_10, tyk_3, tcq_3, tsh_80, tsh_81, tsh_82]
      repeat refine And.intro (by omega) ?_
      first | refine ⟨fun q => absurd q (by omega), fun _ => ?_⟩ | refine fun _ => ?_
      have td := td_e (y := g) (q := 10000000000) (by omega)
      repeat refine And.intro (by omega) ?_
      rw [td.1]
      repeat refine And.intro (by omega) ?_
      try rw [td.2]
      repeat refine And.intro (by omega) ?_
      refine tc_n (D := 0) (fun d' hd' => y_assign (b := b) (w := (g) / 10000000000) (p := (g) % 10000000000) cl_81 (by omega) (Or.inl hb) a1.1.1) (by omega) ?_
      rintro M2 ⟨q1, q2⟩
      rw [show (g) / 10000000000 * 10000000000 + (g) % 10000000000 = g by omega] at q1
      try simp only [kb_X8_toRoot_23, w_ild6, w_si, w_ic_ge, w_ald_0, w_gf_10_2, tw_f, w_lld_3, w_ld2, w_ldiv, w_lrem, w_iv2, tfr_0, tfr_1, tfr_2, tfr_3, tfr_4, w_ild_2, w_iv1, w_iv0, w_gf_10_0, w_gf_10_3, w_ist7, tkl_n, tkl_i, tkl_l, tkl_r, w_ild7, w_if_ne, w_gf_10_1, w_ic, w_goto, true_and, and_true, Nat.reduceAdd, Nat.reduceSub, eq_self, tsh_79, tyk_10, tcq_10, tyk_3, tcq_3, tsh_80, tsh_81, tsh_82]
      have ro2 : RO M2 := RO_u a2 (q2.2.2 79 4 (by decide)) (q2.2.2 79 5 (by decide))
      refine tc_n (D := 1) (fun d' hd' => y_raise (b := b) (x := k) (by omega) q1 (by have := gmx_r k; omega) ro2 hb q2.1 hd') (by omega) ?_
      rintro M3 ⟨⟨a, c, u, be, N, r1, r2, r3, r4, r5, r6, r7⟩, f3⟩
      try simp only [kb_X8_toRoot_23, w_ild6, w_si, w_ic_ge, w_ald_0, w_gf_10_2, tw_f, w_lld_3, w_ld2, w_ldiv, w_lrem, w_iv2, tfr_0, tfr_1, tfr_2, tfr_3, tfr_4, w_ild_2, w_iv1, w_iv0, w_gf_10_0, w_gf_10_3, w_ist7, tkl_n, tkl_i, tkl_l, tkl_r, w_ild7, w_if_ne, w_gf_10_1, w_ic, w_goto, true_and, and_true, Nat.reduceAdd, Nat.reduceSub, eq_self, tsh_79, tyk_10, tcq_10, tyk_3, tcq_3, tsh_80, tsh_81, tsh_82]
      refine tc_n (D := 1) (fun d' hd' => y_settle2 (b := b) r1 r2.1 r2.2 r3 r4 r5 hb f3.1.1 hd') (by omega) ?_
      rintro M4 ⟨⟨t, q3, q4⟩, q5, q6⟩
      obtain ⟨p1, p2, p3⟩ := pw_full hk (by omega) r7
      have ht : t = cd N (TT (5 * (be - 2))) := by
        rcases q4 with q4 | q4 | q4
        · exact q4
        · have htop := top_ge r5 (by omega) (by omega)
          have h15 : TT (5 * be + 15) ≤ TT (5 * (u - 1)) := TT_le (by omega)
          rw [TT_add, TT_v.2.1] at h15
          have hp := TT_pos (5 * be)
          omega
        · omega
      have hK : TT (5 * (be - 2)) = pwrK k := by
        unfold pwrK
        rw [if_neg (by omega), p2]
        congr 1
        omega
      rw [hK, p1] at ht
      have kc := cd_cmp (N := (g) ^ k) (K := pwrK k) (v := v) (pwrK_pos k)
      rw [← ht] at kc
      have N0 : 0 ≤ (g) ^ k := powi_0 (by omega)
      have t0 : 0 ≤ t := by rw [ht]; exact cd_0 (pwrK_pos k) N0
      have tr : RV (t / 2) := by
        have c1 := cd_r (N := (g) ^ k) (K := pwrK k) (B := 100000000000000000000000) (Int.ediv_lt_of_lt_mul (pwrK_pos k) (by
          rw [← p1]
          have e5 : TT (5 * be) = pwrK k * 10000000000 := by rw [← hK, show 5 * be = 5 * (be - 2) + 10 by omega, TT_add, TT_10]
          rw [e5] at p3
          omega))
        rw [← ht] at c1
        unfold RV
        omega
      have d4 : BB M4 82 v := BB_u (BB_u (BB_u a3 (fun i => q2.2.2 _ _ (by decide))) (fun i => f3.2 _ _ (by decide))) (fun i => q6 _ _ (by decide) (by omega))
      have ro4 : RO M4 := ⟨a, c, r1.1, (q6 79 4 (by decide) (by decide)).trans r1.2.1, (q6 79 5 (by decide) (by decide)).trans r1.2.2⟩
      have f4 : RF b M M4 := RF_tr a1 (RF_tr (RF_d q2 (by decide)) (RF_tr (FP_R f3) ⟨q5, fun k i g => q6 k i (by omega) (by omega)⟩))
      try simp only [kb_X8_toRoot_23, w_ild6, w_si, w_ic_ge, w_ald_0, w_gf_10_2, tw_f, w_lld_3, w_ld2, w_ldiv, w_lrem, w_iv2, tfr_0, tfr_1, tfr_2, tfr_3, tfr_4, w_ild_2, w_iv1, w_iv0, w_gf_10_0, w_gf_10_3, w_ist7, tkl_n, tkl_i, tkl_l, tkl_r, w_ild7, w_if_ne, w_gf_10_1, w_ic, w_goto, true_and, and_true, Nat.reduceAdd, Nat.reduceSub, eq_self, tsh_79, tyk_10, tcq_10, tyk_3, tcq_3, tsh_80, tsh_81, tsh_82]
      refine tc_i (D := 1) (fun d' hd' => y_against cl_80 cl_82 q3.1 d4 tr Rv hd') (by omega) ?_
      rintro z M5 ⟨⟨z1, z2, z3⟩, rfl⟩
      have h79 := q3.2
      try simp only [kb_X8_toRoot_23, w_ild6, w_si, w_ic_ge, w_ald_0, w_gf_10_2, tw_f, w_lld_3, w_ld2, w_ldiv, w_lrem, w_iv2, tfr_0, tfr_1, tfr_2, tfr_3, tfr_4, w_ild_2, w_iv1, w_iv0, w_gf_10_0, w_gf_10_3, w_ist7, tkl_n, tkl_i, tkl_l, tkl_r, w_ild7, w_if_ne, w_gf_10_1, w_ic, w_goto, true_and, and_true, Nat.reduceAdd, Nat.reduceSub, eq_self, tsh_79, tyk_10, tcq_10, tyk_3, tcq_3, tsh_80, tsh_81, tsh_82, h79]
      rw [hV] at kc
      have hgg : g = g0 ∨ V < (g + 1) ^ k := by omega
      have n87 : ∀ ex' : Int, ((ex' = 1 ∧ (z = 0 ∧ t % 2 = 0)) ∨ (ex' = 0 ∧ ¬ (z = 0 ∧ t % 2 = 0))) → tT e d 2578 87 [some (.inr (.inr (.inl (79)))), some (.inr (.inr (.inl (x1)))), some (.inl ((k : Int))), some (.inr (.inl (g))), none, some (.inl (ex)), some (.inl ((i : Int))), some (.inl (z))] [.inl ex'] M5 n (tQn n (fun M' => (∃ t, RN M' t ∧ RT k v t) ∧ RO M' ∧ RF b M M')) := by
        intro ex' hx'
        refine tb_X8_toRoot_87 (c := false) ?_
        simp only [kb_X8_toRoot_87, w_ist5, tkl_n, tkl_i, tkl_l, tkl_r, w_ild7, w_if_lt, w_ild5, w_if_ne, w_lld_3, w_lc0, w_lcmp, ne_eq, tlc_r, tlc_eq, tlc_lt, tlc_ge, tlc_gt, tlc_le, w_if_gt, w_goto, true_and, and_true, Nat.reduceAdd, Nat.reduceSub, eq_self]
        repeat refine And.intro (by omega) ?_
        refine ⟨fun q => n118 M5 g g0 ex' _ _ hN hg (by omega) hgg f4 ro4 d4, fun q => ?_⟩
        repeat refine And.intro (by omega) ?_
        refine ⟨fun q8 => n118 M5 g g0 ex' _ _ hN hg (by omega) hgg f4 ro4 d4, fun q8 => ?_⟩
        have hgt : V < g ^ k := by omega
        have hg1 : 0 < g := by
          rcases Int.lt_or_le 0 g with w | w
          · exact w
          · have : g = 0 := by omega
            rw [this, Int.zero_pow (by omega)] at hgt
            omega
        repeat refine And.intro (by omega) ?_
        refine ⟨fun q9 => ?_, fun q9 => absurd (by omega) q9⟩
        refine tb_X8_toRoot_108 (c := false) ?_
        simp only [kb_X8_toRoot_108, w_lld_3, w_lc1, w_lsub, tw_f, w_lst_3, tkl_n, tkl_i, tkl_l, tkl_r, w_inc6, w_goto, true_and, and_true, Nat.reduceAdd, Nat.reduceSub, eq_self]
        repeat refine And.intro (by omega) ?_
        rw [show ((i : Nat) : Int) + 1 = ((i + 1 : Nat) : Int) by omega]
        exact ih M5 (i + 1) (g - 1) g0 ex' _ (by omega) (by omega) hN hgx (by omega) (by omega) (Or.inr (by rw [show g - 1 + 1 = g by omega]; exact hgt)) f4 ro4 d4
      have n86 : ¬ (z = 0 ∧ t % 2 = 0) → tT e d 2578 86 [some (.inr (.inr (.inl (79)))), some (.inr (.inr (.inl (x1)))), some (.inl ((k : Int))), some (.inr (.inl (g))), none, some (.inl (ex)), some (.inl ((i : Int))), some (.inl (z))] [] M5 n (tQn n (fun M' => (∃ t, RN M' t ∧ RT k v t) ∧ RO M' ∧ RF b M M')) := by
        intro hn
        refine tb_X8_toRoot_86 (c := false) ?_
        simp only [kb_X8_toRoot_86, w_ic, w_nil, true_and, and_true, Nat.reduceAdd, Nat.reduceSub, eq_self]
        exact n87 0 (Or.inr ⟨rfl, hn⟩)
      repeat refine And.intro (by omega) ?_
      refine ⟨fun q7 => n86 (by omega), fun q7 => ?_⟩
      repeat refine And.intro (by omega) ?_
      refine ⟨fun q8 => n86 (by omega), fun q8 => n87 1 (Or.inl ⟨rfl, by omega⟩)⟩
  refine tb_X8_toRoot_0 (c := false) ?_
  simp only [kb_X8_toRoot_0, w_ald_0, w_gf_10_3, tw_f, w_ald_1, w_iv1, tfr_0, tfr_1, tfr_2, tfr_3, tfr_4, w_ild_2, w_is2, w_lst_3, tkl_n, tkl_i, tkl_l, tkl_r, w_ic, w_ist5, w_ist6, w_nil, true_and, and_true, Nat.reduceAdd, Nat.reduceSub, eq_self, tsh_79, tyk_10, tcq_10, tyk_3, tcq_3, tsh_80, tsh_81, tsh_82]
  refine tc_n (D := 0) (fun d' hd' => y_copy (b := b) cl_82 h1 hv (Or.inl hb) hC) (by omega) ?_
  rintro M1 ⟨q1, q2⟩
  try simp only [kb_X8_toRoot_0, w_ald_0, w_gf_10_3, tw_f, w_ald_1, w_iv1, tfr_0, tfr_1, tfr_2, tfr_3, tfr_4, w_ild_2, w_is2, w_lst_3, tkl_n, tkl_i, tkl_l, tkl_r, w_ic, w_ist5, w_ist6, w_nil, true_and, and_true, Nat.reduceAdd, Nat.reduceSub, eq_self, tsh_79, tyk_10, tcq_10, tyk_3, tcq_3, tsh_80, tsh_81, tsh_82]
  refine tc_l (D := 4) (fun d' hd' => t_guess cl_82 hk q1 rv he hd') (by omega) ?_
  rintro g M2 ⟨hN, rfl⟩
  try simp only [kb_X8_toRoot_0, w_ald_0, w_gf_10_3, tw_f, w_ald_1, w_iv1, tfr_0, tfr_1, tfr_2, tfr_3, tfr_4, w_ild_2, w_is2, w_lst_3, tkl_n, tkl_i, tkl_l, tkl_r, w_ic, w_ist5, w_ist6, w_nil, true_and, and_true, Nat.reduceAdd, Nat.reduceSub, eq_self, tsh_79, tyk_10, tcq_10, tyk_3, tcq_3, tsh_80, tsh_81, tsh_82]
  repeat refine And.intro (by omega) ?_
  have hgx : g ≤ gmx k := by
    have gm := gmx_r k
    rcases hN.2.1 with q | q
    · omega
    · have := rt_b hk rv.2 q
      omega
  exact n23 1000 M2 0 g g 0 _ rfl (by decide) hN hgx hN.1.1 (by omega) (Or.inl rfl) (RF_d q2 (by decide)) (RO_u hro (q2.2.2 79 4 (by decide)) (q2.2.2 79 5 (by decide))) q1
end HAND
