/-! THE CLASS BY VALUES: the acts' product and quotient. -/
/-- the cells of the acts -/
def AF (b : Nat) (M M' : tM) : Prop := (CI M' ∧ pE b M M') ∧ ∀ (k : Nat) (i : Int), (k < 78 ∨ 111 < k) → M' k i = M k i
theorem AF_refl {b : Nat} {M : tM} (hC : CI M) : AF b M M := ⟨⟨hC, pE_refl⟩, fun _ _ _ => rfl⟩
theorem AF_tr {b : Nat} {M M1 M2 : tM} (h1 : AF b M M1) (h2 : AF b M1 M2) : AF b M M2 := ⟨⟨h2.1.1, pE_tr h1.1.2 h2.1.2⟩, fun k i g => (h2.2 k i g).trans (h1.2 k i g)⟩
theorem AF_R {b : Nat} {M M1 : tM} (h : RF b M M1) : AF b M M1 := ⟨h.1, fun k i g => h.2 k i (by omega)⟩
theorem AF_d {b r : Nat} {M M1 : tM} (h : BD b M M1 r) (hr : 78 ≤ r ∧ r ≤ 111) : AF b M M1 := ⟨⟨h.1, h.2.1⟩, fun k i g => h.2.2 k i (by omega)⟩
theorem AE_F {b r : Nat} {M M1 : tM} (h : AF b M M1) : AE b M M1 r := ⟨h.1, fun k i g _ _ => h.2 k i g⟩
theorem RO_d {b r : Nat} {M M1 : tM} (h : RO M) (f : BD b M M1 r) (hr : r ≠ 79) : RO M1 := RO_u h (f.2.2 79 4 (Ne.symm hr)) (f.2.2 79 5 (Ne.symm hr))
theorem RO_b {b r : Nat} {M M1 : tM} (h : RO M) (f : BE b M M1 r) (hr : 111 < r) : RO M1 := RO_u h (f.2 79 4 (by omega) (by omega)) (f.2 79 5 (by omega) (by omega))
/-- told codes that are far are too great -/
theorem up_far {u t : Int} (hu : 0 < u) (h : 20000000000000000000000 ≤ t) : 10000000000000000000000 ≤ up u t := by
  have g := dnv_r (v := (-t) / 2) hu
  unfold up dn
  omega
theorem dn_far {u t : Int} (hu : 0 < u) (h : t ≤ -20000000000000000000000) : dn u t ≤ -10000000000000000000000 := by
  have g := dnv_r (v := t / 2) hu
  unfold dn
  omega
theorem dn_rv {u t : Int} (hu : UU u) (h : -(2 * 100000000000000000000000) ≤ t ∧ t ≤ 2 * 100000000000000000000000) : RV (dn u t) ∧ RV (up u t) := by
  have hu1 := hu.1
  have g1 := dnv_r (v := t / 2) (show 0 < u by omega)
  have g2 := dnv_r (v := (-t) / 2) (show 0 < u by omega)
  unfold RV up dn
  omega
theorem dn_min {u s t : Int} (hu : 0 < u) : dn u (min s t) = min (dn u s) (dn u t) := by
  rcases Int.le_total s t with h | h
  · have := dn_le hu h
    rw [Int.min_eq_left h, Int.min_eq_left this]
  · have := dn_le hu h
    rw [Int.min_eq_right h, Int.min_eq_right this]
theorem up_max {u s t : Int} (hu : 0 < u) : up u (max s t) = max (up u s) (up u t) := by
  rcases Int.le_total s t with h | h
  · have := up_le hu h
    rw [Int.max_eq_right h, Int.max_eq_right this]
  · have := up_le hu h
    rw [Int.max_eq_left h, Int.max_eq_left this]
/-- the corners of a product -/
def cr (lo hi l2 h2 : Int) (s j : Nat) : Int := cd ((if j % s = 0 then lo else hi) * (if j < s then l2 else h2)) 10000000000
def pdL (lo hi l2 h2 : Int) : Int := min (min (cd (lo * l2) 10000000000) (cd (hi * l2) 10000000000)) (min (cd (lo * h2) 10000000000) (cd (hi * h2) 10000000000))
def pdH (lo hi l2 h2 : Int) : Int := max (max (cd (lo * l2) 10000000000) (cd (hi * l2) 10000000000)) (max (cd (lo * h2) 10000000000) (cd (hi * h2) 10000000000))
/-- the corners up to one: the least and the greatest of them, or one is far -/
def CM (f : Nat → Int) (j : Nat) (T1 T2 : Int) : Prop := (-(2 * 100000000000000000000000) ≤ T1 ∧ T1 ≤ 2 * 100000000000000000000000) ∧ (-(2 * 100000000000000000000000) ≤ T2 ∧ T2 ≤ 2 * 100000000000000000000000) ∧ ((20000000000000000000000 ≤ T2 ∨ T1 ≤ -20000000000000000000000) ∨ ((∀ k : Nat, k < j → T1 ≤ f k ∧ f k ≤ T2) ∧ (∃ k : Nat, k < j ∧ T1 = f k) ∧ (∃ k : Nat, k < j ∧ T2 = f k)))
theorem CM_1 {f : Nat → Int} {t : Int} (h : t = f 0 ∨ 20000000000000000000000 ≤ t ∨ t ≤ -20000000000000000000000) (r : -(2 * 100000000000000000000000) ≤ t ∧ t ≤ 2 * 100000000000000000000000) : CM f 1 t t := by
  refine ⟨r, r, ?_⟩
  rcases h with h | h | h
  · right
    refine ⟨fun k hk => ?_, ⟨0, by omega, h⟩, 0, by omega, h⟩
    rw [show k = 0 by omega, h]
    omega
  · exact Or.inl (Or.inl h)
  · exact Or.inl (Or.inr h)
theorem CM_s {f : Nat → Int} {j : Nat} {T1 T2 t : Int} (hc : CM f j T1 T2) (h : t = f j ∨ 20000000000000000000000 ≤ t ∨ t ≤ -20000000000000000000000) (r : -(2 * 100000000000000000000000) ≤ t ∧ t ≤ 2 * 100000000000000000000000) : CM f (j + 1) (min t T1) (max T2 t) := by
  obtain ⟨c1, c2, c3⟩ := hc
  refine ⟨by omega, by omega, ?_⟩
  rcases h with h | h | h
  · rcases c3 with c3 | ⟨g1, ⟨k1, g2, g3⟩, k2, g4, g5⟩
    · left
      omega
    · right
      refine ⟨fun k hk => ?_, ?_, ?_⟩
      · rcases Nat.lt_or_ge k j with q | q
        · have := g1 k q
          omega
        · rw [show k = j by omega, ← h]
          omega
      · rcases Int.le_total t T1 with q | q
        · exact ⟨j, by omega, by rw [Int.min_eq_left q]; exact h⟩
        · exact ⟨k1, by omega, by rw [Int.min_eq_right q]; exact g3⟩
      · rcases Int.le_total T2 t with q | q
        · exact ⟨j, by omega, by rw [Int.max_eq_right q]; exact h⟩
        · exact ⟨k2, by omega, by rw [Int.max_eq_left q]; exact g5⟩
  · left; left; omega
  · left; right; omega
theorem CM_end {lo hi l2 h2 T1 T2 : Int} {s m : Nat} (hs : (s = 1 ∧ lo = hi) ∨ s = 2) (hm : (m = s ∧ l2 = h2) ∨ m = 2 * s) (hc : CM (cr lo hi l2 h2 s) m T1 T2) (n1 : ¬ 20000000000000000000000 ≤ T2) (n2 : ¬ T1 ≤ -20000000000000000000000) : T1 = pdL lo hi l2 h2 ∧ T2 = pdH lo hi l2 h2 := by
  obtain ⟨_, _, c3⟩ := hc
  obtain ⟨g1, ⟨k1, g2, g3⟩, k2, g4, g5⟩ : _ ∧ _ ∧ _ := c3.resolve_left (by omega)
  unfold pdL pdH
  rcases hs with ⟨rfl, rfl⟩ | rfl
  · rcases hm with ⟨rfl, rfl⟩ | rfl
    · have e0 : cr lo lo l2 l2 1 0 = cd (lo * l2) 10000000000 := rfl
      rw [show k1 = 0 by omega, e0] at g3
      rw [show k2 = 0 by omega, e0] at g5
      omega
    · have e0 : cr lo lo l2 h2 1 0 = cd (lo * l2) 10000000000 := rfl
      have e1 : cr lo lo l2 h2 1 1 = cd (lo * h2) 10000000000 := rfl
      have a0 := g1 0 (by omega)
      have a1 := g1 1 (by omega)
      rw [e0] at a0
      rw [e1] at a1
      rcases (show k1 = 0 ∨ k1 = 1 by omega) with rfl | rfl
      · rcases (show k2 = 0 ∨ k2 = 1 by omega) with rfl | rfl
        · rw [e0] at g3 g5; omega
        · rw [e0] at g3; rw [e1] at g5; omega
      · rcases (show k2 = 0 ∨ k2 = 1 by omega) with rfl | rfl
        · rw [e1] at g3; rw [e0] at g5; omega
        · rw [e1] at g3 g5; omega
  · rcases hm with ⟨rfl, rfl⟩ | rfl
    · have e0 : cr lo hi l2 l2 2 0 = cd (lo * l2) 10000000000 := rfl
      have e1 : cr lo hi l2 l2 2 1 = cd (hi * l2) 10000000000 := rfl
      have a0 := g1 0 (by omega)
      have a1 := g1 1 (by omega)
      rw [e0] at a0
      rw [e1] at a1
      rcases (show k1 = 0 ∨ k1 = 1 by omega) with rfl | rfl
      · rcases (show k2 = 0 ∨ k2 = 1 by omega) with rfl | rfl
        · rw [e0] at g3 g5; omega
        · rw [e0] at g3; rw [e1] at g5; omega
      · rcases (show k2 = 0 ∨ k2 = 1 by omega) with rfl | rfl
        · rw [e1] at g3; rw [e0] at g5; omega
        · rw [e1] at g3 g5; omega
    · have e0 : cr lo hi l2 h2 2 0 = cd (lo * l2) 10000000000 := rfl
      have e1 : cr lo hi l2 h2 2 1 = cd (hi * l2) 10000000000 := rfl
      have e2 : cr lo hi l2 h2 2 2 = cd (lo * h2) 10000000000 := rfl
      have e3 : cr lo hi l2 h2 2 3 = cd (hi * h2) 10000000000 := rfl
      have a0 := g1 0 (by omega)
      have a1 := g1 1 (by omega)
      have a2 := g1 2 (by omega)
      have a3 := g1 3 (by omega)
      rw [e0] at a0
      rw [e1] at a1
      rw [e2] at a2
      rw [e3] at a3
      have b1 : T1 = cd (lo * l2) 10000000000 ∨ T1 = cd (hi * l2) 10000000000 ∨ T1 = cd (lo * h2) 10000000000 ∨ T1 = cd (hi * h2) 10000000000 := by
        rcases (show k1 = 0 ∨ k1 = 1 ∨ k1 = 2 ∨ k1 = 3 by omega) with rfl | rfl | rfl | rfl
        · exact Or.inl (g3.trans e0)
        · exact Or.inr (Or.inl (g3.trans e1))
        · exact Or.inr (Or.inr (Or.inl (g3.trans e2)))
        · exact Or.inr (Or.inr (Or.inr (g3.trans e3)))
      have b2 : T2 = cd (lo * l2) 10000000000 ∨ T2 = cd (hi * l2) 10000000000 ∨ T2 = cd (lo * h2) 10000000000 ∨ T2 = cd (hi * h2) 10000000000 := by
        rcases (show k2 = 0 ∨ k2 = 1 ∨ k2 = 2 ∨ k2 = 3 by omega) with rfl | rfl | rfl | rfl
        · exact Or.inl (g5.trans e0)
        · exact Or.inr (Or.inl (g5.trans e1))
        · exact Or.inr (Or.inr (Or.inl (g5.trans e2)))
        · exact Or.inr (Or.inr (Or.inr (g5.trans e3)))
      clear g3 g5 g1
      generalize cd (lo * l2) 10000000000 = x0 at *
      generalize cd (hi * l2) 10000000000 = x1 at *
      generalize cd (lo * h2) 10000000000 = x2 at *
      generalize cd (hi * h2) 10000000000 = x3 at *
      omega
section HAND
variable {e : tE} {b d n : Nat} {M : tM}
theorem tsh_111 : tsh 111 = 3 := by rw [tsh_def]; decide +kernel
theorem cl_111 : cl 111 3 := ⟨tsh_111, by decide⟩
theorem z_product {r x1 : Nat} {lo hi l2 h2 : Int} (h0 : cl r 4) (h1 : cl x1 4) (hr : 111 < r) (hx : 111 < x1) (hn : r ≠ x1) (hv : BX M r lo hi) (hw : BX M x1 l2 h2) (r1 : NF lo ∧ NF hi) (r2 : NF l2 ∧ NF h2) (hu : UU (M 78 5)) (hro : RO M) (hb : b < 2) (hC : CI M) (hd : 4 ≤ d) : tC e d 517 [.inr (.inr (.inl 78)), .inr (.inr (.inl r)), .inr (.inr (.inl x1))] M n (tQi n (fun z M' => ∃ L H : Int, (BX M' r L H ∧ ST z L H) ∧ (z = 0 → L = dn (M 78 5) (pdL lo hi l2 h2) ∧ H = up (M 78 5) (pdH lo hi l2 h2)) ∧ RO M' ∧ AE b M M' r)) := by
  have hrs := h0.1
  have hm1 := (bxl_1 h0).1
  have hm2 := (bxl_2 h0).1
  have hxs := h1.1
  have hx1 := (bxl_1 h1).1
  have hx2 := (bxl_2 h1).1
  have hu1 := hu.1
  have hup : 0 < M 78 5 := by omega
  have nf : ∀ {v : Int}, NF v → (-100000000000000000000000 < v ∧ v < 100000000000000000000000) := fun h => by unfold NF at h; omega
  refine tst_X0_product ?_
  -- corner by corner
  have n27 : ∀ (s m : Nat), ((s = 1 ∧ lo = hi) ∨ s = 2) → ((m = s ∧ l2 = h2) ∨ m = 2 * s) → tT e d 517 27 [some (.inr (.inr (.inl (78)))), some (.inr (.inr (.inl (r)))), some (.inr (.inr (.inl (x1)))), some (.inl ((s : Int))), none, none] [.inl (m : Int)] M n (tQi n (fun z M' => ∃ L H : Int, (BX M' r L H ∧ ST z L H) ∧ (z = 0 → L = dn (M 78 5) (pdL lo hi l2 h2) ∧ H = up (M 78 5) (pdH lo hi l2 h2)) ∧ RO M' ∧ AE b M M' r)) := by
    intro s m hs hm
    have n177 : ∀ (M1 : tM) (T1 T2 : Int) (w5 : Option tV), BB M1 109 (dn (M 78 5) T1) → BB M1 110 (up (M 78 5) T2) → CM (cr lo hi l2 h2 s) m T1 T2 → RO M1 → AF b M M1 → tT e d 517 177 [some (.inr (.inr (.inl (78)))), some (.inr (.inr (.inl (r)))), some (.inr (.inr (.inl (x1)))), some (.inl ((s : Int))), some (.inl ((m : Int))), w5] [] M1 n (tQi n (fun z M' => ∃ L H : Int, (BX M' r L H ∧ ST z L H) ∧ (z = 0 → L = dn (M 78 5) (pdL lo hi l2 h2) ∧ H = up (M 78 5) (pdH lo hi l2 h2)) ∧ RO M' ∧ AE b M M' r)) := by
      intro M1 T1 T2 w5 k1 k2 k3 k4 k5
      have ra := (dn_rv hu k3.1).1
      have rb := (dn_rv hu k3.2.1).2
      refine tb_X0_product_177 (c := false) ?_
      simp only [kb_X0_product_177, w_ald_1, w_ald_0, w_gf_2_2, tw_f, w_gf_2_3, w_iv2, tfr_0, tfr_1, tfr_2, tfr_3, tfr_4, w_is1, w_ire, trg, true_and, and_true, Nat.reduceAdd, Nat.reduceSub, eq_self, tsh_78, tsh_79, tsh_109, tsh_110, tsh_111, tyk_4, tyk_2, tyk_10, tyk_3, tcq_4, tcq_2, tcq_10, tcq_3, hrs]
      refine tc_n (D := 1) (fun d' hd' => z_between (b := b) h0 cl_109 cl_110 k1 k2 (show 110 ≠ r + 1 by omega) hb k5.1.1 hd') (by omega) ?_
      rintro M2 ⟨q1, q2⟩
      try simp only [kb_X0_product_177, w_ald_1, w_ald_0, w_gf_2_2, tw_f, w_gf_2_3, w_iv2, tfr_0, tfr_1, tfr_2, tfr_3, tfr_4, w_is1, w_ire, trg, true_and, and_true, Nat.reduceAdd, Nat.reduceSub, eq_self, tsh_78, tsh_79, tsh_109, tsh_110, tsh_111, tyk_4, tyk_2, tyk_10, tyk_3, tcq_4, tcq_2, tcq_10, tcq_3, hrs]
      refine tc_i (D := 2) (fun d' hd' => z_judged h0 q1 ra rb hd') (by omega) ?_
      rintro z M3 ⟨q3, rfl⟩
      try simp only [kb_X0_product_177, w_ald_1, w_ald_0, w_gf_2_2, tw_f, w_gf_2_3, w_iv2, tfr_0, tfr_1, tfr_2, tfr_3, tfr_4, w_is1, w_ire, trg, true_and, and_true, Nat.reduceAdd, Nat.reduceSub, eq_self, tsh_78, tsh_79, tsh_109, tsh_110, tsh_111, tyk_4, tyk_2, tyk_10, tyk_3, tcq_4, tcq_2, tcq_10, tcq_3, hrs]
      refine ⟨_, rfl, rfl, _, _, ⟨q1, q3⟩, fun hz => ?_, RO_b k4 q2 hr, AE_tr (AE_F k5) (AE_b q2)⟩
      have nz : NF (dn (M 78 5) T1) ∧ NF (up (M 78 5) T2) := by
        rcases q3 with ⟨g, _⟩ | ⟨_, g⟩
        · omega
        · exact g
      have a1 : ¬ 20000000000000000000000 ≤ T2 := fun g => by
        have := up_far hup g
        have := nz.2.2
        omega
      have a2 : ¬ T1 ≤ -20000000000000000000000 := fun g => by
        have := dn_far hup g
        have := nz.1.1
        omega
      obtain ⟨c1, c2⟩ := CM_end hs hm k3 a1 a2
      rw [← c1, ← c2]
      exact ⟨rfl, rfl⟩
    have n32 : ∀ (fu : Nat) (M1 : tM) (j : Nat), m - j ≤ fu → j ≤ m → (j = 0 ∨ ∃ T1 T2 : Int, BB M1 109 (dn (M 78 5) T1) ∧ BB M1 110 (up (M 78 5) T2) ∧ CM (cr lo hi l2 h2 s) j T1 T2) → RO M1 → AF b M M1 → tT e d 517 32 [some (.inr (.inr (.inl (78)))), some (.inr (.inr (.inl (r)))), some (.inr (.inr (.inl (x1)))), some (.inl ((s : Int))), some (.inl ((m : Int))), some (.inl ((j : Int)))] [] M1 n (tQi n (fun z M' => ∃ L H : Int, (BX M' r L H ∧ ST z L H) ∧ (z = 0 → L = dn (M 78 5) (pdL lo hi l2 h2) ∧ H = up (M 78 5) (pdH lo hi l2 h2)) ∧ RO M' ∧ AE b M M' r)) := by
      intro fu
      induction fu with
      | zero =>
        intro M1 j hf hj k1 k2 k3
        have hje : j = m := by omega
        subst hje
        rcases k1 with k1 | ⟨T1, T2, g1, g2, g3⟩
        · exfalso
          omega
        · refine tb_X0_product_32 (c := false) ?_
          simp only [kb_X0_product_32, w_ild5, w_ild4, w_ic_ge, w_ald_0, w_gf_2_0, tw_f, w_ild_3, w_irem, w_if_ne, w_ald_1, w_gf_4_0, w_goto, true_and, and_true, Nat.reduceAdd, Nat.reduceSub, eq_self, tsh_78, tsh_79, tsh_109, tsh_110, tsh_111, tyk_4, tyk_2, tyk_10, tyk_3, tcq_4, tcq_2, tcq_10, tcq_3]
          repeat refine And.intro (by omega) ?_
          exact ⟨fun _ => n177 M1 T1 T2 _ g1 g2 g3 k2 k3, fun q => absurd (by omega) q⟩
      | succ fu ih =>
        intro M1 j hf hj k1 k2 k3
        rcases Nat.lt_or_ge j m with hlt | hge
        · have e5 : M1 78 5 = M 78 5 := UN_78 k3.1.2
          have vx : BX M1 r lo hi := BX_f hv (fun i => k3.2 _ i (by omega)) (fun i => k3.2 _ i (by omega))
          have wx : BX M1 x1 l2 h2 := BX_f hw (fun i => k3.2 _ i (by omega)) (fun i => k3.2 _ i (by omega))
          -- a corner is made
          have n78 : ∀ (cx cy : Nat) (xv yv : Int), cl cx 3 → cl cy 3 → 111 < cx → 111 < cy → BB M1 cx xv → BB M1 cy yv → NF xv → NF yv → cr lo hi l2 h2 s j = cd (xv * yv) 10000000000 → tT e d 517 78 [some (.inr (.inr (.inl (78)))), some (.inr (.inr (.inl (r)))), some (.inr (.inr (.inl (x1)))), some (.inl ((s : Int))), some (.inl ((m : Int))), some (.inl ((j : Int)))] [.inr (.inr (.inl cy)), .inr (.inr (.inl cx)), .inr (.inr (.inl 79))] M1 n (tQi n (fun z M' => ∃ L H : Int, (BX M' r L H ∧ ST z L H) ∧ (z = 0 → L = dn (M 78 5) (pdL lo hi l2 h2) ∧ H = up (M 78 5) (pdH lo hi l2 h2)) ∧ RO M' ∧ AE b M M' r)) := by
            intro cx cy xv yv a1 a2 a3 a4 a5 a6 a7 a8 a9
            refine tb_X0_product_78 (c := false) ?_
            simp only [kb_X0_product_78, w_iv2, tfr_0, tfr_1, tfr_2, tfr_3, tfr_4, w_ald_0, w_gf_2_0, tw_f, w_gf_2_4, w_gf_2_5, w_ild5, w_if_eq, w_gf_2_2, w_iv1, w_nil, true_and, and_true, Nat.reduceAdd, Nat.reduceSub, eq_self, tsh_78, tsh_79, tsh_109, tsh_110, tsh_111, tyk_4, tyk_2, tyk_10, tyk_3, tcq_4, tcq_2, tcq_10, tcq_3]
            refine tc_n (D := 2) (fun d' hd' => y_product (b := b) a1 a2 (by omega) (by omega) a5 a6 (nf a7) (nf a8) k2 hb k3.1.1 hd') (by omega) ?_
            rintro M2 ⟨⟨t, b1, b2⟩, b3, b4⟩
            have e52 : M2 78 5 = M 78 5 := (UN_78 b4.1.2).trans e5
            try simp only [kb_X0_product_78, w_iv2, tfr_0, tfr_1, tfr_2, tfr_3, tfr_4, w_ald_0, w_gf_2_0, tw_f, w_gf_2_4, w_gf_2_5, w_ild5, w_if_eq, w_gf_2_2, w_iv1, w_nil, true_and, and_true, Nat.reduceAdd, Nat.reduceSub, eq_self, tsh_78, tsh_79, tsh_109, tsh_110, tsh_111, tyk_4, tyk_2, tyk_10, tyk_3, tcq_4, tcq_2, tcq_10, tcq_3, e52]
            obtain ⟨t1, t2⟩ := b2
            rw [← a9] at t1
            have rt : RV t := by unfold RV; omega
            have tr := dn_rv hu t2
            refine tc_n (D := 1) (fun d' hd' => y_tellDown (b := b) cl_111 b1 rt hu (Or.inl hb) b4.1.1 hd') (by omega) ?_
            rintro M3 ⟨b5, b6⟩
            have e53 : M3 78 5 = M 78 5 := (UN_78 b6.2.1).trans e52
            try simp only [kb_X0_product_78, w_iv2, tfr_0, tfr_1, tfr_2, tfr_3, tfr_4, w_ald_0, w_gf_2_0, tw_f, w_gf_2_4, w_gf_2_5, w_ild5, w_if_eq, w_gf_2_2, w_iv1, w_nil, true_and, and_true, Nat.reduceAdd, Nat.reduceSub, eq_self, tsh_78, tsh_79, tsh_109, tsh_110, tsh_111, tyk_4, tyk_2, tyk_10, tyk_3, tcq_4, tcq_2, tcq_10, tcq_3]
            have R3 : RN M3 t := ⟨BB_u b1.1 (fun i => b6.2.2 80 i (by decide)), (b6.2.2 79 1 (by decide)).trans b1.2⟩
            have ro3 := RO_d b3 b6 (by decide)
            have af3 : AF b M M3 := AF_tr k3 (AF_tr (AF_R b4) (AF_d b6 (by decide)))
            -- the greatest
            have n126 : ∀ (M4 : tM) (T1 : Int), BB M4 109 (dn (M 78 5) T1) → (j = 0 → T1 = t) → (j ≠ 0 → ∃ T1' T2' : Int, T1 = min t T1' ∧ BB M4 110 (up (M 78 5) T2') ∧ CM (cr lo hi l2 h2 s) j T1' T2') → RN M4 t → RO M4 → AF b M M4 → tT e d 517 126 [some (.inr (.inr (.inl (78)))), some (.inr (.inr (.inl (r)))), some (.inr (.inr (.inl (x1)))), some (.inl ((s : Int))), some (.inl ((m : Int))), some (.inl ((j : Int)))] [] M4 n (tQi n (fun z M' => ∃ L H : Int, (BX M' r L H ∧ ST z L H) ∧ (z = 0 → L = dn (M 78 5) (pdL lo hi l2 h2) ∧ H = up (M 78 5) (pdH lo hi l2 h2)) ∧ RO M' ∧ AE b M M' r)) := by
              intro M4 T1 c1 c2 c3 c4 c5 c6
              have e54 : M4 78 5 = M 78 5 := UN_78 c6.1.2
              refine tb_X0_product_126 (c := false) ?_
              simp only [kb_X0_product_126, w_ald_0, w_gf_2_0, tw_f, w_gf_2_4, w_gf_2_5, w_iv2, tfr_0, tfr_1, tfr_2, tfr_3, tfr_4, w_ild5, w_if_eq, w_gf_2_3, w_iv1, w_nil, true_and, and_true, Nat.reduceAdd, Nat.reduceSub, eq_self, tsh_78, tsh_79, tsh_109, tsh_110, tsh_111, tyk_4, tyk_2, tyk_10, tyk_3, tcq_4, tcq_2, tcq_10, tcq_3, e54]
              refine tc_n (D := 1) (fun d' hd' => y_tellUp (b := b) cl_111 c4 rt hu (Or.inl hb) c6.1.1 hd') (by omega) ?_
              rintro M5 ⟨c7, c8⟩
              try simp only [kb_X0_product_126, w_ald_0, w_gf_2_0, tw_f, w_gf_2_4, w_gf_2_5, w_iv2, tfr_0, tfr_1, tfr_2, tfr_3, tfr_4, w_ild5, w_if_eq, w_gf_2_3, w_iv1, w_nil, true_and, and_true, Nat.reduceAdd, Nat.reduceSub, eq_self, tsh_78, tsh_79, tsh_109, tsh_110, tsh_111, tyk_4, tyk_2, tyk_10, tyk_3, tcq_4, tcq_2, tcq_10, tcq_3]
              have l5 : BB M5 109 (dn (M 78 5) T1) := BB_u c1 (fun i => c8.2.2 109 i (by decide))
              have ro5 := RO_d c5 c8 (by decide)
              have af5 : AF b M M5 := AF_tr c6 (AF_d c8 (by decide))
              have n171 : ∀ (M6 : tM) (T1 T2 : Int), BB M6 109 (dn (M 78 5) T1) → BB M6 110 (up (M 78 5) T2) → CM (cr lo hi l2 h2 s) (j + 1) T1 T2 → RO M6 → AF b M M6 → tT e d 517 171 [some (.inr (.inr (.inl (78)))), some (.inr (.inr (.inl (r)))), some (.inr (.inr (.inl (x1)))), some (.inl ((s : Int))), some (.inl ((m : Int))), some (.inl ((j : Int)))] [] M6 n (tQi n (fun z M' => ∃ L H : Int, (BX M' r L H ∧ ST z L H) ∧ (z = 0 → L = dn (M 78 5) (pdL lo hi l2 h2) ∧ H = up (M 78 5) (pdH lo hi l2 h2)) ∧ RO M' ∧ AE b M M' r)) := by
                intro M6 T1 T2 d1 d2 d3 d4 d5
                refine tb_X0_product_171 (c := false) ?_
                simp only [kb_X0_product_171, w_inc5, tkl_n, tkl_i, tkl_l, tkl_r, w_goto, true_and, and_true, Nat.reduceAdd, Nat.reduceSub, eq_self]
                repeat refine And.intro (by omega) ?_
                rw [show ((j : Nat) : Int) + 1 = ((j + 1 : Nat) : Int) by omega]
                exact ih M6 (j + 1) (by omega) (by omega) (Or.inr ⟨T1, T2, d1, d2, d3⟩) d4 d5
              have n160 : ∀ (T2 : Int), T2 = t → CM (cr lo hi l2 h2 s) (j + 1) T1 T2 → tT e d 517 160 [some (.inr (.inr (.inl (78)))), some (.inr (.inr (.inl (r)))), some (.inr (.inr (.inl (x1)))), some (.inl ((s : Int))), some (.inl ((m : Int))), some (.inl ((j : Int)))] [] M5 n (tQi n (fun z M' => ∃ L H : Int, (BX M' r L H ∧ ST z L H) ∧ (z = 0 → L = dn (M 78 5) (pdL lo hi l2 h2) ∧ H = up (M 78 5) (pdH lo hi l2 h2)) ∧ RO M' ∧ AE b M M' r)) := by
                intro T2 hT d1
                refine tb_X0_product_160 (c := false) ?_
                simp only [kb_X0_product_160, w_ald_0, w_gf_2_3, tw_f, w_gf_2_4, w_iv1, tfr_0, tfr_1, tfr_2, tfr_3, tfr_4, w_nil, true_and, and_true, Nat.reduceAdd, Nat.reduceSub, eq_self, tsh_78, tsh_79, tsh_109, tsh_110, tsh_111, tyk_4, tyk_2, tyk_10, tyk_3, tcq_4, tcq_2, tcq_10, tcq_3]
                refine tc_n (D := 0) (fun d' hd' => y_copy (b := b) cl_110 cl_111 c7 (Or.inl hb) c8.1) (by omega) ?_
                rintro M6 ⟨d2, d3⟩
                try simp only [kb_X0_product_160, w_ald_0, w_gf_2_3, tw_f, w_gf_2_4, w_iv1, tfr_0, tfr_1, tfr_2, tfr_3, tfr_4, w_nil, true_and, and_true, Nat.reduceAdd, Nat.reduceSub, eq_self, tsh_78, tsh_79, tsh_109, tsh_110, tsh_111, tyk_4, tyk_2, tyk_10, tyk_3, tcq_4, tcq_2, tcq_10, tcq_3]
                refine n171 M6 T1 T2 (BB_u l5 (fun i => d3.2.2 109 i (by decide))) ?_ d1 (RO_d ro5 d3 (by decide)) (AF_tr af5 (AF_d d3 (by decide)))
                rw [hT]
                exact d2
              repeat refine And.intro (by omega) ?_
              refine ⟨fun q => ?_, fun q => ?_⟩
              · have hj0 : j = 0 := by omega
                have hT := c2 hj0
                refine n160 t rfl ?_
                rw [hT, hj0]
                rw [hj0] at t1
                exact CM_1 t1 t2
              · obtain ⟨T1', T2', d1, d2, d3⟩ := c3 (by omega)
                have d25 : BB M5 110 (up (M 78 5) T2') := BB_u d2 (fun i => c8.2.2 110 i (by decide))
                refine tc_i (D := 0) (fun d' hd' => y_isBelow cl_110 cl_111 d25 c7 (dn_rv hu d3.2.1).2 tr.2) (by omega) ?_
                rintro z M6 ⟨d4, rfl⟩
                try simp only [kb_X0_product_126, w_ald_0, w_gf_2_0, tw_f, w_gf_2_4, w_gf_2_5, w_iv2, tfr_0, tfr_1, tfr_2, tfr_3, tfr_4, w_ild5, w_if_eq, w_gf_2_3, w_iv1, w_nil, true_and, and_true, Nat.reduceAdd, Nat.reduceSub, eq_self, tsh_78, tsh_79, tsh_109, tsh_110, tsh_111, tyk_4, tyk_2, tyk_10, tyk_3, tcq_4, tcq_2, tcq_10, tcq_3]
                have cm := CM_s d3 t1 t2
                rw [← d1] at cm
                refine ⟨by omega, fun q2 => ?_, fun q2 => ?_⟩
                · have hle : up (M 78 5) t ≤ up (M 78 5) T2' := by omega
                  refine n171 M6 T1 (max T2' t) l5 ?_ cm ro5 af5
                  rw [up_max hup, Int.max_eq_left hle]
                  exact d25
                · have hle : up (M 78 5) T2' ≤ up (M 78 5) t := by omega
                  refine tb_X0_product_160 (c := false) ?_
                  simp only [kb_X0_product_160, w_ald_0, w_gf_2_3, tw_f, w_gf_2_4, w_iv1, tfr_0, tfr_1, tfr_2, tfr_3, tfr_4, w_nil, true_and, and_true, Nat.reduceAdd, Nat.reduceSub, eq_self, tsh_78, tsh_79, tsh_109, tsh_110, tsh_111, tyk_4, tyk_2, tyk_10, tyk_3, tcq_4, tcq_2, tcq_10, tcq_3]
                  refine tc_n (D := 0) (fun d' hd' => y_copy (b := b) cl_110 cl_111 c7 (Or.inl hb) c8.1) (by omega) ?_
                  rintro M7 ⟨d5, d6⟩
                  try simp only [kb_X0_product_160, w_ald_0, w_gf_2_3, tw_f, w_gf_2_4, w_iv1, tfr_0, tfr_1, tfr_2, tfr_3, tfr_4, w_nil, true_and, and_true, Nat.reduceAdd, Nat.reduceSub, eq_self, tsh_78, tsh_79, tsh_109, tsh_110, tsh_111, tyk_4, tyk_2, tyk_10, tyk_3, tcq_4, tcq_2, tcq_10, tcq_3]
                  refine n171 M7 T1 (max T2' t) (BB_u l5 (fun i => d6.2.2 109 i (by decide))) ?_ cm (RO_d ro5 d6 (by decide)) (AF_tr af5 (AF_d d6 (by decide)))
                  rw [up_max hup, Int.max_eq_right hle]
                  exact d5
            repeat refine And.intro (by omega) ?_
            refine ⟨fun q => ?_, fun q => ?_⟩
            · have hj0 : j = 0 := by omega
              refine tb_X0_product_115 (c := false) ?_
              simp only [kb_X0_product_115, w_ald_0, w_gf_2_2, tw_f, w_gf_2_4, w_iv1, tfr_0, tfr_1, tfr_2, tfr_3, tfr_4, w_nil, true_and, and_true, Nat.reduceAdd, Nat.reduceSub, eq_self, tsh_78, tsh_79, tsh_109, tsh_110, tsh_111, tyk_4, tyk_2, tyk_10, tyk_3, tcq_4, tcq_2, tcq_10, tcq_3]
              refine tc_n (D := 0) (fun d' hd' => y_copy (b := b) cl_109 cl_111 b5 (Or.inl hb) b6.1) (by omega) ?_
              rintro M4 ⟨d2, d3⟩
              try simp only [kb_X0_product_115, w_ald_0, w_gf_2_2, tw_f, w_gf_2_4, w_iv1, tfr_0, tfr_1, tfr_2, tfr_3, tfr_4, w_nil, true_and, and_true, Nat.reduceAdd, Nat.reduceSub, eq_self, tsh_78, tsh_79, tsh_109, tsh_110, tsh_111, tyk_4, tyk_2, tyk_10, tyk_3, tcq_4, tcq_2, tcq_10, tcq_3]
              exact n126 M4 t d2 (fun _ => rfl) (fun q2 => absurd hj0 q2) ⟨BB_u R3.1 (fun i => d3.2.2 80 i (by decide)), (d3.2.2 79 1 (by decide)).trans R3.2⟩ (RO_d ro3 d3 (by decide)) (AF_tr af3 (AF_d d3 (by decide)))
            · obtain ⟨T1', T2', d1, d2, d3⟩ := k1.resolve_left (by omega)
              have l3 : BB M3 109 (dn (M 78 5) T1') := BB_u d1 (fun i => (b6.2.2 109 i (by decide)).trans (b4.2 109 i (by decide)))
              have g3 : BB M3 110 (up (M 78 5) T2') := BB_u d2 (fun i => (b6.2.2 110 i (by decide)).trans (b4.2 110 i (by decide)))
              refine tc_i (D := 0) (fun d' hd' => y_isBelow cl_111 cl_109 b5 l3 tr.1 (dn_rv hu d3.1).1) (by omega) ?_
              rintro z M4 ⟨d4, rfl⟩
              try simp only [kb_X0_product_78, w_iv2, tfr_0, tfr_1, tfr_2, tfr_3, tfr_4, w_ald_0, w_gf_2_0, tw_f, w_gf_2_4, w_gf_2_5, w_ild5, w_if_eq, w_gf_2_2, w_iv1, w_nil, true_and, and_true, Nat.reduceAdd, Nat.reduceSub, eq_self, tsh_78, tsh_79, tsh_109, tsh_110, tsh_111, tyk_4, tyk_2, tyk_10, tyk_3, tcq_4, tcq_2, tcq_10, tcq_3]
              refine ⟨by omega, fun q2 => ?_, fun q2 => ?_⟩
              · have hle : dn (M 78 5) T1' ≤ dn (M 78 5) t := by omega
                refine n126 M4 (min t T1') ?_ (fun q3 => absurd q3 (by omega)) (fun _ => ⟨T1', T2', rfl, g3, d3⟩) R3 ro3 af3
                rw [dn_min hup, Int.min_eq_right hle]
                exact l3
              · have hle : dn (M 78 5) t ≤ dn (M 78 5) T1' := by omega
                refine tb_X0_product_115 (c := false) ?_
                simp only [kb_X0_product_115, w_ald_0, w_gf_2_2, tw_f, w_gf_2_4, w_iv1, tfr_0, tfr_1, tfr_2, tfr_3, tfr_4, w_nil, true_and, and_true, Nat.reduceAdd, Nat.reduceSub, eq_self, tsh_78, tsh_79, tsh_109, tsh_110, tsh_111, tyk_4, tyk_2, tyk_10, tyk_3, tcq_4, tcq_2, tcq_10, tcq_3]
                refine tc_n (D := 0) (fun d' hd' => y_copy (b := b) cl_109 cl_111 b5 (Or.inl hb) b6.1) (by omega) ?_
                rintro M5 ⟨d5, d6⟩
                try simp only [kb_X0_product_115, w_ald_0, w_gf_2_2, tw_f, w_gf_2_4, w_iv1, tfr_0, tfr_1, tfr_2, tfr_3, tfr_4, w_nil, true_and, and_true, Nat.reduceAdd, Nat.reduceSub, eq_self, tsh_78, tsh_79, tsh_109, tsh_110, tsh_111, tyk_4, tyk_2, tyk_10, tyk_3, tcq_4, tcq_2, tcq_10, tcq_3]
                refine n126 M5 (min t T1') ?_ (fun q3 => absurd q3 (by omega)) (fun _ => ⟨T1', T2', rfl, BB_u g3 (fun i => d6.2.2 110 i (by decide)), d3⟩) ⟨BB_u R3.1 (fun i => d6.2.2 80 i (by decide)), (d6.2.2 79 1 (by decide)).trans R3.2⟩ (RO_d ro3 d6 (by decide)) (AF_tr af3 (AF_d d6 (by decide)))
                rw [dn_min hup, Int.min_eq_left hle]
                exact d5
          -- the sides of the corner
          have n61 : ∀ (cx : Nat) (xv : Int), cl cx 3 → 111 < cx → BB M1 cx xv → NF xv → xv = (if j % s = 0 then lo else hi) → tT e d 517 61 [some (.inr (.inr (.inl (78)))), some (.inr (.inr (.inl (r)))), some (.inr (.inr (.inl (x1)))), some (.inl ((s : Int))), some (.inl ((m : Int))), some (.inl ((j : Int)))] [.inr (.inr (.inl cx)), .inr (.inr (.inl 79))] M1 n (tQi n (fun z M' => ∃ L H : Int, (BX M' r L H ∧ ST z L H) ∧ (z = 0 → L = dn (M 78 5) (pdL lo hi l2 h2) ∧ H = up (M 78 5) (pdH lo hi l2 h2)) ∧ RO M' ∧ AE b M M' r)) := by
            intro cx xv a1 a2 a3 a4 a5
            refine tb_X0_product_61 (c := false) ?_
            simp only [kb_X0_product_61, w_ild5, w_ild_3, w_ic_ge, w_ald_2, w_gf_4_0, tw_f, w_goto, true_and, and_true, Nat.reduceAdd, Nat.reduceSub, eq_self, tsh_78, tsh_79, tsh_109, tsh_110, tsh_111, tyk_4, tyk_2, tyk_10, tyk_3, tcq_4, tcq_2, tcq_10, tcq_3, hxs, hx1, hx2]
            repeat refine And.intro (by omega) ?_
            refine ⟨fun q => ?_, fun q => ?_⟩
            · refine tb_X0_product_74 (c := false) ?_
              simp only [kb_X0_product_74, w_ald_2, w_gf_4_1, tw_f, w_nil, true_and, and_true, Nat.reduceAdd, Nat.reduceSub, eq_self, tsh_78, tsh_79, tsh_109, tsh_110, tsh_111, tyk_4, tyk_2, tyk_10, tyk_3, tcq_4, tcq_2, tcq_10, tcq_3, hxs, hx1, hx2]
              refine n78 cx (x1 + 2) xv h2 a1 (bxl_2 h1) a2 (by omega) a3 wx.2 a4 r2.2 ?_
              unfold cr
              rw [← a5, if_neg (by omega)]
            · refine n78 cx (x1 + 1) xv l2 a1 (bxl_1 h1) a2 (by omega) a3 wx.1 a4 r2.1 ?_
              unfold cr
              rw [← a5, if_pos (by omega)]
          have em : ((j : Nat) : Int).tmod (s : Int) = ((j % s : Nat) : Int) := by
            rw [Int.tmod_eq_emod_of_nonneg (by omega)]
            exact (Int.natCast_emod j s).symm
          refine tb_X0_product_32 (c := false) ?_
          simp only [kb_X0_product_32, w_ild5, w_ild4, w_ic_ge, w_ald_0, w_gf_2_0, tw_f, w_ild_3, w_irem, w_if_ne, w_ald_1, w_gf_4_0, w_goto, true_and, and_true, Nat.reduceAdd, Nat.reduceSub, eq_self, tsh_78, tsh_79, tsh_109, tsh_110, tsh_111, tyk_4, tyk_2, tyk_10, tyk_3, tcq_4, tcq_2, tcq_10, tcq_3, hrs, hm1, hm2]
          repeat refine And.intro (by omega) ?_
          first | refine ⟨fun q => absurd q (by omega), fun _ => ?_⟩ | refine fun _ => ?_
          rw [em]
          have hms := Nat.mod_le j s
          repeat refine And.intro (by omega) ?_
          refine ⟨fun q => ?_, fun q => ?_⟩
          · refine tb_X0_product_57 (c := false) ?_
            simp only [kb_X0_product_57, w_ald_1, w_gf_4_1, tw_f, w_nil, true_and, and_true, Nat.reduceAdd, Nat.reduceSub, eq_self, tsh_78, tsh_79, tsh_109, tsh_110, tsh_111, tyk_4, tyk_2, tyk_10, tyk_3, tcq_4, tcq_2, tcq_10, tcq_3, hrs, hm1, hm2]
            exact n61 (r + 2) hi (bxl_2 h0) (by omega) vx.2 r1.2 (by rw [if_neg (by omega)])
          · exact n61 (r + 1) lo (bxl_1 h0) (by omega) vx.1 r1.1 (by rw [if_pos (by omega)])
        · have hje : j = m := by omega
          subst hje
          rcases k1 with k1 | ⟨T1, T2, g1, g2, g3⟩
          · exfalso
            omega
          · refine tb_X0_product_32 (c := false) ?_
            simp only [kb_X0_product_32, w_ild5, w_ild4, w_ic_ge, w_ald_0, w_gf_2_0, tw_f, w_ild_3, w_irem, w_if_ne, w_ald_1, w_gf_4_0, w_goto, true_and, and_true, Nat.reduceAdd, Nat.reduceSub, eq_self, tsh_78, tsh_79, tsh_109, tsh_110, tsh_111, tyk_4, tyk_2, tyk_10, tyk_3, tcq_4, tcq_2, tcq_10, tcq_3]
            repeat refine And.intro (by omega) ?_
            exact ⟨fun _ => n177 M1 T1 T2 _ g1 g2 g3 k2 k3, fun q => absurd (by omega) q⟩
    refine tb_X0_product_27 (c := false) ?_
    simp only [kb_X0_product_27, w_ist4, tkl_n, tkl_i, tkl_l, tkl_r, w_ic, w_ist5, w_nil, true_and, and_true, Nat.reduceAdd, Nat.reduceSub, eq_self]
    repeat refine And.intro (by omega) ?_
    exact n32 m M 0 (by omega) (by omega) (Or.inl rfl) hro (AF_refl hC)
  have n12 : ∀ (s : Nat), ((s = 1 ∧ lo = hi) ∨ s = 2) → tT e d 517 12 [some (.inr (.inr (.inl (78)))), some (.inr (.inr (.inl (r)))), some (.inr (.inr (.inl (x1)))), none, none, none] [.inl (s : Int)] M n (tQi n (fun z M' => ∃ L H : Int, (BX M' r L H ∧ ST z L H) ∧ (z = 0 → L = dn (M 78 5) (pdL lo hi l2 h2) ∧ H = up (M 78 5) (pdH lo hi l2 h2)) ∧ RO M' ∧ AE b M M' r)) := by
    intro s hs
    refine tb_X0_product_12 (c := false) ?_
    simp only [kb_X0_product_12, w_ist_3, tkl_n, tkl_i, tkl_l, tkl_r, w_ald_2, w_iv0, tfr_0, tfr_1, tfr_2, tfr_3, tfr_4, w_if_eq, w_ild_3, w_goto, true_and, and_true, Nat.reduceAdd, Nat.reduceSub, eq_self, tsh_78, tsh_79, tsh_109, tsh_110, tsh_111, tyk_4, tyk_2, tyk_10, tyk_3, tcq_4, tcq_2, tcq_10, tcq_3, hxs]
    repeat refine And.intro (by omega) ?_
    refine tc_i (D := 2) (fun d' hd' => z_isSingle h1 hw (NF_r r2.1) (NF_r r2.2) hd') (by omega) ?_
    rintro z M1 ⟨q, rfl⟩
    try simp only [kb_X0_product_12, w_ist_3, tkl_n, tkl_i, tkl_l, tkl_r, w_ald_2, w_iv0, tfr_0, tfr_1, tfr_2, tfr_3, tfr_4, w_if_eq, w_ild_3, w_goto, true_and, and_true, Nat.reduceAdd, Nat.reduceSub, eq_self, tsh_78, tsh_79, tsh_109, tsh_110, tsh_111, tyk_4, tyk_2, tyk_10, tyk_3, tcq_4, tcq_2, tcq_10, tcq_3, hxs]
    refine ⟨by omega, fun h => ?_, fun h => ?_⟩
    · refine tb_X0_product_24 (c := false) ?_
      simp only [kb_X0_product_24, w_ic, w_ild_3, w_imul, w_nil, true_and, and_true, Nat.reduceAdd, Nat.reduceSub, eq_self]
      repeat refine And.intro (by omega) ?_
      rw [show (2 : Int) * (s : Int) = ((2 * s : Nat) : Int) by omega]
      exact n27 s (2 * s) hs (Or.inr rfl)
    · exact n27 s s hs (Or.inl ⟨rfl, by omega⟩)
  refine tb_X0_product_0 (c := false) ?_
  simp only [kb_X0_product_0, w_ald_1, w_iv0, tfr_0, tfr_1, tfr_2, tfr_3, tfr_4, w_if_eq, w_ic, w_goto, true_and, and_true, Nat.reduceAdd, Nat.reduceSub, eq_self, tsh_78, tsh_79, tsh_109, tsh_110, tsh_111, tyk_4, tyk_2, tyk_10, tyk_3, tcq_4, tcq_2, tcq_10, tcq_3, hrs]
  refine tc_i (D := 2) (fun d' hd' => z_isSingle h0 hv (NF_r r1.1) (NF_r r1.2) hd') (by omega) ?_
  rintro z M1 ⟨q, rfl⟩
  try simp only [kb_X0_product_0, w_ald_1, w_iv0, tfr_0, tfr_1, tfr_2, tfr_3, tfr_4, w_if_eq, w_ic, w_goto, true_and, and_true, Nat.reduceAdd, Nat.reduceSub, eq_self, tsh_78, tsh_79, tsh_109, tsh_110, tsh_111, tyk_4, tyk_2, tyk_10, tyk_3, tcq_4, tcq_2, tcq_10, tcq_3, hrs]
  refine ⟨by omega, fun h => ?_, fun h => ?_⟩
  · refine tb_X0_product_11 (c := false) ?_
    simp only [kb_X0_product_11, w_ic, w_nil, true_and, and_true, Nat.reduceAdd, Nat.reduceSub, eq_self]
    exact n12 2 (Or.inr rfl)
  · exact n12 1 (Or.inl ⟨rfl, by omega⟩)
end HAND
