/-! THE ACTS: smaller boxes make smaller ones. -/
/-- one box in another -/
def INB (v0 v : Int × Int) : Prop := v0.1 ≤ v.1 ∧ v.2 ≤ v0.2
theorem mul_mid {lo x hi y : Int} (h : lo ≤ x ∧ x ≤ hi) : min (lo * y) (hi * y) ≤ x * y ∧ x * y ≤ max (lo * y) (hi * y) := by
  rcases Int.lt_or_le y 0 with g | g
  · have m1 := Int.mul_le_mul_of_nonpos_right h.1 (Int.le_of_lt g)
    have m2 := Int.mul_le_mul_of_nonpos_right h.2 (Int.le_of_lt g)
    omega
  · have m1 := Int.mul_le_mul_of_nonneg_right h.1 g
    have m2 := Int.mul_le_mul_of_nonneg_right h.2 g
    omega
theorem pd_mid {lo hi l2 h2 x y : Int} (hx : lo ≤ x ∧ x ≤ hi) (hy : l2 ≤ y ∧ y ≤ h2) : pdL lo hi l2 h2 ≤ cd (x * y) 10000000000 ∧ cd (x * y) 10000000000 ≤ pdH lo hi l2 h2 := by
  have hK : (0 : Int) < 10000000000 := by decide
  have a := mul_mid (y := y) hx
  have b := mul_mid (y := lo) hy
  have c := mul_mid (y := hi) hy
  rw [Int.mul_comm l2 lo, Int.mul_comm h2 lo, Int.mul_comm y lo] at b
  rw [Int.mul_comm l2 hi, Int.mul_comm h2 hi, Int.mul_comm y hi] at c
  have key : ∀ p q : Int, p ≤ q → cd p 10000000000 ≤ cd q 10000000000 := fun p q h => cd_le hK h
  unfold pdL pdH
  generalize lo * y = A1 at *
  generalize hi * y = A2 at *
  generalize lo * l2 = C1 at *
  generalize hi * l2 = C2 at *
  generalize lo * h2 = C3 at *
  generalize hi * h2 = C4 at *
  generalize x * y = V at *
  refine ⟨?_, ?_⟩
  · rcases (show C1 ≤ V ∨ C2 ≤ V ∨ C3 ≤ V ∨ C4 ≤ V by omega) with q | q | q | q
    · have := key _ _ q
      omega
    · have := key _ _ q
      omega
    · have := key _ _ q
      omega
    · have := key _ _ q
      omega
  · rcases (show V ≤ C1 ∨ V ≤ C2 ∨ V ≤ C3 ∨ V ≤ C4 by omega) with q | q | q | q
    · have := key _ _ q
      omega
    · have := key _ _ q
      omega
    · have := key _ _ q
      omega
    · have := key _ _ q
      omega
theorem pd_iso {lo hi l2 h2 lo' hi' l2' h2' : Int} (h : lo' ≤ hi') (hl : l2' ≤ h2') (h1 : lo ≤ lo' ∧ hi' ≤ hi) (h3 : l2 ≤ l2' ∧ h2' ≤ h2) : pdL lo hi l2 h2 ≤ pdL lo' hi' l2' h2' ∧ pdH lo' hi' l2' h2' ≤ pdH lo hi l2 h2 := by
  have a := pd_mid (lo := lo) (hi := hi) (l2 := l2) (h2 := h2) (x := lo') (y := l2') (by omega) (by omega)
  have b := pd_mid (lo := lo) (hi := hi) (l2 := l2) (h2 := h2) (x := hi') (y := l2') (by omega) (by omega)
  have c := pd_mid (lo := lo) (hi := hi) (l2 := l2) (h2 := h2) (x := lo') (y := h2') (by omega) (by omega)
  have d := pd_mid (lo := lo) (hi := hi) (l2 := l2) (h2 := h2) (x := hi') (y := h2') (by omega) (by omega)
  have e1 : pdL lo' hi' l2' h2' = min (min (cd (lo' * l2') 10000000000) (cd (hi' * l2') 10000000000)) (min (cd (lo' * h2') 10000000000) (cd (hi' * h2') 10000000000)) := rfl
  have e2 : pdH lo' hi' l2' h2' = max (max (cd (lo' * l2') 10000000000) (cd (hi' * l2') 10000000000)) (max (cd (lo' * h2') 10000000000) (cd (hi' * h2') 10000000000)) := rfl
  rw [e1, e2]
  omega
theorem cdq {x x' b b' : Int} (p1 : 0 < b) (p2 : 0 < b') (q : x * b' ≤ x' * b) : cd (x * 10000000000) b ≤ cd (x' * 10000000000) b' := cd_le2 p1 p2 (by
  rw [Int.mul_right_comm, Int.mul_right_comm x']
  omega)
theorem qs_iso {lo hi l2 h2 lo' hi' l2' h2' : Int} (hl : 0 < l2 ∧ l2' ≤ h2') (h1 : lo ≤ lo' ∧ hi' ≤ hi) (h3 : l2 ≤ l2' ∧ h2' ≤ h2) : qsL lo l2 h2 ≤ qsL lo' l2' h2' ∧ qsH hi' l2' h2' ≤ qsH hi l2 h2 := by
  unfold qsL qsH
  refine ⟨?_, ?_⟩
  · by_cases g1 : lo < 0
    · rw [if_pos g1]
      by_cases g2 : lo' < 0
      · rw [if_pos g2]
        refine cdq hl.1 (by omega) ?_
        have m1 : lo * l2' ≤ lo * l2 := Int.mul_le_mul_of_nonpos_left (by omega) h3.1
        have m2 : lo * l2 ≤ lo' * l2 := Int.mul_le_mul_of_nonneg_right h1.1 (by omega)
        omega
      · rw [if_neg g2]
        refine cdq hl.1 (by omega) ?_
        have m1 : lo * h2' ≤ 0 := Int.mul_nonpos_of_nonpos_of_nonneg (by omega) (by omega)
        have m2 : 0 ≤ lo' * l2 := Int.mul_nonneg (by omega) (by omega)
        omega
    · rw [if_neg g1, if_neg (show ¬ lo' < 0 by omega)]
      refine cdq (by omega) (by omega) ?_
      have m1 : lo * h2' ≤ lo * h2 := Int.mul_le_mul_of_nonneg_left h3.2 (by omega)
      have m2 : lo * h2 ≤ lo' * h2 := Int.mul_le_mul_of_nonneg_right h1.1 (by omega)
      omega
  · by_cases g1 : hi' < 0
    · rw [if_pos g1]
      by_cases g2 : hi < 0
      · rw [if_pos g2]
        refine cdq (by omega) (by omega) ?_
        have m1 : hi' * h2 ≤ hi * h2 := Int.mul_le_mul_of_nonneg_right h1.2 (by omega)
        have m2 : hi * h2 ≤ hi * h2' := Int.mul_le_mul_of_nonpos_left (by omega) h3.2
        omega
      · rw [if_neg g2]
        refine cdq (by omega) hl.1 ?_
        have m1 : hi' * l2 ≤ 0 := Int.mul_nonpos_of_nonpos_of_nonneg (by omega) (by omega)
        have m2 : 0 ≤ hi * h2' := Int.mul_nonneg (by omega) (by omega)
        omega
    · rw [if_neg g1, if_neg (show ¬ hi < 0 by omega)]
      refine cdq (by omega) hl.1 ?_
      have m1 : hi' * l2 ≤ hi * l2 := Int.mul_le_mul_of_nonneg_right h1.2 (by omega)
      have m2 : hi * l2 ≤ hi * l2' := Int.mul_le_mul_of_nonneg_left h3.1 (by omega)
      omega
theorem qt_iso {lo hi l2 h2 lo' hi' l2' h2' : Int} (hz : ¬ (l2 ≤ 0 ∧ 0 ≤ h2)) (h0 : lo' ≤ hi') (hl : l2 ≤ h2 ∧ l2' ≤ h2') (h1 : lo ≤ lo' ∧ hi' ≤ hi) (h3 : l2 ≤ l2' ∧ h2' ≤ h2) : qtL lo hi l2 h2 ≤ qtL lo' hi' l2' h2' ∧ qtH lo' hi' l2' h2' ≤ qtH lo hi l2 h2 := by
  unfold qtL qtH
  by_cases g : h2 < 0
  · rw [if_pos g, if_pos g, if_pos (show h2' < 0 by omega), if_pos (show h2' < 0 by omega)]
    exact qs_iso (by omega) (by omega) (by omega)
  · rw [if_neg g, if_neg g, if_neg (show ¬ h2' < 0 by omega), if_neg (show ¬ h2' < 0 by omega)]
    exact qs_iso (by omega) h1 h3
theorem ab_iso {lo hi lo' hi' : Int} (h : lo' ≤ hi') (h1 : lo ≤ lo' ∧ hi' ≤ hi) : abLo lo hi ≤ abLo lo' hi' ∧ abHi lo' hi' ≤ abHi lo hi := by
  have key : ∀ a b : Int, a ≤ b → (abLo a b = (if ¬ a < 0 then a else if ¬ 0 < b then -b else 0)) ∧ abHi a b = max b (-a) := fun a b q => by
    unfold abLo abHi
    refine ⟨rfl, ?_⟩
    by_cases g1 : a < 0
    · rw [if_neg (show ¬ ¬ a < 0 by omega)]
      by_cases g2 : 0 < b
      · rw [if_neg (show ¬ ¬ 0 < b by omega)]
        split <;> omega
      · rw [if_pos g2]
        omega
    · rw [if_pos g1]
      omega
  rw [(key lo hi (by omega)).2, (key lo' hi' h).2]
  refine ⟨?_, by omega⟩
  unfold abLo
  by_cases g1 : lo < 0
  · rw [if_neg (show ¬ ¬ lo < 0 by omega)]
    by_cases g2 : 0 < hi
    · rw [if_neg (show ¬ ¬ 0 < hi by omega)]
      split
      · omega
      · split <;> omega
    · rw [if_pos g2]
      split
      · omega
      · split <;> omega
  · rw [if_pos g1, if_pos (show ¬ lo' < 0 by omega)]
    omega
theorem dnv_iso {u0 u v0 v w0 w : Int} (h0 : 0 < u0) (h : 0 < u) (hd : u ∣ u0) (h1 : v0 ≤ v) (h2 : w ≤ w0) : dnv u0 v0 ≤ dnv u v ∧ upv u w ≤ upv u0 w0 := by
  have a1 := dnv_fine (v := v0) h0 h hd
  have a2 := dnv_le (u := u) h h1
  have b1 := dnv_fine (v := -w0) h0 h hd
  have b2 := dnv_le (u := u) h (show -w0 ≤ -w by omega)
  unfold upv
  omega
theorem dn_iso {u0 u v0 v w0 w : Int} (h0 : 0 < u0) (h : 0 < u) (hd : u ∣ u0) (h1 : v0 ≤ v) (h2 : w ≤ w0) : dn u0 v0 ≤ dn u v ∧ up u w ≤ up u0 w0 := by
  have a1 := (dn_fine (t := v0) h0 h hd).1
  have a2 := dn_le (u := u) h h1
  have b1 := (dn_fine (t := w0) h0 h hd).2
  have b2 := up_le (u := u) h h2
  omega
/-- one stack in another -/
def INC (m : Nat) (B0 B : Nat → Int × Int) : Prop := ∀ i : Nat, i < m → INB (B0 i) (B i)
theorem INC_up {m m' i : Nat} {B0 B : Nat → Int × Int} {v0 v : Int × Int} (h : INC m B0 B) (hm : m' ≤ m ∨ (m' = m + 1 ∧ i = m)) (hv : INB v0 v) : INC m' (upB B0 i v0) (upB B i v) := by
  intro j hj
  by_cases e : j = i
  · rw [e, upB_eq, upB_eq]
    exact hv
  · rw [upB_ne e, upB_ne e]
    exact h j (by omega)
theorem AR_iso {u0 u a num : Int} {s m m0' m' : Nat} {X0 Y0 X Y : Int × Int} {B0 B B0' B' : Nat → Int × Int} (hu0 : UU u0) (hu : UU u) (hd : u ∣ u0) (hX : INB X0 X) (hY : INB Y0 Y) (g0 : ∀ i : Nat, i < m → GBX (B0 i)) (g : ∀ i : Nat, i < m → GBX (B i)) (hB : INC m B0 B) (h0 : AR u0 X0 Y0 a num s m B0 m0' B0') (h : AR u X Y a num s m B m' B') : m' = m0' ∧ INC m' B0' B' := by
  have p0 : 0 < u0 := by have := hu0.1; omega
  have p : 0 < u := by have := hu.1; omega
  have hOO : OOK a s → a ≠ 35 ∧ a ≠ 42 ∧ a ≠ 43 ∧ a ≠ 45 ∧ a ≠ 47 ∧ a ≠ 69 ∧ a ≠ 98 ∧ a ≠ 112 ∧ a ≠ 120 ∧ a ≠ 121 ∧ a ≠ 126 := fun q => by unfold OOK at q; omega
  rcases h0 with ⟨ha, e0, rfl⟩ | ⟨ha, e0, rfl⟩ | ⟨ha, e0, rfl⟩ | ⟨ha, e0, rfl⟩ | ⟨ha, hm, e0, rfl⟩ | ⟨ha, hm, e0, rfl⟩ | ⟨ha, hm, e0, rfl⟩ | ⟨ha, hm, e0, hz, rfl⟩ | ⟨ha, hm, e0, rfl⟩ | ⟨ha, hm, e0, rfl⟩ | ⟨ha, hm, e0, h108, t1, t2, ⟨c1, c2⟩, rfl⟩ <;> rcases h with ⟨hb, e1, rfl⟩ | ⟨hb, e1, rfl⟩ | ⟨hb, e1, rfl⟩ | ⟨hb, e1, rfl⟩ | ⟨hb, _, e1, rfl⟩ | ⟨hb, _, e1, rfl⟩ | ⟨hb, _, e1, rfl⟩ | ⟨hb, _, e1, hz2, rfl⟩ | ⟨hb, _, e1, rfl⟩ | ⟨hb, _, e1, rfl⟩ | ⟨hb, _, e1, h108', s1, s2, ⟨d1, d2⟩, rfl⟩ <;> try (exfalso; first | omega | (have q := hOO ha; omega) | (have q := hOO hb; omega))
  · exact ⟨by omega, INC_up hB (Or.inr ⟨e1, rfl⟩) (dn_iso p0 p hd (Int.le_refl _) (Int.le_refl _))⟩
  · exact ⟨by omega, INC_up hB (Or.inr ⟨e1, rfl⟩) (dn_iso p0 p hd (Int.le_refl _) (Int.le_refl _))⟩
  · exact ⟨by omega, INC_up hB (Or.inr ⟨e1, rfl⟩) hX⟩
  · exact ⟨by omega, INC_up hB (Or.inr ⟨e1, rfl⟩) hY⟩
  · have i1 := hB (m - 2) (by omega)
    have i2 := hB (m - 1) (by omega)
    unfold INB at i1 i2
    exact ⟨by omega, INC_up hB (Or.inl (by omega)) (dnv_iso p0 p hd (by omega) (by omega))⟩
  · have i1 := hB (m - 2) (by omega)
    have i2 := hB (m - 1) (by omega)
    unfold INB at i1 i2
    exact ⟨by omega, INC_up hB (Or.inl (by omega)) (dnv_iso p0 p hd (by omega) (by omega))⟩
  · have i1 := hB (m - 2) (by omega)
    have i2 := hB (m - 1) (by omega)
    have w := pd_iso (g (m - 2) (by omega)).2 (g (m - 1) (by omega)).2 i1 i2
    exact ⟨by omega, INC_up hB (Or.inl (by omega)) (dn_iso p0 p hd w.1 w.2)⟩
  · have i1 := hB (m - 2) (by omega)
    have i2 := hB (m - 1) (by omega)
    have w := qt_iso hz (g (m - 2) (by omega)).2 ⟨(g0 (m - 1) (by omega)).2, (g (m - 1) (by omega)).2⟩ i1 i2
    exact ⟨by omega, INC_up hB (Or.inl (by omega)) (dn_iso p0 p hd w.1 w.2)⟩
  · have i2 := hB (m - 1) (by omega)
    unfold INB at i2
    exact ⟨by omega, INC_up hB (Or.inl (by omega)) (dnv_iso p0 p hd (by omega) (by omega))⟩
  · have i2 := hB (m - 1) (by omega)
    have w := ab_iso (g (m - 1) (by omega)).2 i2
    exact ⟨by omega, INC_up hB (Or.inl (by omega)) (dnv_iso p0 p hd w.1 w.2)⟩
  · have i2 := hB (m - 1) (by omega)
    obtain ⟨⟨n1, n2⟩, o1⟩ := g (m - 1) (by omega)
    obtain ⟨⟨n01, n02⟩, o01⟩ := g0 (m - 1) (by omega)
    have w := ab_iso o1 i2
    have ar := ab_r n1 n2
    have ar0 := ab_r n01 n02
    have an := ab_n o1
    have an0 := ab_n o01
    have ao := ab_o o1
    have hh : t1 ≤ s1 ∧ s2 ≤ t2 := by
      by_cases he2 : a = 94 ∧ s % 2 = 0
      · unfold oLo at c1 d1
        unfold oHi at c2 d2
        rw [if_pos he2] at c1 c2 d1 d2
        exact ⟨COE_le ha ⟨ar0.1, ar.1⟩ w.1 (fun _ _ => an0) (fun q => by omega) c1 d1, COE_le ha ⟨ar.2, ar0.2⟩ w.2 (fun _ _ => by omega) (fun q => by omega) d2 c2⟩
      · unfold oLo at c1 d1
        unfold oHi at c2 d2
        rw [if_neg he2] at c1 c2 d1 d2
        refine ⟨COE_le ha ⟨n01, n1⟩ i2.1 (fun q q2 => absurd ⟨q, q2⟩ he2) h108 c1 d1, COE_le ha ⟨n2, n02⟩ i2.2 (fun q q2 => absurd ⟨q, q2⟩ he2) (fun q => ?_) d2 c2⟩
        have := h108' q
        omega
    exact ⟨by omega, INC_up hB (Or.inl (by omega)) (dn_iso p0 p hd hh.1 hh.2)⟩
