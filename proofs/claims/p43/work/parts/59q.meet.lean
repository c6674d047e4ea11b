/-! THE MODEL: two values of one formula over boxes that meet do meet. -/
theorem rdv_mono {up p q : Int} {m : Nat} (h : p ≤ q) : rdv up p (m : Int) ≤ rdv up q (m : Int) := by
  unfold rdv
  by_cases hm : m = 0
  · subst hm
    split
    · show p / (0 : Int) ≤ q / (0 : Int)
      rw [Int.ediv_zero, Int.ediv_zero]
      decide
    · show -((-p) / (0 : Int)) ≤ -((-q) / (0 : Int))
      rw [Int.ediv_zero, Int.ediv_zero]
      decide
  have hm0 : (0 : Int) < (m : Int) := by omega
  split
  · exact Int.ediv_le_ediv hm0 h
  · have := Int.ediv_le_ediv hm0 (show -q ≤ -p by omega)
    omega
theorem rdv_cross {p q : Int} {m k : Nat} (hm : 0 < m) (hk : 0 < k) (h : p * (k : Int) ≤ q * (m : Int)) : rdv 0 p (m : Int) ≤ rdv 1 q (k : Int) := by
  have hm0 : (0 : Int) < (m : Int) := by omega
  have hk0 : (0 : Int) < (k : Int) := by omega
  unfold rdv
  rw [if_pos rfl, if_neg (by decide)]
  have h1 : p / (m : Int) * (m : Int) ≤ p := Int.ediv_mul_le p (by omega)
  have h2 : (-q) / (k : Int) * (k : Int) ≤ -q := Int.ediv_mul_le (-q) (by omega)
  generalize p / (m : Int) = f at h1 ⊢
  generalize (-q) / (k : Int) = g at h2 ⊢
  have h3 : f * (m : Int) * (k : Int) ≤ p * (k : Int) := Int.mul_le_mul_of_nonneg_right h1 (by omega)
  have h4 : g * (k : Int) * (m : Int) ≤ -q * (m : Int) := Int.mul_le_mul_of_nonneg_right h2 (by omega)
  rw [Int.neg_mul] at h4
  have h5 : f * ((m : Int) * (k : Int)) ≤ -(g * ((m : Int) * (k : Int))) := by
    rw [← Int.mul_assoc, Int.mul_comm (m : Int) (k : Int), ← Int.mul_assoc]
    omega
  have h6 : f * ((m : Int) * (k : Int)) ≤ (-g) * ((m : Int) * (k : Int)) := by rw [Int.neg_mul]; exact h5
  exact Int.le_of_mul_le_mul_right h6 (Int.mul_pos hm0 hk0)
/-- a corner that is no greater than the product, and one that is no less -/
theorem corner_lo {l1 h1 l2 h2 a b : Int} (ha : l1 ≤ a ∧ a ≤ h1) (hb : l2 ≤ b ∧ b ≤ h2) : l1 * l2 ≤ a * b ∨ h1 * l2 ≤ a * b ∨ l1 * h2 ≤ a * b ∨ h1 * h2 ≤ a * b := by
  by_cases b0 : 0 ≤ b
  · have k1 : l1 * b ≤ a * b := Int.mul_le_mul_of_nonneg_right ha.1 b0
    by_cases l0 : 0 ≤ l1
    · have := Int.mul_le_mul_of_nonneg_left hb.1 l0
      omega
    · have := Int.mul_le_mul_of_nonpos_left (a := l1) (show l1 ≤ 0 by omega) hb.2
      omega
  · have k1 : h1 * b ≤ a * b := Int.mul_le_mul_of_nonpos_right ha.2 (show b ≤ 0 by omega)
    by_cases l0 : 0 ≤ h1
    · have := Int.mul_le_mul_of_nonneg_left hb.1 l0
      omega
    · have := Int.mul_le_mul_of_nonpos_left (a := h1) (show h1 ≤ 0 by omega) hb.2
      omega
theorem corner_hi {l1 h1 l2 h2 a b : Int} (ha : l1 ≤ a ∧ a ≤ h1) (hb : l2 ≤ b ∧ b ≤ h2) : a * b ≤ l1 * l2 ∨ a * b ≤ h1 * l2 ∨ a * b ≤ l1 * h2 ∨ a * b ≤ h1 * h2 := by
  have := corner_lo (l1 := -h1) (h1 := -l1) (l2 := l2) (h2 := h2) (a := -a) (b := b) (by omega) hb
  rw [Int.neg_mul, Int.neg_mul, Int.neg_mul, Int.neg_mul, Int.neg_mul] at this
  omega
theorem mn4_c {D : Nat} {iq l1 h1 l2 h2 : Int} : mn4 D iq l1 h1 l2 h2 ≤ pr D iq 0 l1 l2 ∧ mn4 D iq l1 h1 l2 h2 ≤ pr D iq 0 h1 l2 ∧ mn4 D iq l1 h1 l2 h2 ≤ pr D iq 0 l1 h2 ∧ mn4 D iq l1 h1 l2 h2 ≤ pr D iq 0 h1 h2 := by
  have hl : ∀ c x : Int, imn c x ≤ c := fun c x => by unfold imn; split <;> omega
  unfold mn4
  exact ⟨Int.le_trans (hl _ _) (Int.le_trans (hl _ _) (hl _ _)), Int.le_trans (hl _ _) (Int.le_trans (hl _ _) imn_r), Int.le_trans (hl _ _) imn_r, imn_r⟩
theorem mx4_c {D : Nat} {iq l1 h1 l2 h2 : Int} : pr D iq 1 l1 l2 ≤ mx4 D iq l1 h1 l2 h2 ∧ pr D iq 1 h1 l2 ≤ mx4 D iq l1 h1 l2 h2 ∧ pr D iq 1 l1 h2 ≤ mx4 D iq l1 h1 l2 h2 ∧ pr D iq 1 h1 h2 ≤ mx4 D iq l1 h1 l2 h2 := by
  unfold mx4
  exact ⟨Int.le_trans imx_l (Int.le_trans imx_l imx_l), Int.le_trans imx_r (Int.le_trans imx_l imx_l), Int.le_trans imx_r imx_l, imx_r⟩
theorem pr0_le {D : Nat} {x y x' y' : Int} (h : x * y ≤ x' * y') : pr D 0 0 x y ≤ pr D 0 1 x' y' := by
  unfold pr
  rw [if_pos rfl, if_pos rfl]
  exact Int.mul_le_mul_of_nonneg_left (rdv_le h) (Int.le_of_lt (uu_pos D))
theorem mul_meet {D : Nat} {l1 h1 l2 h2 k1 g1 k2 g2 : Int} (a1 : l1 ≤ h1) (a2 : l2 ≤ h2) (b1 : k1 ≤ g1) (b2 : k2 ≤ g2) (c1 : l1 ≤ g1) (c2 : k1 ≤ h1) (c3 : l2 ≤ g2) (c4 : k2 ≤ h2) : mn4 D 0 l1 h1 l2 h2 ≤ mx4 D 0 k1 g1 k2 g2 := by
  obtain ⟨a, ha, ha'⟩ : ∃ a : Int, (l1 ≤ a ∧ a ≤ h1) ∧ (k1 ≤ a ∧ a ≤ g1) := by
    by_cases h : l1 ≤ k1
    · exact ⟨k1, by omega, by omega⟩
    · exact ⟨l1, by omega, by omega⟩
  obtain ⟨b, hb, hb'⟩ : ∃ b : Int, (l2 ≤ b ∧ b ≤ h2) ∧ (k2 ≤ b ∧ b ≤ g2) := by
    by_cases h : l2 ≤ k2
    · exact ⟨k2, by omega, by omega⟩
    · exact ⟨l2, by omega, by omega⟩
  have m := mn4_c (D := D) (iq := 0) (l1 := l1) (h1 := h1) (l2 := l2) (h2 := h2)
  have x := mx4_c (D := D) (iq := 0) (l1 := k1) (h1 := g1) (l2 := k2) (h2 := g2)
  have key : ∀ p q p' q' : Int, mn4 D 0 l1 h1 l2 h2 ≤ pr D 0 0 p q → pr D 0 1 p' q' ≤ mx4 D 0 k1 g1 k2 g2 → p * q ≤ a * b → a * b ≤ p' * q' → mn4 D 0 l1 h1 l2 h2 ≤ mx4 D 0 k1 g1 k2 g2 := fun p q p' q' t1 t2 t3 t4 => Int.le_trans t1 (Int.le_trans (pr0_le (Int.le_trans t3 t4)) t2)
  rcases corner_lo ha hb with u | u | u | u <;> rcases corner_hi ha' hb' with w | w | w | w
  · exact key _ _ _ _ m.1 x.1 u w
  · exact key _ _ _ _ m.1 x.2.1 u w
  · exact key _ _ _ _ m.1 x.2.2.1 u w
  · exact key _ _ _ _ m.1 x.2.2.2 u w
  · exact key _ _ _ _ m.2.1 x.1 u w
  · exact key _ _ _ _ m.2.1 x.2.1 u w
  · exact key _ _ _ _ m.2.1 x.2.2.1 u w
  · exact key _ _ _ _ m.2.1 x.2.2.2 u w
  · exact key _ _ _ _ m.2.2.1 x.1 u w
  · exact key _ _ _ _ m.2.2.1 x.2.1 u w
  · exact key _ _ _ _ m.2.2.1 x.2.2.1 u w
  · exact key _ _ _ _ m.2.2.1 x.2.2.2 u w
  · exact key _ _ _ _ m.2.2.2 x.1 u w
  · exact key _ _ _ _ m.2.2.2 x.2.1 u w
  · exact key _ _ _ _ m.2.2.2 x.2.2.1 u w
  · exact key _ _ _ _ m.2.2.2 x.2.2.2 u w
/-- of quotients: (p · sgn q) / |q| -/
def qp (x y : Int) : Int := x * sgn y
theorem pr1_le {D : Nat} {x y x' y' : Int} (hy : y ≠ 0) (hy' : y' ≠ 0) (h : qp x y * (y'.natAbs : Int) ≤ qp x' y' * (y.natAbs : Int)) : pr D 1 0 x y ≤ pr D 1 1 x' y' := by
  unfold pr
  rw [if_neg (by decide), if_neg (by decide)]
  refine Int.mul_le_mul_of_nonneg_left (rdv_cross (by omega) (by omega) ?_) (Int.le_of_lt (uu_pos D))
  have ht : (0 : Int) ≤ ((tn D : Nat) : Int) := by omega
  have := Int.mul_le_mul_of_nonneg_left h ht
  unfold qp at this
  have e1 : ((tn D : Nat) : Int) * (x * sgn y * (y'.natAbs : Int)) = x * ((tn D : Nat) : Int) * sgn y * (y'.natAbs : Int) := by
    rw [← Int.mul_assoc, ← Int.mul_assoc, Int.mul_comm ((tn D : Nat) : Int) x]
  have e2 : ((tn D : Nat) : Int) * (x' * sgn y' * (y.natAbs : Int)) = x' * ((tn D : Nat) : Int) * sgn y' * (y.natAbs : Int) := by
    rw [← Int.mul_assoc, ← Int.mul_assoc, Int.mul_comm ((tn D : Nat) : Int) x']
  rw [e1, e2] at this
  exact this
/-- p / q ≤ r / s for positive q, s, written without division -/
def fle (p q r s : Int) : Prop := p * s ≤ r * q
theorem fle_tr {p q r s t u : Int} (hq : 0 < q) (hs : 0 < s) (hu : 0 < u) (h1 : fle p q r s) (h2 : fle r s t u) : fle p q t u := by
  unfold fle at *
  have k1 := Int.mul_le_mul_of_nonneg_right h1 (Int.le_of_lt hu)
  have k2 := Int.mul_le_mul_of_nonneg_right h2 (Int.le_of_lt hq)
  have k3 : p * u * s ≤ t * q * s := by
    have e1 : p * s * u = p * u * s := by rw [Int.mul_assoc, Int.mul_comm s u, ← Int.mul_assoc]
    have e2 : r * q * u = r * u * q := by rw [Int.mul_assoc, Int.mul_comm q u, ← Int.mul_assoc]
    have e3 : t * s * q = t * q * s := by rw [Int.mul_assoc, Int.mul_comm s q, ← Int.mul_assoc]
    omega
  exact Int.le_of_mul_le_mul_right k3 hs
/-- numerators in [l, h], positive denominators in [m, w] -/
theorem fcorner {l h m w a b : Int} (ha : l ≤ a ∧ a ≤ h) (hb : m ≤ b ∧ b ≤ w) (hm : 0 < m) : (fle l m a b ∨ fle l w a b) ∧ (fle a b h m ∨ fle a b h w) := by
  unfold fle
  constructor
  · by_cases l0 : 0 ≤ l
    · right
      have k1 := Int.mul_le_mul_of_nonneg_left hb.2 l0
      have k2 := Int.mul_le_mul_of_nonneg_right ha.1 (show 0 ≤ w by omega)
      omega
    · left
      have k1 := Int.mul_le_mul_of_nonpos_left (a := l) (show l ≤ 0 by omega) hb.1
      have k2 := Int.mul_le_mul_of_nonneg_right ha.1 (show 0 ≤ m by omega)
      omega
  · by_cases h0 : 0 ≤ h
    · left
      have k1 := Int.mul_le_mul_of_nonneg_left hb.1 h0
      have k2 := Int.mul_le_mul_of_nonneg_right ha.2 (show 0 ≤ m by omega)
      omega
    · right
      have k1 := Int.mul_le_mul_of_nonpos_left (a := h) (show h ≤ 0 by omega) hb.2
      have k2 := Int.mul_le_mul_of_nonneg_right ha.2 (show 0 ≤ w by omega)
      omega
theorem div_meet {D : Nat} {l1 h1 l2 h2 k1 g1 k2 g2 : Int} (a1 : l1 ≤ h1) (a2 : l2 ≤ h2) (b1 : k1 ≤ g1) (b2 : k2 ≤ g2) (c1 : l1 ≤ g1) (c2 : k1 ≤ h1) (c3 : l2 ≤ g2) (c4 : k2 ≤ h2) (n1 : 0 < l2 ∨ h2 < 0) (n2 : 0 < k2 ∨ g2 < 0) : mn4 D 1 l1 h1 l2 h2 ≤ mx4 D 1 k1 g1 k2 g2 := by
  obtain ⟨a, ha, ha'⟩ : ∃ a : Int, (l1 ≤ a ∧ a ≤ h1) ∧ (k1 ≤ a ∧ a ≤ g1) := by
    by_cases h : l1 ≤ k1
    · exact ⟨k1, by omega, by omega⟩
    · exact ⟨l1, by omega, by omega⟩
  obtain ⟨b, hb, hb'⟩ : ∃ b : Int, (l2 ≤ b ∧ b ≤ h2) ∧ (k2 ≤ b ∧ b ≤ g2) := by
    by_cases h : l2 ≤ k2
    · exact ⟨k2, by omega, by omega⟩
    · exact ⟨l2, by omega, by omega⟩
  have m := mn4_c (D := D) (iq := 1) (l1 := l1) (h1 := h1) (l2 := l2) (h2 := h2)
  have x := mx4_c (D := D) (iq := 1) (l1 := k1) (h1 := g1) (l2 := k2) (h2 := g2)
  have key : ∀ p q p' q' : Int, q ≠ 0 → q' ≠ 0 → mn4 D 1 l1 h1 l2 h2 ≤ pr D 1 0 p q → pr D 1 1 p' q' ≤ mx4 D 1 k1 g1 k2 g2 → fle (qp p q) (q.natAbs : Int) (qp p' q') (q'.natAbs : Int) → mn4 D 1 l1 h1 l2 h2 ≤ mx4 D 1 k1 g1 k2 g2 := fun p q p' q' z1 z2 t1 t2 t3 => Int.le_trans t1 (Int.le_trans (pr1_le z1 z2 t3) t2)
  have sp : ∀ y : Int, 0 < y → ∀ x : Int, qp x y = x ∧ (y.natAbs : Int) = y := fun y hy x => by
    unfold qp sgn
    rw [if_neg (by omega)]
    omega
  have sn : ∀ y : Int, y < 0 → ∀ x : Int, qp x y = -x ∧ (y.natAbs : Int) = -y := fun y hy x => by
    unfold qp sgn
    rw [if_pos hy]
    omega
  rcases n1 with n1 | n1
  · have n2 : 0 < k2 := by omega
    have u := (fcorner ha hb n1).1
    have w := (fcorner ha' hb' n2).2
    have go : ∀ q q' : Int, 0 < q → 0 < q' → mn4 D 1 l1 h1 l2 h2 ≤ pr D 1 0 l1 q → pr D 1 1 g1 q' ≤ mx4 D 1 k1 g1 k2 g2 → fle l1 q a b → fle a b g1 q' → mn4 D 1 l1 h1 l2 h2 ≤ mx4 D 1 k1 g1 k2 g2 := by
      intro q q' z1 z2 t1 t2 t3 t4
      refine key l1 q g1 q' (by omega) (by omega) t1 t2 ?_
      rw [(sp q z1 l1).1, (sp q z1 l1).2, (sp q' z2 g1).1, (sp q' z2 g1).2]
      exact fle_tr z1 (show 0 < b by omega) z2 t3 t4
    rcases u with u | u <;> rcases w with w | w
    · exact go l2 k2 n1 n2 m.1 x.2.1 u w
    · exact go l2 g2 n1 (by omega) m.1 x.2.2.2 u w
    · exact go h2 k2 (by omega) n2 m.2.2.1 x.2.1 u w
    · exact go h2 g2 (by omega) (by omega) m.2.2.1 x.2.2.2 u w
  · have n2 : g2 < 0 := by omega
    have u := (fcorner (l := -h1) (h := -l1) (m := -h2) (w := -l2) (a := -a) (b := -b) (by omega) (by omega) (by omega)).1
    have w := (fcorner (l := -g1) (h := -k1) (m := -g2) (w := -k2) (a := -a) (b := -b) (by omega) (by omega) (by omega)).2
    have go : ∀ q q' : Int, q < 0 → q' < 0 → mn4 D 1 l1 h1 l2 h2 ≤ pr D 1 0 h1 q → pr D 1 1 k1 q' ≤ mx4 D 1 k1 g1 k2 g2 → fle (-h1) (-q) (-a) (-b) → fle (-a) (-b) (-k1) (-q') → mn4 D 1 l1 h1 l2 h2 ≤ mx4 D 1 k1 g1 k2 g2 := by
      intro q q' z1 z2 t1 t2 t3 t4
      refine key h1 q k1 q' (by omega) (by omega) t1 t2 ?_
      rw [(sn q z1 h1).1, (sn q z1 h1).2, (sn q' z2 k1).1, (sn q' z2 k1).2]
      exact fle_tr (by omega) (show 0 < -b by omega) (by omega) t3 t4
    rcases u with u | u <;> rcases w with w | w
    · exact go h2 g2 n1 n2 m.2.2.2 x.2.2.1 u w
    · exact go h2 k2 n1 (by omega) m.2.2.2 x.1 u w
    · exact go l2 g2 (by omega) n2 m.2.1 x.2.2.1 u w
    · exact go l2 k2 (by omega) (by omega) m.2.1 x.1 u w
theorem pwr_mono {D k : Nat} {up x y : Int} (h : x ^ k ≤ y ^ k) : pwr up D k x ≤ pwr up D k y := by
  unfold pwr
  exact Int.mul_le_mul_of_nonneg_left (rdv_mono h) (Int.le_of_lt (uu_pos D))
theorem lf_meet {D k : Nat} {l h l' h' : Int} (a1 : l ≤ h) (b1 : l' ≤ h') (c1 : l ≤ h') (c2 : l' ≤ h) : lfL D k l h ≤ lfH D k l' h' := by
  by_cases h0 : k = 0
  · unfold lfL lfH
    rw [if_pos h0, if_pos h0]
    exact Int.le_refl _
  obtain ⟨a, ha, ha'⟩ : ∃ a : Int, (l ≤ a ∧ a ≤ h) ∧ (l' ≤ a ∧ a ≤ h') := by
    by_cases h : l ≤ l'
    · exact ⟨l', by omega, by omega⟩
    · exact ⟨l, by omega, by omega⟩
  have k1 : lfL D k l h ≤ pwr 1 D k a := by
    unfold lfL
    rw [if_neg h0]
    by_cases h1 : k % 2 = 0 ∧ h < 0
    · rw [if_pos h1]
      exact pwr_le (pow_ev h1.1 ha.2 h1.2)
    rw [if_neg h1]
    by_cases h2 : k % 2 = 0 ∧ l < 0
    · rw [if_pos h2]
      unfold pwr
      exact Int.mul_nonneg (Int.le_of_lt (uu_pos D)) (rdv_0 (pow_sign.2.1 h2.1))
    rw [if_neg h2]
    refine pwr_le ?_
    by_cases h3 : k % 2 = 0
    · exact pow_up k (by omega) ha.1
    · exact pow_odd (by omega) ha.1
  refine Int.le_trans k1 ?_
  unfold lfH
  rw [if_neg h0]
  by_cases h1 : k % 2 = 0 ∧ h' < 0
  · rw [if_pos h1]
    exact pwr_mono (pow_ev h1.1 ha'.1 (by omega))
  rw [if_neg h1]
  by_cases h2 : k % 2 = 0 ∧ l' < 0
  · rw [if_pos h2]
    by_cases a0 : 0 ≤ a
    · exact Int.le_trans (pwr_mono (pow_up k a0 ha'.2)) imx_l
    · exact Int.le_trans (pwr_mono (pow_ev h2.1 ha'.1 (by omega))) imx_r
  rw [if_neg h2]
  refine pwr_mono ?_
  by_cases h3 : k % 2 = 0
  · exact pow_up k (by omega) ha'.2
  · exact pow_odd (by omega) ha'.2
/-- what an act of two boxes comes to -/
def AC (D : Nat) (c l1 h1 l2 h2 lo hi : Int) : Prop := (c = 43 ∧ lo = flo (uu D) (l1 + l2) ∧ hi = cei (uu D) (h1 + h2)) ∨ (c = 45 ∧ lo = flo (uu D) (l1 - h2) ∧ hi = cei (uu D) (h1 - l2)) ∨ (c = 42 ∧ lo = mn4 D 0 l1 h1 l2 h2 ∧ hi = mx4 D 0 l1 h1 l2 h2) ∨ (c = 47 ∧ (0 < l2 ∨ h2 < 0) ∧ lo = mn4 D 1 l1 h1 l2 h2 ∧ hi = mx4 D 1 l1 h1 l2 h2)
theorem AC_meet {D : Nat} {c l1 h1 l2 h2 k1 g1 k2 g2 lo hi lo' hi' : Int} (a1 : l1 ≤ h1) (a2 : l2 ≤ h2) (b1 : k1 ≤ g1) (b2 : k2 ≤ g2) (c1 : l1 ≤ g1) (c2 : k1 ≤ h1) (c3 : l2 ≤ g2) (c4 : k2 ≤ h2) (hA : AC D c l1 h1 l2 h2 lo hi) (hB : AC D c k1 g1 k2 g2 lo' hi') : lo ≤ hi' := by
  unfold AC at hA hB
  rcases hA with ⟨e, u1, u2⟩ | ⟨e, u1, u2⟩ | ⟨e, u1, u2⟩ | ⟨e, n1, u1, u2⟩ <;> rcases hB with ⟨e', w1, w2⟩ | ⟨e', w1, w2⟩ | ⟨e', w1, w2⟩ | ⟨e', n2, w1, w2⟩
  all_goals first
    | (exfalso; omega)
    | skip
  · rw [u1, w2]; exact fc_le (uu_pos D) (by omega)
  · rw [u1, w2]; exact fc_le (uu_pos D) (by omega)
  · rw [u1, w2]; exact mul_meet a1 a2 b1 b2 c1 c2 c3 c4
  · rw [u1, w2]; exact div_meet a1 a2 b1 b2 c1 c2 c3 c4 n1 n2
/-- a part of a formula comes to a box: x in [xl, xh], y in [yl, yh] -/
def EV (M : tM) (D : Nat) (xl xh yl yh : Int) (q : Nat) (p lo hi : Int) : Prop := match q with
  | 0 => False
  | q + 1 => (M 680 p = 49 ∧ ∃ x s : Nat, M 684 p = (x : Int) ∧ M 683 p = (s : Int) ∧ lo = nbv 0 D s x 0 ∧ hi = nbv 1 D s x 0)
    ∨ (M 680 p = 112 ∧ lo = deepb 0 D (kno 1) 0 ∧ hi = deepb 1 D (kno 1) 0)
    ∨ (M 680 p = 120 ∧ lo = xl ∧ hi = xh)
    ∨ (M 680 p = 121 ∧ lo = yl ∧ hi = yh)
    ∨ (M 680 p = 94 ∧ ∃ (l h : Int) (k : Nat), EV M D xl xh yl yh q (M 681 p) l h ∧ l ≤ h ∧ M 682 p = (k : Int) ∧ lo = lfL D k l h ∧ hi = lfH D k l h)
    ∨ (M 680 p = 110 ∧ ∃ l h : Int, EV M D xl xh yl yh q (M 681 p) l h ∧ lo = flo (uu D) (-h) ∧ hi = cei (uu D) (-l))
    ∨ (M 680 p = 114 ∧ ∃ l h : Int, EV M D xl xh yl yh q (M 681 p) l h ∧ lo = rtb 0 D 2 l.toNat ∧ hi = rtb 1 D 2 h.toNat)
    ∨ ((M 680 p = 101 ∨ M 680 p = 108 ∨ M 680 p = 97) ∧ ∃ l h : Int, EV M D xl xh yl yh q (M 681 p) l h ∧ (M 680 p = 108 → 0 < l) ∧ (-30000000000000000000000 ≤ l ∧ h ≤ 30000000000000000000000) ∧ lo = fnb (M 680 p) 0 D l ∧ hi = fnb (M 680 p) 1 D h)
    ∨ ((M 680 p = 43 ∨ M 680 p = 45 ∨ M 680 p = 42 ∨ M 680 p = 47) ∧ ∃ l1 h1 l2 h2 : Int, EV M D xl xh yl yh q (M 681 p) l1 h1 ∧ EV M D xl xh yl yh q (M 682 p) l2 h2 ∧ l1 ≤ h1 ∧ l2 ≤ h2 ∧ AC D (M 680 p) l1 h1 l2 h2 lo hi)
theorem EV_meet {M : tM} {D : Nat} {xl xh yl yh xl' xh' yl' yh' : Int} (hD : D ≤ 10) (c1 : xl ≤ xh') (c2 : xl' ≤ xh) (c3 : yl ≤ yh') (c4 : yl' ≤ yh) : ∀ (q : Nat) (p lo hi lo' hi' : Int), EV M D xl xh yl yh q p lo hi → EV M D xl' xh' yl' yh' q p lo' hi' → lo ≤ hi' ∧ lo' ≤ hi := by
  intro q
  induction q with
  | zero => intro p lo hi lo' hi' h; exact h.elim
  | succ q ih =>
    intro p lo hi lo' hi' hA hB
    unfold EV at hA hB
    rcases hA with ⟨e, x, s, u1, u2, u3, u4⟩ | ⟨e, u1, u2⟩ | ⟨e, u1, u2⟩ | ⟨e, u1, u2⟩ | ⟨e, l, h, k, u1, u2, u3, u4, u5⟩ | ⟨e, l, h, u1, u2, u3⟩ | ⟨e, l, h, u1, u2, u3⟩ | ⟨e, l, h, u1, u2, u3, u4, u5⟩ | ⟨e, l1, h1, l2, h2, u1, u2, u3, u4, u5⟩ <;>
      rcases hB with ⟨e', x', s', w1, w2, w3, w4⟩ | ⟨e', w1, w2⟩ | ⟨e', w1, w2⟩ | ⟨e', w1, w2⟩ | ⟨e', l', h', k', w1, w2, w3, w4, w5⟩ | ⟨e', l', h', w1, w2, w3⟩ | ⟨e', l', h', w1, w2, w3⟩ | ⟨e', l', h', w1, w2, w3, w4, w5⟩ | ⟨e', k1, g1, k2, g2, w1, w2, w3, w4, w5⟩
    all_goals first
      | (exfalso; clear ih; omega)
      | skip
    · have ex : x' = x := by omega
      have es : s' = s := by omega
      subst ex; subst es
      rw [u3, u4, w3, w4]
      exact ⟨nbv_le D s' x' (Or.inl rfl), nbv_le D s' x' (Or.inl rfl)⟩
    · rw [u1, u2, w1, w2]
      exact ⟨deepb_le, deepb_le⟩
    · omega
    · omega
    · have ek : k' = k := by omega
      subst ek
      have t := ih _ _ _ _ _ u1 w1
      rw [u4, u5, w4, w5]
      exact ⟨lf_meet u2 w2 t.1 t.2, lf_meet w2 u2 t.2 t.1⟩
    · have t := ih _ _ _ _ _ u1 w1
      rw [u2, u3, w2, w3]
      exact ⟨fc_le (uu_pos D) (by omega), fc_le (uu_pos D) (by omega)⟩
    · have t := ih _ _ _ _ _ u1 w1
      rw [u2, u3, w2, w3]
      exact ⟨rtb_le (by decide) (by omega), rtb_le (by decide) (by omega)⟩
    · have t := ih _ _ _ _ _ u1 w1
      rw [u4, u5, w4, w5]
      exact ⟨fnb_le hD t.1 u3.1 w3.2 u2, fnb_le hD t.2 w3.1 u3.2 w2⟩
    · have t := ih _ _ _ _ _ u1 w1
      have v := ih _ _ _ _ _ u2 w2
      exact ⟨AC_meet u3 u4 w3 w4 t.1 t.2 v.1 v.2 u5 w5, AC_meet w3 w4 u3 u4 t.2 t.1 v.2 v.1 w5 u5⟩
theorem EV_same {M M' : tM} {D : Nat} {xl xh yl yh : Int} (h : ∀ (k : Nat) (i : Int), 680 ≤ k ∧ k ≤ 684 → M' k i = M k i) : ∀ (q : Nat) (p lo hi : Int), EV M D xl xh yl yh q p lo hi → EV M' D xl xh yl yh q p lo hi := by
  intro q
  induction q with
  | zero => intro p lo hi h; exact h.elim
  | succ q ih =>
    intro p lo hi hA
    unfold EV at hA ⊢
    rw [h 680 p (by omega), h 681 p (by omega), h 682 p (by omega), h 683 p (by omega), h 684 p (by omega)]
    rcases hA with u | u | u | u | ⟨e, l, h, k, u1, u2⟩ | ⟨e, l, h, u1, u2⟩ | ⟨e, l, h, u1, u2⟩ | ⟨e, l, h, u1, u2⟩ | ⟨e, l1, h1, l2, h2, u1, u2, u3⟩
    · exact Or.inl u
    · exact Or.inr (Or.inl u)
    · exact Or.inr (Or.inr (Or.inl u))
    · exact Or.inr (Or.inr (Or.inr (Or.inl u)))
    · exact Or.inr (Or.inr (Or.inr (Or.inr (Or.inl ⟨e, l, h, k, ih _ _ _ u1, u2⟩))))
    · exact Or.inr (Or.inr (Or.inr (Or.inr (Or.inr (Or.inl ⟨e, l, h, ih _ _ _ u1, u2⟩)))))
    · exact Or.inr (Or.inr (Or.inr (Or.inr (Or.inr (Or.inr (Or.inl ⟨e, l, h, ih _ _ _ u1, u2⟩))))))
    · exact Or.inr (Or.inr (Or.inr (Or.inr (Or.inr (Or.inr (Or.inr (Or.inl ⟨e, l, h, ih _ _ _ u1, u2⟩)))))))
    · exact Or.inr (Or.inr (Or.inr (Or.inr (Or.inr (Or.inr (Or.inr (Or.inr ⟨e, l1, h1, l2, h2, ih _ _ _ u1, ih _ _ _ u2, u3⟩)))))))
