/-! THE MODEL: low is never above high. -/
theorem flo_up {U z : Int} (hU : 0 < U) : flo U z ≤ z := by
  unfold flo
  have := Int.emod_nonneg z (show U ≠ 0 by omega)
  omega
theorem cei_up {U z : Int} (hU : 0 < U) : z ≤ cei U z := by
  unfold cei
  have := Int.emod_lt_of_pos z hU
  split <;> omega
theorem fc_le {U x y : Int} (hU : 0 < U) (h : x ≤ y) : flo U x ≤ cei U y := Int.le_trans (flo_up hU) (Int.le_trans h (cei_up hU))
theorem rdv_le {p q : Int} {m : Nat} (h : p ≤ q) : rdv 0 p (m : Int) ≤ rdv 1 q (m : Int) := by
  unfold rdv
  rw [if_pos rfl, if_neg (by decide)]
  by_cases hm : m = 0
  · subst hm
    show p / (0 : Int) ≤ -((-q) / (0 : Int))
    rw [Int.ediv_zero, Int.ediv_zero]
    decide
  · have hm0 : (0 : Int) < (m : Int) := by omega
    have h1 := Int.mul_ediv_self_le (x := p) (k := (m : Int)) (by omega)
    have h2 := Int.mul_ediv_self_le (x := -q) (k := (m : Int)) (by omega)
    generalize p / (m : Int) = a at h1 ⊢
    generalize (-q) / (m : Int) = b at h2 ⊢
    apply Classical.byContradiction
    intro hc
    have h3 : 1 ≤ a + b := by omega
    have h4 := Int.mul_le_mul_of_nonneg_left h3 (show (0 : Int) ≤ (m : Int) by omega)
    rw [Int.mul_add, Int.mul_one] at h4
    omega
theorem rdv_0 {q : Int} {m : Nat} (h : 0 ≤ q) : 0 ≤ rdv 1 q (m : Int) := by
  have := rdv_le (m := m) h
  have h0 : rdv 0 0 (m : Int) = 0 := by
    unfold rdv
    rw [if_pos rfl, Int.zero_ediv]
  omega
theorem pr_le {D : Nat} {iq x y : Int} : pr D iq 0 x y ≤ pr D iq 1 x y := by
  have hu := Int.le_of_lt (uu_pos D)
  unfold pr
  split
  · exact Int.mul_le_mul_of_nonneg_left (rdv_le (Int.le_refl _)) hu
  · exact Int.mul_le_mul_of_nonneg_left (rdv_le (Int.le_refl _)) hu
theorem imn_r {c x : Int} : imn c x ≤ x := by unfold imn; split <;> omega
theorem imx_r {c x : Int} : x ≤ imx c x := by unfold imx; split <;> omega
theorem imx_l {c x : Int} : c ≤ imx c x := by unfold imx; split <;> omega
theorem mn4_le {D : Nat} {iq l1 h1 l2 h2 : Int} : mn4 D iq l1 h1 l2 h2 ≤ mx4 D iq l1 h1 l2 h2 := Int.le_trans imn_r (Int.le_trans pr_le imx_r)
theorem pow_up {l h : Int} (k : Nat) (h0 : 0 ≤ l) (hl : l ≤ h) : l ^ k ≤ h ^ k := by
  induction k with
  | zero => rw [Int.pow_zero, Int.pow_zero]; exact Int.le_refl _
  | succ k ih =>
    rw [Int.pow_succ, Int.pow_succ]
    exact Int.mul_le_mul ih hl h0 (Int.pow_nonneg (by omega))
theorem neg_pw (x : Int) (k : Nat) : (k % 2 = 0 → (-x) ^ k = x ^ k) ∧ (k % 2 = 1 → (-x) ^ k = -(x ^ k)) := by
  induction k with
  | zero => exact ⟨fun _ => by rw [Int.pow_zero, Int.pow_zero], fun h => absurd h (by decide)⟩
  | succ k ih =>
    rw [Int.pow_succ, Int.pow_succ]
    refine ⟨fun h => ?_, fun h => ?_⟩
    · rw [ih.2 (by omega), Int.neg_mul_neg]
    · rw [ih.1 (by omega), Int.mul_neg]
theorem pow_odd {l h : Int} {k : Nat} (hk : k % 2 = 1) (hl : l ≤ h) : l ^ k ≤ h ^ k := by
  by_cases h0 : 0 ≤ l
  · exact pow_up k h0 hl
  by_cases h1 : 0 ≤ h
  · exact Int.le_trans (pow_sign.1 hk (by omega)) (pow_sign.2.2 h1)
  · have g := pow_up k (l := -h) (h := -l) (by omega) (by omega)
    rw [(neg_pw h k).2 hk, (neg_pw l k).2 hk] at g
    omega
theorem pow_ev {l h : Int} {k : Nat} (hk : k % 2 = 0) (hl : l ≤ h) (h0 : h < 0) : h ^ k ≤ l ^ k := by
  have g := pow_up k (l := -h) (h := -l) (by omega) (by omega)
  rw [(neg_pw h k).1 hk, (neg_pw l k).1 hk] at g
  exact g
theorem pwr_le {D k : Nat} {l h : Int} (hp : l ^ k ≤ h ^ k) : pwr 0 D k l ≤ pwr 1 D k h := by
  unfold pwr
  exact Int.mul_le_mul_of_nonneg_left (rdv_le hp) (Int.le_of_lt (uu_pos D))
theorem lf_le {D k : Nat} {l h : Int} (hl : l ≤ h) : lfL D k l h ≤ lfH D k l h := by
  unfold lfL lfH
  by_cases h0 : k = 0
  · rw [if_pos h0, if_pos h0]; exact Int.le_refl _
  rw [if_neg h0, if_neg h0]
  by_cases h1 : k % 2 = 0 ∧ h < 0
  · rw [if_pos h1, if_pos h1]
    exact pwr_le (pow_ev h1.1 hl h1.2)
  rw [if_neg h1, if_neg h1]
  by_cases h2 : k % 2 = 0 ∧ l < 0
  · rw [if_pos h2, if_pos h2]
    refine Int.le_trans ?_ imx_l
    unfold pwr
    have := rdv_0 (q := h ^ k) (m := tn (10 * k - D)) (pow_sign.2.1 h2.1)
    exact Int.mul_nonneg (Int.le_of_lt (uu_pos D)) this
  rw [if_neg h2, if_neg h2]
  refine pwr_le ?_
  by_cases h3 : k % 2 = 0
  · exact pow_up k (by omega) hl
  · exact pow_odd (by omega) hl
theorem abs_le {l h : Int} (hl : l ≤ h) : aLo l h ≤ aHi l h := by
  unfold aLo aHi
  repeat' split
  all_goals omega
theorem deepb_le {D v : Nat} : deepb 0 D v 0 ≤ deepb 1 D v 0 := by
  unfold deepb
  rw [if_neg (by decide), if_neg (by decide)]
  have h : tlu (v / tn (54 - D)) 1 0 0 ≤ tlu (v / tn (54 - D)) 1 0 1 := by
    unfold tlu
    rw [if_neg (fun q => absurd rfl q.2), if_pos ⟨rfl, by decide⟩]
    omega
  have := Nat.mul_le_mul_right (tn (10 - D)) h
  omega
