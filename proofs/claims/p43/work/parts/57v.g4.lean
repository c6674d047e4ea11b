/-! THE CLASS BY VALUES: an act on the stack. -/
/-- the code of an act, exactly -/
def COE (a : Int) (s : Nat) (v t : Int) : Prop := (a = 94 ∧ t = cd (pwrN v s) (pwrK s)) ∨ (a = 114 ∧ RT s v t) ∨ (a = 101 ∧ t = cxC v) ∨ (a = 108 ∧ LGC v t) ∨ (a = 97 ∧ CAC v t)
theorem powi_up {v w : Int} {k : Nat} (hk : 1 ≤ k) (h : v ≤ w) (h0 : k % 2 = 0 → 0 ≤ v) : v ^ k ≤ w ^ k := by
  rcases Int.lt_or_le v 0 with g | g
  · have ho : k % 2 = 1 := by
      rcases Nat.mod_two_eq_zero_or_one k with q | q
      · have := h0 q
        omega
      · exact q
    have e1 : v ^ k = -((-v) ^ k) := by
      have := neg_pow2 (-v) k
      rw [Int.neg_neg, if_neg (by omega)] at this
      exact this
    have p1 := powi_0 (v := -v) (x := k) (by omega)
    rcases Int.lt_or_le w 0 with g2 | g2
    · have e2 : w ^ k = -((-w) ^ k) := by
        have := neg_pow2 (-w) k
        rw [Int.neg_neg, if_neg (by omega)] at this
        exact this
      have := pow_le (x := -w) (y := -v) (by omega) (by omega) k
      omega
    · have := powi_0 (v := w) (x := k) g2
      omega
  · exact pow_le g h k
theorem COE_le {a v w t t' : Int} {s : Nat} (ho : OOK a s) (rv : NF v ∧ NF w) (h : v ≤ w) (h1 : a = 94 → s % 2 = 0 → 0 ≤ v) (h2 : a = 108 → 0 < v) (ht : COE a s v t) (hs : COE a s w t') : t ≤ t' := by
  obtain ⟨rv, rw_⟩ := rv
  unfold NF at rv rw_
  rcases ht with ⟨rfl, rfl⟩ | ⟨rfl, q⟩ | ⟨rfl, rfl⟩ | ⟨rfl, q⟩ | ⟨rfl, q⟩
  · rcases hs with ⟨_, rfl⟩ | ⟨q2, _⟩ | ⟨q2, _⟩ | ⟨q2, _⟩ | ⟨q2, _⟩ <;> try (exact absurd q2 (by decide))
    refine cd_le (pwrK_pos s) ?_
    unfold pwrN
    split
    · exact Int.le_refl _
    · exact powi_up (by omega) h (h1 rfl)
  · rcases hs with ⟨q2, _⟩ | ⟨_, q3⟩ | ⟨q2, _⟩ | ⟨q2, _⟩ | ⟨q2, _⟩ <;> try (exact absurd q2 (by decide))
    exact RT_le h q q3
  · rcases hs with ⟨q2, _⟩ | ⟨q2, _⟩ | ⟨_, rfl⟩ | ⟨q2, _⟩ | ⟨q2, _⟩ <;> try (exact absurd q2 (by decide))
    exact cxC_le h
  · rcases hs with ⟨q2, _⟩ | ⟨q2, _⟩ | ⟨q2, _⟩ | ⟨_, q3⟩ | ⟨q2, _⟩ <;> try (exact absurd q2 (by decide))
    exact LGC_le (h2 rfl) h q q3
  · rcases hs with ⟨q2, _⟩ | ⟨q2, _⟩ | ⟨q2, _⟩ | ⟨q2, _⟩ | ⟨_, q3⟩ <;> try (exact absurd q2 (by decide))
    exact CAC_le (by omega) (by omega) h q q3
theorem dn_far2 {u t : Int} (hu : UU u) (h : 20000000000000000000000 ≤ t) : 10000000000000000000000 ≤ dn u t := by
  have hu1 := hu.1
  obtain ⟨k, hk⟩ := hu.2
  unfold dn
  rw [show (10000000000000000000000 : Int) = 1000000000000 * k * u by rw [Int.mul_assoc, Int.mul_comm k u, ← hk]; decide]
  refine dnv_m (by omega) ?_
  rw [Int.mul_assoc, Int.mul_comm k u, ← hk]
  omega
theorem up_far2 {u t : Int} (hu : UU u) (h : t ≤ -20000000000000000000000) : up u t ≤ -10000000000000000000000 := by
  have := dn_far2 hu (show 20000000000000000000000 ≤ -t by omega)
  unfold up
  omega
theorem COD_E {a v t u : Int} {s : Nat} (hu : UU u) (h : COD a s v t) (hn : NF (dn u t) ∨ NF (up u t)) : COE a s v t := by
  have hu1 := hu.1
  rcases h with ⟨q, q1, _⟩ | q | q | q | q
  · refine Or.inl ⟨q, ?_⟩
    rcases q1 with q1 | q1 | q1
    · exact q1
    · exfalso
      have a1 := dn_far2 hu q1
      have a2 := up_far (u := u) (by omega) q1
      unfold NF at hn
      omega
    · exfalso
      have a1 := dn_far (u := u) (by omega) q1
      have a2 := up_far2 hu q1
      unfold NF at hn
      omega
  · exact Or.inr (Or.inl q)
  · exact Or.inr (Or.inr (Or.inl q))
  · exact Or.inr (Or.inr (Or.inr (Or.inl q)))
  · exact Or.inr (Or.inr (Or.inr (Or.inr q)))
/-- a box's bounds in order, and not too great -/
def GBX (v : Int × Int) : Prop := (NF v.1 ∧ NF v.2) ∧ v.1 ≤ v.2
/-- a stack with another box at one place -/
def upB (B : Nat → Int × Int) (i : Nat) (v : Int × Int) : Nat → Int × Int := fun j => if j = i then v else B j
theorem upB_eq {B : Nat → Int × Int} {i : Nat} {v : Int × Int} : upB B i v i = v := if_pos rfl
theorem upB_ne {B : Nat → Int × Int} {i j : Nat} {v : Int × Int} (h : j ≠ i) : upB B i v j = B j := if_neg h
/-- what an act leaves on the stack -/
def AR (u : Int) (X Y : Int × Int) (a num : Int) (s m : Nat) (B : Nat → Int × Int) (m' : Nat) (B' : Nat → Int × Int) : Prop :=
  (a = 35 ∧ m' = m + 1 ∧ B' = upB B m (dn u (nC s num), up u (nC s num))) ∨
  ((a = 112 ∨ a = 69) ∧ m' = m + 1 ∧ B' = upB B m (dn u (kC a), up u (kC a))) ∨
  (a = 120 ∧ m' = m + 1 ∧ B' = upB B m X) ∨
  (a = 121 ∧ m' = m + 1 ∧ B' = upB B m Y) ∨
  (a = 43 ∧ 2 ≤ m ∧ m' = m - 1 ∧ B' = upB B (m - 2) (dnv u ((B (m - 2)).1 + (B (m - 1)).1), upv u ((B (m - 2)).2 + (B (m - 1)).2))) ∨
  (a = 45 ∧ 2 ≤ m ∧ m' = m - 1 ∧ B' = upB B (m - 2) (dnv u ((B (m - 2)).1 - (B (m - 1)).2), upv u ((B (m - 2)).2 - (B (m - 1)).1))) ∨
  (a = 42 ∧ 2 ≤ m ∧ m' = m - 1 ∧ B' = upB B (m - 2) (dn u (pdL (B (m - 2)).1 (B (m - 2)).2 (B (m - 1)).1 (B (m - 1)).2), up u (pdH (B (m - 2)).1 (B (m - 2)).2 (B (m - 1)).1 (B (m - 1)).2))) ∨
  (a = 47 ∧ 2 ≤ m ∧ m' = m - 1 ∧ ¬ ((B (m - 1)).1 ≤ 0 ∧ 0 ≤ (B (m - 1)).2) ∧ B' = upB B (m - 2) (dn u (qtL (B (m - 2)).1 (B (m - 2)).2 (B (m - 1)).1 (B (m - 1)).2), up u (qtH (B (m - 2)).1 (B (m - 2)).2 (B (m - 1)).1 (B (m - 1)).2))) ∨
  (a = 126 ∧ 1 ≤ m ∧ m' = m ∧ B' = upB B (m - 1) (dnv u (-(B (m - 1)).2), upv u (-(B (m - 1)).1))) ∨
  (a = 98 ∧ 1 ≤ m ∧ m' = m ∧ B' = upB B (m - 1) (dnv u (abLo (B (m - 1)).1 (B (m - 1)).2), upv u (abHi (B (m - 1)).1 (B (m - 1)).2))) ∨
  (OOK a s ∧ 1 ≤ m ∧ m' = m ∧ (a = 108 → 0 < (B (m - 1)).1) ∧ ∃ t1 t2 : Int, (COE a s (oLo a s (B (m - 1)).1 (B (m - 1)).2) t1 ∧ COE a s (oHi a s (B (m - 1)).1 (B (m - 1)).2) t2) ∧ B' = upB B (m - 1) (dn u t1, up u t2))
/-- which acts there are, by how many boxes they want -/
def AOK (a num : Int) (s m : Nat) : Prop := (a = 35 ∧ ((-9223372036854775808 ≤ num ∧ num < 9223372036854775808)) ∧ s ≤ 18) ∨ a = 112 ∨ a = 69 ∨ a = 120 ∨ a = 121 ∨ ((a = 43 ∨ a = 45 ∨ a = 42 ∨ a = 47) ∧ 2 ≤ m) ∨ ((a = 126 ∨ a = 98 ∨ OOK a s) ∧ 1 ≤ m)
/-- the stack -/
def SK (M : tM) (m : Nat) (B : Nat → Int × Int) : Prop := M 77 2 = (m : Int) ∧ ∀ i : Nat, i < m → BX M (113 + 3 * i) (B i).1 (B i).2 ∧ GBX (B i)
/-- the machine's cells change: the acts' ones, the stack and its top -/
def MKF (b : Nat) (M M' : tM) : Prop := (CI M' ∧ pE b M M') ∧ (∀ i : Int, i ≠ 2 → M' 77 i = M 77 i) ∧ ∀ (k : Nat) (i : Int), (k < 77 ∨ 496 < k) → M' k i = M k i
theorem MKF_refl {b : Nat} {M : tM} (hC : CI M) : MKF b M M := ⟨⟨hC, pE_refl⟩, fun _ _ => rfl, fun _ _ _ => rfl⟩
theorem MKF_tr {b : Nat} {M M1 M2 : tM} (h1 : MKF b M M1) (h2 : MKF b M1 M2) : MKF b M M2 := ⟨⟨h2.1.1, pE_tr h1.1.2 h2.1.2⟩, fun i g => (h2.2.1 i g).trans (h1.2.1 i g), fun k i g => (h2.2.2 k i g).trans (h1.2.2 k i g)⟩
theorem cl_cs {i : Nat} (h : i < 128) : cl (113 + 3 * i) 4 := by
  have g : (List.range 128).all (fun i => Nat.beq (tshl.getD (113 + 3 * i) 0) 4) = true := by decide +kernel
  refine ⟨?_, by omega⟩
  rw [tsh_def]
  exact Nat.eq_of_beq_eq_true (List.all_eq_true.mp g i (List.mem_range.mpr h))
theorem MKF_AE {b i : Nat} {M M1 : tM} (hi : i < 128) (h : AE b M M1 (113 + 3 * i)) : MKF b M M1 := ⟨h.1, fun j _ => h.2 77 j (by omega) (by omega) (by omega), fun k j g => h.2 k j (by omega) (by omega) (by omega)⟩
theorem MKF_AX {b i j : Nat} {M M1 : tM} (hi : i < 128) (hj : j < 128) (h : AX b M M1 (113 + 3 * i) (113 + 3 * j)) : MKF b M M1 := ⟨h.1, fun q _ => h.2 77 q (by omega) (by omega) (by omega) (by omega) (by omega), fun k q g => h.2 k q (by omega) (by omega) (by omega) (by omega) (by omega)⟩
theorem MKF_top {b : Nat} {M : tM} {v : Int} (hb : b < 2) (hC : CI M) (hv : 0 ≤ v ∧ v ≤ 128) : MKF b M (tU M 77 2 v) := ⟨⟨CI_put (s := 8) hC tsh_77 (fun _ => by show (0 : Int) ≤ _ ∧ _ ≤ (128 : Int); exact hv), pE_put (prt_f (a := 8) (f := 2) (Or.inl hb) cl_77 (by decide) (fun _ q => absurd q (by decide)) (by decide))⟩, fun i g => tU_ni g, fun k i g => tU_nk (by omega)⟩
/-- ordered results -/
theorem pd_o {lo hi l2 h2 : Int} : pdL lo hi l2 h2 ≤ pdH lo hi l2 h2 := by
  unfold pdL pdH
  omega
theorem qs_o {lo hi l2 h2 : Int} (h : lo ≤ hi) (hl : 0 < l2 ∧ l2 ≤ h2) : qsL lo l2 h2 ≤ qsH hi l2 h2 := by
  unfold qsL qsH
  have key : ∀ b b' : Int, 0 < b → 0 < b' → lo * b' ≤ hi * b → cd (lo * 10000000000) b ≤ cd (hi * 10000000000) b' := fun b b' p1 p2 q => cd_le2 p1 p2 (by
    rw [Int.mul_right_comm, Int.mul_right_comm hi]
    omega)
  by_cases g1 : lo < 0
  · rw [if_pos g1]
    by_cases g2 : hi < 0
    · rw [if_pos g2]
      refine key _ _ hl.1 (by omega) ?_
      have m1 : lo * h2 ≤ hi * h2 := Int.mul_le_mul_of_nonneg_right h (by omega)
      have m2 : hi * h2 ≤ hi * l2 := Int.mul_le_mul_of_nonpos_left (by omega) hl.2
      omega
    · rw [if_neg g2]
      refine key _ _ hl.1 hl.1 ?_
      have m1 : lo * l2 ≤ hi * l2 := Int.mul_le_mul_of_nonneg_right h (by omega)
      omega
  · rw [if_neg g1, if_neg (show ¬ hi < 0 by omega)]
    refine key _ _ (by omega) hl.1 ?_
    have m1 : lo * l2 ≤ lo * h2 := Int.mul_le_mul_of_nonneg_left hl.2 (by omega)
    have m2 : lo * h2 ≤ hi * h2 := Int.mul_le_mul_of_nonneg_right h (by omega)
    omega
theorem qt_o {lo hi l2 h2 : Int} (h : lo ≤ hi) (hl : l2 ≤ h2) (hz : ¬ (l2 ≤ 0 ∧ 0 ≤ h2)) : qtL lo hi l2 h2 ≤ qtH lo hi l2 h2 := by
  unfold qtL qtH
  split
  · exact qs_o (by omega) (by omega)
  · exact qs_o h (by omega)
theorem dnup_o {u s t : Int} (hu : UU u) (h : s ≤ t) : dn u s ≤ up u t := by
  have hu1 := hu.1
  have a := dn_le (u := u) (by omega) h
  have b := dn_up (u := u) (t := t) (by omega)
  omega
theorem dnvup_o {u v w : Int} (hu : UU u) (h : v ≤ w) : dnv u v ≤ upv u w := by
  have hu1 := hu.1
  have a := dnv_r (u := u) (v := v) (by omega)
  have b := dnv_r (u := u) (v := -w) (by omega)
  unfold upv
  omega
