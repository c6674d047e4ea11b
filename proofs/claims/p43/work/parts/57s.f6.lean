/-! THE CURVES' NUMBERS: the arc tangent rises. -/
/-- a closed cell -/
def CAK (e : Nat) (P Q : Int) : Prop := (e ≤ 8 ∧ (0 < Q ∧ Q ≤ 10000000000000000000000) ∧ (0 ≤ P ∧ P ≤ Q)) ∧ (16 * P ≤ (2 * (e : Int) + 1) * Q ∧ (2 * (e : Int) - 1) * Q ≤ 16 * P)
theorem CAE_K {e : Nat} {P Q : Int} (h : CAE e P Q) (rQ : 0 < Q ∧ Q ≤ 10000000000000000000000) (rP : 0 ≤ P ∧ P ≤ Q) : CAK e P Q := by
  obtain ⟨h1, h2, h3⟩ := h
  refine ⟨⟨h1, rQ, rP⟩, ?_, ?_⟩
  · rcases h2 with rfl | h2
    · show 16 * P ≤ (2 * 8 + 1) * Q
      omega
    · omega
  · rcases h3 with rfl | h3
    · show (2 * 0 - 1) * Q ≤ 16 * P
      omega
    · exact h3
theorem ca_r {e : Nat} {P Q : Int} (h : CAK e P Q) : (0 < 8 * Q + (e : Int) * P ∧ 8 * Q + (e : Int) * P ≤ 16 * Q) ∧ (-(8 * Q + (e : Int) * P) ≤ 16 * (8 * P - (e : Int) * Q) ∧ 16 * (8 * P - (e : Int) * Q) ≤ 8 * Q + (e : Int) * P) := by
  obtain ⟨⟨h1, rQ, rP⟩, g1, g2⟩ := h
  have m0 := Int.mul_nonneg (show (0 : Int) ≤ (e : Int) by omega) rP.1
  have m1 : (e : Int) * P ≤ 8 * Q := Int.mul_le_mul (by omega) rP.2 rP.1 (by decide)
  rw [Int.add_mul, Int.mul_assoc] at g1
  rw [Int.sub_mul, Int.mul_assoc] at g2
  generalize (e : Int) * P = eP at *
  generalize (e : Int) * Q = eQ at *
  omega
theorem caF_lo {e : Nat} {P Q : Int} (h : 8 * P ≤ (e : Int) * Q) : caF e P Q = tbN bARCS e 6 - csr true (qz ((e : Int) * Q - 8 * P) (8 * Q + (e : Int) * P)) := by
  unfold caF
  by_cases g : 8 * P < (e : Int) * Q
  · rw [if_pos g]
    omega
  · have e1 : (e : Int) * Q - 8 * P = 0 := by omega
    have e2 : 8 * P - (e : Int) * Q = 0 := by omega
    rw [if_neg g, e1, e2, csr_0]
    omega
theorem caF_hi {e : Nat} {P Q : Int} (h : (e : Int) * Q ≤ 8 * P) : caF e P Q = tbN bARCS e 6 + csr true (qz (8 * P - (e : Int) * Q) (8 * Q + (e : Int) * P)) := by
  unfold caF
  rw [if_neg (by omega)]
theorem mm4 (a b c d : Int) : a * b * (c * d) = a * c * (b * d) := by rw [Int.mul_assoc, Int.mul_left_comm b, ← Int.mul_assoc]
/-- the cross product of two tangents moved by eighths -/
theorem ca_id (e P Q P' Q' : Int) : (8 * P' - e * Q') * (8 * Q + e * P) = (8 * P - e * Q) * (8 * Q' + e * P') + (64 + e * e) * (P' * Q - P * Q') := by
  have a1 : (8 * P' - e * Q') * (8 * Q + e * P) = 64 * (P' * Q) + 8 * (e * (P * P')) - 8 * (e * (Q * Q')) - e * e * (P * Q') := by
    rw [Int.sub_mul, Int.mul_add, Int.mul_add]
    rw [show 8 * P' * (8 * Q) = 64 * (P' * Q) by rw [mm4]; rfl]
    rw [show 8 * P' * (e * P) = 8 * (e * (P * P')) by rw [Int.mul_assoc, Int.mul_left_comm P' e, Int.mul_comm P' P]]
    rw [show e * Q' * (8 * Q) = 8 * (e * (Q * Q')) by rw [Int.mul_left_comm, Int.mul_assoc, Int.mul_comm Q' Q]]
    rw [show e * Q' * (e * P) = e * e * (P * Q') by rw [mm4, Int.mul_comm Q' P]]
    omega
  have a2 : (8 * P - e * Q) * (8 * Q' + e * P') = 64 * (P * Q') + 8 * (e * (P * P')) - 8 * (e * (Q * Q')) - e * e * (P' * Q) := by
    rw [Int.sub_mul, Int.mul_add, Int.mul_add]
    rw [show 8 * P * (8 * Q') = 64 * (P * Q') by rw [mm4]; rfl]
    rw [show 8 * P * (e * P') = 8 * (e * (P * P')) by rw [Int.mul_assoc, Int.mul_left_comm P e]]
    rw [show e * Q * (8 * Q') = 8 * (e * (Q * Q')) by rw [Int.mul_left_comm, Int.mul_assoc]]
    rw [show e * Q * (e * P') = e * e * (P' * Q) by rw [mm4, Int.mul_comm Q P']]
    omega
  rw [a1, a2, Int.add_mul, Int.mul_sub, Int.mul_sub]
  omega
/-- apart, or in order -/
theorem ca_g {e : Nat} {P Q P' Q' g : Int} (h : CAK e P Q) (h' : CAK e P' Q') (hg : 0 ≤ g) (hc : 4 * g * (Q * Q') ≤ (P' * Q - P * Q') * 1000000000000000000000000000000000000000000000000000000) : (8 * P - (e : Int) * Q) * (8 * Q' + (e : Int) * P') * 1000000000000000000000000000000000000000000000000000000 + g * ((8 * Q + (e : Int) * P) * (8 * Q' + (e : Int) * P')) ≤ (8 * P' - (e : Int) * Q') * (8 * Q + (e : Int) * P) * 1000000000000000000000000000000000000000000000000000000 := by
  have r := (ca_r h).1
  have r' := (ca_r h').1
  have p1 : (8 * Q + (e : Int) * P) * (8 * Q' + (e : Int) * P') ≤ (16 * Q) * (16 * Q') := Int.mul_le_mul r.2 r'.2 (Int.le_of_lt r'.1) (by have := h.1.2.1; omega)
  rw [mm4] at p1
  have p2 := Int.mul_le_mul_of_nonneg_left p1 hg
  have qq := Int.mul_pos h.1.2.1.1 h'.1.2.1.1
  have q0 := Int.mul_nonneg hg (Int.le_of_lt qq)
  have dl : 0 ≤ P' * Q - P * Q' := by
    rw [Int.mul_assoc] at hc
    omega
  have p3 := Int.mul_nonneg (Int.mul_nonneg (show (0 : Int) ≤ (e : Int) by omega) (show (0 : Int) ≤ (e : Int) by omega)) dl
  rw [ca_id (e : Int) P Q P' Q', Int.add_mul 64]
  rw [Int.mul_assoc] at hc
  have e5 : g * (16 * 16 * (Q * Q')) = 256 * (g * (Q * Q')) := by rw [show (16 : Int) * 16 = 256 from rfl, Int.mul_left_comm]
  rw [e5] at p2
  generalize (e : Int) * (e : Int) * (P' * Q - P * Q') = E2 at *
  generalize P' * Q - P * Q' = D at *
  generalize (8 * P - (e : Int) * Q) * (8 * Q' + (e : Int) * P') = A at *
  generalize g * ((8 * Q + (e : Int) * P) * (8 * Q' + (e : Int) * P')) = B at *
  generalize g * (Q * Q') = C at *
  omega
theorem ca_lo {e : Nat} {P Q P' Q' g : Int} (h : CAK e P Q) (h' : CAK e P' Q') (hg : 0 ≤ g) (hc : 4 * g * (Q * Q') ≤ (P' * Q - P * Q') * 1000000000000000000000000000000000000000000000000000000) (h1 : 8 * P ≤ (e : Int) * Q) (h2 : 8 * P' ≤ (e : Int) * Q') : 4 * caF e P Q + 3 * g ≤ 4 * caF e P' Q' + 15000 := by
  have r := ca_r h
  have r' := ca_r h'
  have k := ca_g h h' hg hc
  rw [caF_lo h1, caF_lo h2]
  have e1 : (8 * P - (e : Int) * Q) * (8 * Q' + (e : Int) * P') = -(((e : Int) * Q - 8 * P) * (8 * Q' + (e : Int) * P')) := by rw [← Int.neg_mul]; congr 1; omega
  have e2 : (8 * P' - (e : Int) * Q') * (8 * Q + (e : Int) * P) = -(((e : Int) * Q' - 8 * P') * (8 * Q + (e : Int) * P)) := by rw [← Int.neg_mul]; congr 1; omega
  rw [e1, e2] at k
  have q := qz_gap (A := (e : Int) * Q' - 8 * P') (B := 8 * Q' + (e : Int) * P') (A' := (e : Int) * Q - 8 * P) (B' := 8 * Q + (e : Int) * P) (g := g) r'.1.1 r.1.1 (by
    rw [Int.mul_comm (8 * Q' + (e : Int) * P') (8 * Q + (e : Int) * P)]
    generalize ((e : Int) * Q - 8 * P) * (8 * Q' + (e : Int) * P') = A at *
    generalize ((e : Int) * Q' - 8 * P') * (8 * Q + (e : Int) * P) = B at *
    generalize g * ((8 * Q + (e : Int) * P) * (8 * Q' + (e : Int) * P')) = C at *
    omega)
  have z := qz_r (A := (e : Int) * Q - 8 * P) (B := 8 * Q + (e : Int) * P) (by omega) r.1.1
  have z' := qz_r (A := (e : Int) * Q' - 8 * P') (B := 8 * Q' + (e : Int) * P') (by omega) r'.1.1
  generalize qz ((e : Int) * Q - 8 * P) (8 * Q + (e : Int) * P) = a at *
  generalize qz ((e : Int) * Q' - 8 * P') (8 * Q' + (e : Int) * P') = a' at *
  have c := csr_up (alt := true) (z := a') (dl := a - a') (by omega)
  rw [show a' + (a - a') = a by omega] at c
  omega
theorem ca_hi {e : Nat} {P Q P' Q' g : Int} (h : CAK e P Q) (h' : CAK e P' Q') (hg : 0 ≤ g) (hc : 4 * g * (Q * Q') ≤ (P' * Q - P * Q') * 1000000000000000000000000000000000000000000000000000000) (h1 : (e : Int) * Q ≤ 8 * P) (h2 : (e : Int) * Q' ≤ 8 * P') : 4 * caF e P Q + 3 * g ≤ 4 * caF e P' Q' + 15000 := by
  have r := ca_r h
  have r' := ca_r h'
  have k := ca_g h h' hg hc
  rw [caF_hi h1, caF_hi h2]
  have q := qz_gap (A := 8 * P - (e : Int) * Q) (B := 8 * Q + (e : Int) * P) (A' := 8 * P' - (e : Int) * Q') (B' := 8 * Q' + (e : Int) * P') (g := g) r.1.1 r'.1.1 k
  have z := qz_r (A := 8 * P - (e : Int) * Q) (B := 8 * Q + (e : Int) * P) (by omega) r.1.1
  have z' := qz_r (A := 8 * P' - (e : Int) * Q') (B := 8 * Q' + (e : Int) * P') (by omega) r'.1.1
  generalize qz (8 * P - (e : Int) * Q) (8 * Q + (e : Int) * P) = a at *
  generalize qz (8 * P' - (e : Int) * Q') (8 * Q' + (e : Int) * P') = a' at *
  have c := csr_up (alt := true) (z := a) (dl := a' - a) (by omega)
  rw [show a + (a' - a) = a' by omega] at c
  omega
/-- the middle of a cell -/
theorem CAK_m {e : Nat} (he : e ≤ 8) : CAK e (e : Int) 8 := ⟨⟨he, by decide, by omega⟩, by omega, by omega⟩
theorem ca_w {e : Nat} {P Q P' Q' : Int} (h : CAK e P Q) (h' : CAK e P' Q') (hc : 4 * 1000000000000000000 * (Q * Q') ≤ (P' * Q - P * Q') * 1000000000000000000000000000000000000000000000000000000) : caF e P Q + 100000000000000000 ≤ caF e P' Q' := by
  rcases Int.lt_or_le (8 * P) ((e : Int) * Q) with g1 | g1
  · rcases Int.lt_or_le ((e : Int) * Q') (8 * P') with g2 | g2
    · have m := CAK_m h.1.1
      have q1 := h.1.2.1
      have q2 := h'.1.2.1
      have a := ca_lo (g := 1000000000000000000) h m (by decide) (by omega) (Int.le_of_lt g1) (by omega)
      have b := ca_hi (g := 1000000000000000000) m h' (by decide) (by rw [Int.mul_comm P' 8]; omega) (by omega) (Int.le_of_lt g2)
      omega
    · have a := ca_lo (g := 1000000000000000000) h h' (by decide) hc (Int.le_of_lt g1) g2
      omega
  · rcases Int.lt_or_le (8 * P') ((e : Int) * Q') with g2 | g2
    · -- the other way round
      have q1 := h.1.2.1
      have q2 := h'.1.2.1
      have dl : 0 ≤ P' * Q - P * Q' := by
        have := Int.mul_pos q1.1 q2.1
        omega
      have m1 := Int.mul_le_mul_of_nonneg_right g1 (Int.le_of_lt q2.1)
      have m2 := Int.mul_lt_mul_of_pos_right g2 q1.1
      have e1 : (e : Int) * Q * Q' = (e : Int) * Q' * Q := Int.mul_right_comm ..
      rw [Int.mul_assoc 8] at m1 m2
      omega
    · have a := ca_hi (g := 1000000000000000000) h h' (by decide) hc g1 g2
      omega
theorem ca_u {e : Nat} {P Q P' Q' : Int} (h : CAK e P Q) (h' : CAK e P' Q') (hc : P * Q' ≤ P' * Q) : caF e P Q ≤ caF e P' Q' + 8000 := by
  have q1 := h.1.2.1
  have q2 := h'.1.2.1
  have hm : (1000000000000000000000000000000000000000000000000000000 : Int) * 0 ≤ 1000000000000000000000000000000000000000000000000000000 * (P' * Q - P * Q') := Int.mul_le_mul_of_nonneg_left (by omega) (by decide)
  have hc0 : 4 * 0 * (Q * Q') ≤ (P' * Q - P * Q') * 1000000000000000000000000000000000000000000000000000000 := by
    rw [Int.mul_zero, Int.zero_mul, Int.mul_comm]
    omega
  rcases Int.lt_or_le (8 * P) ((e : Int) * Q) with g1 | g1
  · rcases Int.lt_or_le ((e : Int) * Q') (8 * P') with g2 | g2
    · have m := CAK_m h.1.1
      have a := ca_lo (g := 0) h m (by decide) (by omega) (Int.le_of_lt g1) (by omega)
      have b := ca_hi (g := 0) m h' (by decide) (by rw [Int.mul_comm P' 8]; omega) (by omega) (Int.le_of_lt g2)
      omega
    · have a := ca_lo (g := 0) h h' (by decide) hc0 (Int.le_of_lt g1) g2
      omega
  · rcases Int.lt_or_le (8 * P') ((e : Int) * Q') with g2 | g2
    · have m1 := Int.mul_le_mul_of_nonneg_right g1 (Int.le_of_lt q2.1)
      have m2 := Int.mul_lt_mul_of_pos_right g2 q1.1
      have e1 : (e : Int) * Q * Q' = (e : Int) * Q' * Q := Int.mul_right_comm ..
      rw [Int.mul_assoc 8] at m1 m2
      omega
    · have a := ca_hi (g := 0) h h' (by decide) hc0 g1 g2
      omega
/-- the cells' ends, for the kernel -/
def caE (e : Nat) : Int × Int := (tbN bARCS e 6 + srn true (qz (8 * (2 * (e : Int) + 1) - (e : Int) * 16) (8 * 16 + (e : Int) * (2 * (e : Int) + 1))) 249, tbN bARCS (e + 1) 6 - srn true (qz (((e + 1 : Nat) : Int) * 16 - 8 * (2 * (e : Int) + 1)) (8 * 16 + ((e + 1 : Nat) : Int) * (2 * (e : Int) + 1))) 249)
theorem caE_all : ((List.range 8).all (fun e => decide ((caE e).1 ≤ (caE e).2 + 100000))) = true ∧ tbN bARCS 0 6 = 0 := by decide +kernel
theorem caE_n {e : Nat} (h : e < 8) : caF e (2 * (e : Int) + 1) 16 ≤ caF (e + 1) (2 * (e : Int) + 1) 16 + 100000 := by
  rw [caF_hi (by omega), caF_lo (by omega), csr_def, csr_def]
  have g := List.all_eq_true.mp caE_all.1 e (List.mem_range.mpr h)
  exact of_decide_eq_true g
theorem CAK_r {e : Nat} (he : e < 8) : CAK e (2 * (e : Int) + 1) 16 ∧ CAK (e + 1) (2 * (e : Int) + 1) 16 := ⟨⟨⟨by omega, by decide, by omega⟩, by omega, by omega⟩, ⟨by omega, by decide, by omega⟩, by omega, by omega⟩
theorem ca_ends {e : Nat} : ∀ j : Nat, e + j < 8 → caF e (2 * (e : Int) + 1) 16 ≤ caF (e + j + 1) (2 * ((e + j : Nat) : Int) + 1) 16 + 108000 * ((j + 1 : Nat) : Int) := by
  intro j
  induction j with
  | zero =>
    intro h
    have := caE_n (e := e) (by omega)
    show caF e (2 * (e : Int) + 1) 16 ≤ caF (e + 1) (2 * (e : Int) + 1) 16 + _
    omega
  | succ j ih =>
    intro h
    have a := ih (by omega)
    have b := caE_n (e := e + j + 1) (by omega)
    have c := ca_u (CAK_r (e := e + j) (by omega)).2 (CAK_r (e := e + j + 1) (by omega)).1 (by omega)
    rw [show e + (j + 1) = e + j + 1 from rfl]
    omega
/-- it rises with the tangent -/
theorem CAF_lt {e e' : Nat} {P Q P' Q' : Int} (h : CAE e P Q) (h' : CAE e' P' Q') (rQ : 0 < Q ∧ Q ≤ 10000000000000000000000) (rP : 0 ≤ P ∧ P ≤ Q) (rQ' : 0 < Q' ∧ Q' ≤ 10000000000000000000000) (rP' : 0 ≤ P' ∧ P' ≤ Q') (hc : 4 * 1000000000000000000 * (Q * Q') ≤ (P' * Q - P * Q') * 1000000000000000000000000000000000000000000000000000000) : caF e P Q + 10000000000000000 ≤ caF e' P' Q' := by
  have k := CAE_K h rQ rP
  have k' := CAE_K h' rQ' rP'
  have qq := Int.mul_pos rQ.1 rQ'.1
  have dl : 0 < P' * Q - P * Q' := by omega
  have hee : e ≤ e' := by
    rcases Nat.lt_or_ge e' e with g | g
    · have a1 : 16 * P' < (2 * (e' : Int) + 1) * Q' := by
        rcases h'.2.1 with q | q
        · have := h.1
          omega
        · exact q
      have m1 := Int.mul_lt_mul_of_pos_right a1 rQ.1
      have m2 := Int.mul_le_mul_of_nonneg_right k.2.2 (Int.le_of_lt rQ'.1)
      have m3 : (2 * (e' : Int) + 1) * (Q' * Q) ≤ (2 * (e : Int) - 1) * (Q' * Q) := Int.mul_le_mul_of_nonneg_right (by omega) (by rw [Int.mul_comm]; omega)
      rw [Int.mul_assoc, Int.mul_assoc] at m1 m2
      rw [Int.mul_comm Q Q'] at m2
      omega
    · exact g
  rcases Nat.lt_or_ge e e' with g | g
  · have he8 : e < 8 := by have := h'.1; omega
    have a1 : 16 * P < (2 * (e : Int) + 1) * Q := by
      rcases h.2.1 with q | q
      · omega
      · exact q
    have w := ca_w k (CAK_r he8).1 (by omega)
    have x := ca_ends (e := e) (e' - e - 1) (by have := h'.1; omega)
    rw [show e + (e' - e - 1) + 1 = e' by omega, show e + (e' - e - 1) = e' - 1 by omega] at x
    have r := (CAK_r (e := e' - 1) (by have := h'.1; omega)).2
    rw [show e' - 1 + 1 = e' by omega] at r
    have lo := k'.2.2
    have y := ca_u r k' (by
      rw [show 2 * ((e' - 1 : Nat) : Int) + 1 = 2 * (e' : Int) - 1 by omega]
      omega)
    have hj : ((e' - e - 1 + 1 : Nat) : Int) ≤ 8 := by have := h'.1; omega
    omega
  · have : e = e' := by omega
    subst this
    have w := ca_w k k' hc
    omega
theorem CAE_u {e e' : Nat} {P Q : Int} (h : CAE e P Q) (h' : CAE e' P Q) (rQ : 0 < Q) : e = e' := by
  have key : ∀ e e' : Nat, CAE e P Q → CAE e' P Q → ¬ e < e' := by
    intro e e' h h' g
    have a1 : 16 * P < (2 * (e : Int) + 1) * Q := by
      rcases h.2.1 with q | q
      · have := h'.1
        omega
      · exact q
    have a2 : (2 * (e' : Int) - 1) * Q ≤ 16 * P := by
      rcases h'.2.2 with q | q
      · omega
      · exact q
    have m3 : (2 * (e : Int) + 1) * Q ≤ (2 * (e' : Int) - 1) * Q := Int.mul_le_mul_of_nonneg_right (by omega) (Int.le_of_lt rQ)
    omega
  have k1 := key e e' h h'
  have k2 := key e' e h' h
  omega
theorem CA_eq {a X Y : Int} (ha : 0 < a) (hX : CAX a X) (hY : CAX a Y) : X = Y := by
  rcases hX with ⟨x1, e, x2, rfl⟩ | ⟨x1, e, x2, rfl⟩
  · rcases hY with ⟨y1, e', y2, rfl⟩ | ⟨y1, e', y2, rfl⟩
    · rw [CAE_u x2 y2 (by decide)]
    · omega
  · rcases hY with ⟨y1, e', y2, rfl⟩ | ⟨y1, e', y2, rfl⟩
    · omega
    · rw [CAE_u x2 y2 ha]
theorem CAE_11 : CAE 8 1 1 := ⟨by decide, Or.inl rfl, Or.inr (by decide)⟩
theorem ca_11 : caF 8 1 1 = tbN bARCS 8 6 := by
  rw [caF_hi (by decide), show 8 * (1 : Int) - ((8 : Nat) : Int) * 1 = 0 by decide, csr_0]
  omega
theorem ca_steep {a : Int} {e : Nat} (h : 10000000000 < a ∧ a ≤ 10000000000000000000000) (he : CAE e 10000000000 a) : caF e 10000000000 a + 10000000000000000 ≤ tbN bARCS 8 6 := by
  rw [← ca_11]
  exact CAF_lt he CAE_11 (by omega) (by omega) (by decide) (by decide) (by omega)
theorem ca_flat {a : Int} {e : Nat} (h : 0 < a ∧ a ≤ 10000000000) (he : CAE e a 10000000000) : caF e a 10000000000 ≤ tbN bARCS 8 6 := by
  rcases Int.lt_or_eq_of_le h.2 with g | g
  · have := CAF_lt he CAE_11 (by decide) (by omega) (by decide) (by decide) (by omega)
    rw [ca_11] at this
    omega
  · rw [g] at he ⊢
    have e8 : e = 8 := CAE_u he (show CAE 8 10000000000 10000000000 from ⟨by decide, Or.inl rfl, Or.inr (by decide)⟩) (by decide)
    rw [e8, caF_hi (by decide), show 8 * (10000000000 : Int) - ((8 : Nat) : Int) * 10000000000 = 0 by decide, csr_0]
    omega
theorem ca_t8 : 0 ≤ tbN bARCS 8 6 := (tbN_r (j := 3) (row := 8) (by decide) (i := 6) (Nat.le_refl _)).1
theorem CA_pos {a X : Int} (h : 0 < a ∧ a ≤ 10000000000000000000000) (hX : CAX a X) : 0 ≤ X := by
  rcases hX with ⟨x1, e, x2, rfl⟩ | ⟨x1, e, x2, rfl⟩
  · have c := CAF_lt (show CAE 0 0 1 from ⟨by decide, Or.inr (by decide), Or.inl rfl⟩) x2 (by decide) (by decide) (by decide) (by omega) (by omega)
    rw [caF_hi (by decide), show 8 * (0 : Int) - ((0 : Nat) : Int) * 1 = 0 by decide, csr_0, caE_all.2] at c
    omega
  · have := ca_steep ⟨x1, h.2⟩ x2
    have := ca_t8
    omega
theorem CA_lt {a a' X Y : Int} (h : 0 < a ∧ a < a' ∧ a' ≤ 10000000000000000000000) (hX : CAX a X) (hY : CAX a' Y) : X + 10000000000000000 ≤ Y := by
  rcases hX with ⟨x1, e, x2, rfl⟩ | ⟨x1, e, x2, rfl⟩
  · rcases hY with ⟨y1, e', y2, rfl⟩ | ⟨y1, e', y2, rfl⟩
    · exact CAF_lt x2 y2 (by decide) (by omega) (by decide) (by omega) (by omega)
    · have p := ca_flat ⟨h.1, x1⟩ x2
      have q := ca_steep ⟨y1, h.2.2⟩ y2
      omega
  · rcases hY with ⟨y1, e', y2, rfl⟩ | ⟨y1, e', y2, rfl⟩
    · omega
    · have m : a' * a ≤ 10000000000000000000000 * 10000000000000000000000 := Int.mul_le_mul h.2.2 (by omega) (by omega) (by decide)
      have c := CAF_lt y2 x2 (by omega) (by omega) (by omega) (by omega) (by omega)
      omega
/-- the code of the arc tangent -/
def CAC (v t : Int) : Prop := (v = 0 ∧ t = 0) ∨ (v ≠ 0 ∧ ∃ X : Int, CAX (if v < 0 then -v else v) X ∧ t = (if v < 0 then -(2 * (X / 100000000000000000000000000000000000000000000) + 1) else 2 * (X / 100000000000000000000000000000000000000000000) + 1))
theorem CAC_le {v w t s : Int} (hv : -10000000000000000000000 ≤ v) (hw : w ≤ 10000000000000000000000) (h : v ≤ w) (ht : CAC v t) (hs : CAC w s) : t ≤ s := by
  rcases ht with ⟨rfl, rfl⟩ | ⟨n1, X, hX, rfl⟩
  · rcases hs with ⟨rfl, rfl⟩ | ⟨n2, Y, hY, rfl⟩
    · exact Int.le_refl _
    · rw [if_neg (show ¬ w < 0 by omega)] at hY ⊢
      have := CA_pos (by omega) hY
      omega
  · rcases hs with ⟨rfl, rfl⟩ | ⟨n2, Y, hY, rfl⟩
    · rw [if_pos (show v < 0 by omega)] at hX ⊢
      have := CA_pos (by omega) hX
      omega
    · by_cases g1 : v < 0
      · rw [if_pos g1] at hX ⊢
        have p1 := CA_pos (by omega) hX
        by_cases g2 : w < 0
        · rw [if_pos g2] at hY ⊢
          have p2 := CA_pos (by omega) hY
          rcases Int.lt_or_eq_of_le h with g | rfl
          · have := CA_lt (a := -w) (a' := -v) (by omega) hY hX
            omega
          · rw [CA_eq (by omega) hX hY]
            exact Int.le_refl _
        · rw [if_neg g2] at hY ⊢
          have p2 := CA_pos (by omega) hY
          omega
      · rw [if_neg g1] at hX ⊢
        rw [if_neg (show ¬ w < 0 by omega)] at hY ⊢
        rcases Int.lt_or_eq_of_le h with g | rfl
        · have := CA_lt (a := v) (a' := w) (by omega) hX hY
          omega
        · rw [CA_eq (by omega) hX hY]
          exact Int.le_refl _
