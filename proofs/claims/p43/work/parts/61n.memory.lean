/-! THE START'S MEMORY keeps what the class and the model keep. -/
section START2
theorem M0_c {k : Nat} {i : Int} : M0 k i = ((mzv (tget 10 sW1.2.2 k) i.toNat : Nat) : Int) := rfl
theorem mzv_ge {c : sC_s} {j : Nat} (h : ¬ j < c.2.2.1) : mzv c j = 0 := by
  unfold mzv
  rw [show Nat.blt j c.2.2.1 = false from blt_no h]
  rfl
noncomputable def fa0 (k : Nat) : Bool := !Nat.beq (tshl.getD k 0) 42 || (fun (c : sC_s) => Nat.ble c.2.2.1 64 && (List.range c.2.2.1).all (fun j => Nat.beq (mzv c j) 0)) (tget 10 sW1.2.2 k)
theorem fa0_all : (List.range 664).all fa0 = true := by decide +kernel
theorem FA_M0 : FA M0 := by
  intro k i hk hi q
  exfalso
  have g := sh42 hk
  have h := List.all_eq_true.mp fa0_all k (List.mem_range.mpr (by omega))
  unfold fa0 at h
  rw [tsh_def] at hk
  rw [hk] at h
  have h : (Nat.ble (tget 10 sW1.2.2 k).2.2.1 64 && (List.range (tget 10 sW1.2.2 k).2.2.1).all (fun j => Nat.beq (mzv (tget 10 sW1.2.2 k) j) 0)) = true := h
  rw [Bool.and_eq_true] at h
  rw [M0_c] at q
  have z : mzv (tget 10 sW1.2.2 k) i.toNat = 0 := by
    by_cases hj : i.toNat < (tget 10 sW1.2.2 k).2.2.1
    · exact Nat.eq_of_beq_eq_true (List.all_eq_true.mp h.2 _ (List.mem_range.mpr hj))
    · exact mzv_ge hj
  rw [z] at q
  cases q
theorem CI_M0 : CI M0 := by
  refine ⟨?_, FA_M0⟩
  intro k i hk hi
  have h := List.all_eq_true.mp ca0_all k (List.mem_range.mpr hk)
  have hs := Nat.le_of_ble_eq_true (List.all_eq_true.mp tshl_lt k (List.mem_range.mpr (by omega)))
  rw [tsh_def, M0_c]
  generalize i.toNat = j
  have h : cond (Nat.beq (tget 10 sW1.2.2 k).2.2.1 (tyk (tshl.getD k 0)).2.2) (cond (Nat.beq (tshl.getD k 0) 25) true (cond (Nat.ble (tget 10 sW1.2.2 k).2.2.1 64) ((List.range (tget 10 sW1.2.2 k).2.2.1).all (fun j => cokb (tshl.getD k 0) j (mzv (tget 10 sW1.2.2 k) j))) false)) false = true := h
  obtain ⟨g1, h⟩ := cond_three h
  rcases cond_two h with ⟨g2, -⟩ | ⟨-, h⟩
  · rw [Nat.eq_of_beq_eq_true g2]
    unfold cok
    rw [fsp_25]
    trivial
  · obtain ⟨g3, h⟩ := cond_three h
    by_cases hj : j < (tget 10 sW1.2.2 k).2.2.1
    · exact cokb_ok (List.all_eq_true.mp h j (List.mem_range.mpr hj))
    · rw [mzv_ge hj]
      rcases Nat.lt_or_ge j 64 with h6 | h6
      · have h2 := List.all_eq_true.mp (List.all_eq_true.mp ca1_all _ (List.mem_range.mpr hs)) j (List.mem_range.mpr h6)
        rcases (Bool.or_eq_true _ _).mp h2 with h3 | h3
        · rw [Nat.eq_of_beq_eq_true g1] at hj
          exact absurd (Nat.le_of_ble_eq_true h3) hj
        · exact cokb_ok h3
      · unfold cok
        rcases fsp_big (s := tshl.getD k 0) h6 with q | ⟨lo, hi, q, q1, q2⟩
        · rw [q]
          trivial
        · rw [q]
          exact ⟨q1, q2⟩
noncomputable def za0 (k : Nat) : Bool := (fun (c : sC_s) => (List.range c.2.2.1).all (fun j => Nat.beq (mzv c j) 0)) (tget 10 sW1.2.2 (665 + k))
theorem za0_all : (List.range 26).all za0 = true := by decide +kernel
theorem M0_z {k : Nat} {i : Int} (h1 : 665 ≤ k) (h2 : k ≤ 690) : M0 k i = 0 := by
  have h := List.all_eq_true.mp za0_all (k - 665) (List.mem_range.mpr (by omega))
  unfold za0 at h
  rw [show 665 + (k - 665) = k by omega] at h
  rw [M0_c]
  generalize i.toNat = j
  by_cases hj : j < (tget 10 sW1.2.2 k).2.2.1
  · rw [Nat.eq_of_beq_eq_true (List.all_eq_true.mp h j (List.mem_range.mpr hj))]
    rfl
  · rw [mzv_ge hj]
    rfl
theorem M0_2 : M0 664 2 = 6 := congrArg Int.ofNat (show mzv (tget 10 sW1.2.2 664) 2 = 6 by decide +kernel)
theorem M0_11 : M0 664 11 = 60 := congrArg Int.ofNat (show mzv (tget 10 sW1.2.2 664) 11 = 60 by decide +kernel)
theorem M0_12 : M0 664 12 = 0 := congrArg Int.ofNat (show mzv (tget 10 sW1.2.2 664) 12 = 0 by decide +kernel)
theorem M0_13 : M0 664 13 = 0 := congrArg Int.ofNat (show mzv (tget 10 sW1.2.2 664) 13 = 0 by decide +kernel)
theorem M0_14 : M0 664 14 = 0 := congrArg Int.ofNat (show mzv (tget 10 sW1.2.2 664) 14 = 0 by decide +kernel)
theorem M0_17 : M0 664 17 = 0 := congrArg Int.ofNat (show mzv (tget 10 sW1.2.2 664) 17 = 0 by decide +kernel)
theorem M0_25 : M0 664 25 = 0 := congrArg Int.ofNat (show mzv (tget 10 sW1.2.2 664) 25 = 0 by decide +kernel)
theorem M0_41 : M0 664 41 = 0 := congrArg Int.ofNat (show mzv (tget 10 sW1.2.2 664) 41 = 0 by decide +kernel)
theorem M0_0 : M0 0 0 = 6 := congrArg Int.ofNat (show mzv (tget 10 sW1.2.2 0) 0 = 6 by decide +kernel)
theorem MF_M0 : MF M0 6 := by
  have z : ∀ (k : Nat) (i : Int), 665 ≤ k → k ≤ 690 → M0 k i = 0 := fun k i => M0_z
  have z5 : ∀ i, M0 665 i = 0 := fun i => z _ _ (by decide) (by decide)
  have z7 : ∀ i, M0 667 i = 0 := fun i => z _ _ (by decide) (by decide)
  have z8 : ∀ i, M0 668 i = 0 := fun i => z _ _ (by decide) (by decide)
  have z9 : ∀ i, M0 669 i = 0 := fun i => z _ _ (by decide) (by decide)
  have z70 : ∀ i, M0 670 i = 0 := fun i => z _ _ (by decide) (by decide)
  have z71 : ∀ i, M0 671 i = 0 := fun i => z _ _ (by decide) (by decide)
  have z72 : ∀ i, M0 672 i = 0 := fun i => z _ _ (by decide) (by decide)
  have z73 : ∀ i, M0 673 i = 0 := fun i => z _ _ (by decide) (by decide)
  have z74 : ∀ i, M0 674 i = 0 := fun i => z _ _ (by decide) (by decide)
  have z75 : ∀ i, M0 675 i = 0 := fun i => z _ _ (by decide) (by decide)
  have z76 : ∀ i, M0 676 i = 0 := fun i => z _ _ (by decide) (by decide)
  have z77 : ∀ i, M0 677 i = 0 := fun i => z _ _ (by decide) (by decide)
  have z78 : ∀ i, M0 678 i = 0 := fun i => z _ _ (by decide) (by decide)
  have z79 : ∀ i, M0 679 i = 0 := fun i => z _ _ (by decide) (by decide)
  have z86 : ∀ i, M0 686 i = 0 := fun i => z _ _ (by decide) (by decide)
  have z87 : ∀ i, M0 687 i = 0 := fun i => z _ _ (by decide) (by decide)
  have z88 : ∀ i, M0 688 i = 0 := fun i => z _ _ (by decide) (by decide)
  have z89 : ∀ i, M0 689 i = 0 := fun i => z _ _ (by decide) (by decide)
  refine ⟨⟨⟨M0_2, by decide, M0_11, by decide, fun b _ _ => ?_, ⟨⟨Or.inl M0_12, Or.inl M0_13, Or.inl M0_14⟩, fun h => ?_, fun h => ?_, fun h => ?_⟩⟩, ⟨by rw [M0_25]; decide, fun j _ _ => ?_, fun i _ _ => by rw [z71]; decide⟩, fun b _ _ => ?_⟩, ⟨by rw [M0_17]; decide, fun i _ _ => by rw [z72]; decide, fun i _ _ => by rw [z73]; decide⟩, fun f _ _ => ⟨by rw [z87]; decide, by rw [z86]; decide, fun h => absurd (z87 f) h⟩, by rw [M0_41]; decide, fun i _ _ => ⟨by rw [z88]; decide, by rw [z89]; decide⟩⟩
  · unfold bcan
    rw [z7, z8, z9, z70]
    decide
  · rw [M0_12] at h; exact absurd h (by decide)
  · rw [M0_13] at h; exact absurd h (by decide)
  · rw [M0_14] at h; exact absurd h (by decide)
  · unfold KS
    rw [z74, z75, z76, z77, z78, z79]
    decide
  · unfold OB zlo zhi
    rw [z7, z8, z9, z70]
    decide
theorem M0_u : M0 78 5 = 10000 := congrArg Int.ofNat (show mzv (tget 10 sW1.2.2 78) 5 = 10000 by decide +kernel)
theorem UN_M0 : UN M0 := by
  unfold UN un
  rw [M0_u, M0_0, tn_def]
  decide
theorem M0_r4 : M0 79 4 = 83 := congrArg Int.ofNat (show mzv (tget 10 sW1.2.2 79) 4 = 83 by decide +kernel)
theorem M0_r5 : M0 79 5 = 84 := congrArg Int.ofNat (show mzv (tget 10 sW1.2.2 79) 5 = 84 by decide +kernel)
noncomputable def zb0 (k : Nat) : Bool := Nat.beq (mzv (tget 10 sW1.2.2 (k + 1)) 0) 0 && Nat.beq (mzv (tget 10 sW1.2.2 (k + 1)) 1) 0 && Nat.beq (mzv (tget 10 sW1.2.2 (k + 2)) 0) 0 && Nat.beq (mzv (tget 10 sW1.2.2 (k + 2)) 1) 0
theorem zb0_1 : (List.range 10).all (fun s => zb0 (8 + 3 * s)) = true := by decide +kernel
theorem zb0_2 : (List.range 12).all (fun s => zb0 (41 + 3 * s)) = true := by decide +kernel
theorem zb0_3 : (List.range 8).all (fun s => zb0 (532 + 3 * s)) = true := by decide +kernel
theorem zb0_4 : [500, 506, 512, 518, 524].all (fun r => Nat.beq (mzv (tget 10 sW1.2.2 r) 6) 0) = true := by decide +kernel
theorem BXG_0 {r : Nat} (h : zb0 r = true) : BXG M0 r := by
  unfold zb0 at h
  rw [Bool.and_eq_true, Bool.and_eq_true, Bool.and_eq_true] at h
  obtain ⟨⟨⟨h1, h2⟩, h3⟩, h4⟩ := h
  have e1 : M0 (r + 1) 0 = 0 := congrArg Int.ofNat (Nat.eq_of_beq_eq_true h1)
  have e2 : M0 (r + 1) 1 = 0 := congrArg Int.ofNat (Nat.eq_of_beq_eq_true h2)
  have e3 : M0 (r + 2) 0 = 0 := congrArg Int.ofNat (Nat.eq_of_beq_eq_true h3)
  have e4 : M0 (r + 2) 1 = 0 := congrArg Int.ofNat (Nat.eq_of_beq_eq_true h4)
  refine ⟨(0, 0), ⟨⟨e1, e2⟩, ⟨e3, e4⟩⟩, ⟨⟨by decide, by decide⟩, by decide, by decide⟩, Int.le_refl _⟩
theorem FM_0 {r : Nat} (h : FMC r) : M0 r 6 = 0 := by
  have g := zb0_4
  have e : ∀ x ∈ [500, 506, 512, 518, 524], M0 x 6 = 0 := fun x hx => congrArg Int.ofNat (Nat.eq_of_beq_eq_true (List.all_eq_true.mp g x hx))
  rcases h with rfl | rfl | rfl | rfl | rfl
  · exact e 500 (by decide)
  · exact e 506 (by decide)
  · exact e 512 (by decide)
  · exact e 518 (by decide)
  · exact e 524 (by decide)
theorem KW_M0 : KW M0 := by
  refine ⟨⟨⟨UN_M0, ⟨83, 84, Or.inl ⟨rfl, rfl⟩, M0_r4, M0_r5⟩⟩, fun s hs => ?_, fun r hr h => ?_⟩, ⟨fun k hk => ?_, fun k hk => ?_⟩, fun r hr h => ?_⟩
  · exact BXG_0 (List.all_eq_true.mp zb0_1 s (List.mem_range.mpr hs))
  · rw [FM_0 hr] at h
    exact absurd h (by decide)
  · exact BXG_0 (List.all_eq_true.mp zb0_2 k (List.mem_range.mpr hk))
  · exact BXG_0 (List.all_eq_true.mp zb0_3 k (List.mem_range.mpr hk))
  · rw [FM_0 hr] at h
    exact absurd h (by decide)
theorem LI_M0 : LI M0 0 0 := ⟨⟨CI_M0, KW_M0⟩, ⟨6, MF_M0, M0_0⟩, by decide⟩
end START2
