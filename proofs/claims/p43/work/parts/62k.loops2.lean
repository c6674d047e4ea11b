/-! THE MACHINE on a guessed root: its other loops. -/
section DBL11
variable {p : Program} {l : Launch} {e : Env} {R : Room} {s : State} {m : MethodId} {args : Array Value} {below : List Frame} {meth : Method} {c : Code} {H H0 : Heap} {locs : List Loc} {cells slots : Nat} {Q : State → Prop} {A0 : Nat → Prop}
theorem g_loop2 {K : KE} {scr : List Int32} (A : bAll K (bPr scr)) {k : Nat} {z : UInt64} {rv : Value} (C0 : CallFix p m c cX8_guessRoot 7 s args bw_G RX8) (hRf : 17 ≤ R.frames) (hRl : 425 ≤ R.locals) (hk : 1 ≤ k ∧ k < 2147483648) (hc : cells ≤ R.cells) (hs : slots ≤ R.slots) : ∀ (n i : Nat) (g : UInt64) (ls : Array Slot) (locs : List Loc), i + n = 64 → va_S A0 H0 H locs → dat g ≠ .nan → lv_has ls 7 [(6, .int (Int32.ofNat i)), (4, .double g), (2, .double z), (1, .int (Int32.ofNat k)), (0, rv)] →
    (∀ (ls' : Array Slot) (locs' : List Loc), va_S A0 H0 H locs' → lv_has ls' 7 [(4, .double (gha z (k - 1) n g)), (2, .double z), (1, .int (Int32.ofNat k)), (0, rv)] → W p l e R s m args below meth c H locs' cells slots Q (F0 m 93 ls' [])) → W p l e R s m args below meth c H locs cells slots Q (F0 m 57 ls []) := by
  have hx := C0.1
  have hcb := C0.2.1
  intro n
  induction n with
  | zero =>
    intro i g ls locs hi hS hg hl kk
    refine lv_iload hx hcb (i := 6) (x := Int32.ofNat i) (by decide +kernel) (pow_lv hl (by simp)) ?_
    refine lv_bipush hx hcb (n := 64) (v := Int32.ofNat 64) (by decide +kernel) rfl ?_
    refine lv_icmp_ge hx hcb (off := 32) (tgt := 93) (by decide +kernel) (by decide) (fun h => ?_) (fun h => absurd ?_ h)
    · exact kk ls locs hS (lvs_sub hl (by simp [gha]))
    · rw [show i = 64 by omega]
      exact Int32.le_refl _
  | succ n ih =>
    intro i g ls locs hi hS hg hl kk
    refine lv_iload hx hcb (i := 6) (x := Int32.ofNat i) (by decide +kernel) (pow_lv hl (by simp)) ?_
    refine lv_bipush hx hcb (n := 64) (v := Int32.ofNat 64) (by decide +kernel) rfl ?_
    refine lv_icmp_ge hx hcb (off := 32) (tgt := 93) (by decide +kernel) (by decide) (fun h => absurd h ?_) (fun h => ?_)
    · intro h
      have h2 := Int32.le_iff_toInt_le.mp h
      rw [Int32.toInt_ofNat_of_lt (by omega), Int32.toInt_ofNat_of_lt (by omega)] at h2
      omega
    refine lv_dload hx hcb (i := 4) (x := g) (by decide +kernel) (pow_lv hl (by simp)) ?_
    refine lv_ldc2d hx hcb C0.2.2.2.1 (C0.2.2.2.2 _ c2_in) (by decide +kernel) ?_
    have hg2 := div_N hg two_fin (by decide)
    refine lv_ddiv hx hcb (by decide +kernel) (dat_vf hg2) ?_
    refine lv_iload_n hx hcb (k := 1) (i := 1) (x := Int32.ofNat k) (by decide +kernel) rfl (pow_lv hl (by simp)) ?_
    refine pow_call A (by decide +kernel) C0 hRf hRl hl hk hg2 hc hs (by decide) hS (fun locs1 hS1 => ?_)
    refine lv_dload_n hx hcb (k := 2) (i := 2) (x := z) (by decide +kernel) rfl (pow_lv hl (by simp)) ?_
    refine lv_dcmp hx hcb (op := .l) (by decide +kernel) ?_
    have eD : gha z (k - 1) (n + 1) g = if FP.dcmp (pwN (FP.ddiv g 4611686018427387904) (k - 1) (FP.ddiv g 4611686018427387904)) z = some .gt then gha z (k - 1) n (FP.ddiv g 4611686018427387904) else g := rfl
    rw [eD] at kk
    by_cases hd : FP.dcmp (pwN (FP.ddiv g 4611686018427387904) (k - 1) (FP.ddiv g 4611686018427387904)) z = some .gt
    · rw [if_pos hd] at kk
      rw [hd]
      refine lv_if_le hx hcb (off := 17) (tgt := 93) (by decide +kernel) (by decide) (fun h => absurd h (by decide)) (fun _ => ?_)
      refine lv_dload hx hcb (i := 4) (x := g) (by decide +kernel) (pow_lv hl (by simp)) ?_
      refine lv_ldc2d hx hcb C0.2.2.2.1 (C0.2.2.2.2 _ c2_in) (by decide +kernel) ?_
      refine lv_ddiv hx hcb (by decide +kernel) (dat_vf hg2) ?_
      refine lv_dstore hx hcb (i := 4) (lv' := [(4, .double (FP.ddiv g 4611686018427387904)), (6, .int (Int32.ofNat i)), (2, .double z), (1, .int (Int32.ofNat k)), (0, rv)]) (by decide +kernel) (lvs_sub hl (lv' := [(6, .int (Int32.ofNat i)), (2, .double z), (1, .int (Int32.ofNat k)), (0, rv)]) (by simp)) (by decide) rfl (fun ls1 hl1 => ?_)
      refine lv_iinc hx hcb (k := 1) (lv' := [(6, .int (Int32.ofNat (i + 1))), (4, .double (FP.ddiv g 4611686018427387904)), (2, .double z), (1, .int (Int32.ofNat k)), (0, rv)]) (by decide +kernel) hl1 rfl (i32_s i) (by decide) rfl (fun ls2 hl2 => ?_)
      refine lv_goto hx hcb (off := -33) (tgt := 57) (by decide +kernel) (by decide) ?_
      exact ih (i + 1) _ ls2 locs1 (by omega) hS1 hg2 hl2 kk
    · rw [if_neg hd] at kk
      refine lv_if_le hx hcb (off := 17) (tgt := 93) (by decide +kernel) (by decide) (fun _ => kk ls locs1 hS1 (lvs_sub hl (by simp))) (fun h => absurd ?_ h)
      cases h : FP.dcmp (pwN (FP.ddiv g 4611686018427387904) (k - 1) (FP.ddiv g 4611686018427387904)) z with
      | none => decide
      | some o =>
        cases o with
        | gt => exact absurd h hd
        | eq => decide
        | lt => decide
theorem i32_p {k : Nat} (h : 1 ≤ k) : Int32.ofNat k - Int32.ofNat 1 = Int32.ofNat (k - 1) := by
  obtain ⟨j, rfl⟩ : ∃ j, k = j + 1 := ⟨k - 1, by omega⟩
  rw [Int32.ofNat_add, Nat.add_sub_cancel]
  exact Int32.add_sub_cancel _ _
theorem g_loop3 {K : KE} {scr : List Int32} (A : bAll K (bPr scr)) {k : Nat} {z : UInt64} {rv : Value} (C0 : CallFix p m c cX8_guessRoot 7 s args bw_G RX8) (hRf : 17 ≤ R.frames) (hRl : 425 ≤ R.locals) (hk : 2 ≤ k ∧ k < 2147483648) (hc : cells ≤ R.cells) (hs : slots ≤ R.slots) : ∀ (n i : Nat) (g : UInt64) (ls : Array Slot) (locs : List Loc), i + n = 10 → va_S A0 H0 H locs → nwOK (FP.i2d (Int32.ofNat (k - 1))) (FP.i2d (Int32.ofNat k)) z (k - 2) n g → lv_has ls 7 [(6, .int (Int32.ofNat i)), (4, .double g), (2, .double z), (1, .int (Int32.ofNat k)), (0, rv)] →
    (∀ (ls' : Array Slot) (locs' : List Loc), va_S A0 H0 H locs' → lv_has ls' 7 [(4, .double (nws (FP.i2d (Int32.ofNat (k - 1))) (FP.i2d (Int32.ofNat k)) z (k - 2) n g)), (2, .double z), (1, .int (Int32.ofNat k)), (0, rv)] → W p l e R s m args below meth c H locs' cells slots Q (F0 m 132 ls' [])) → W p l e R s m args below meth c H locs cells slots Q (F0 m 96 ls []) := by
  have hx := C0.1
  have hcb := C0.2.1
  intro n
  induction n with
  | zero =>
    intro i g ls locs hi hS hg hl kk
    refine lv_iload hx hcb (i := 6) (x := Int32.ofNat i) (by decide +kernel) (pow_lv hl (by simp)) ?_
    refine lv_bipush hx hcb (n := 10) (v := Int32.ofNat 10) (by decide +kernel) rfl ?_
    refine lv_icmp_ge hx hcb (off := 32) (tgt := 132) (by decide +kernel) (by decide) (fun h => ?_) (fun h => absurd ?_ h)
    · exact kk ls locs hS (lvs_sub hl (by simp [nws]))
    · rw [show i = 10 by omega]
      exact Int32.le_refl _
  | succ n ih =>
    intro i g ls locs hi hS hg hl kk
    refine lv_iload hx hcb (i := 6) (x := Int32.ofNat i) (by decide +kernel) (pow_lv hl (by simp)) ?_
    refine lv_bipush hx hcb (n := 10) (v := Int32.ofNat 10) (by decide +kernel) rfl ?_
    refine lv_icmp_ge hx hcb (off := 32) (tgt := 132) (by decide +kernel) (by decide) (fun h => absurd h ?_) (fun h => ?_)
    · intro h
      have h2 := Int32.le_iff_toInt_le.mp h
      rw [Int32.toInt_ofNat_of_lt (by omega), Int32.toInt_ofNat_of_lt (by omega)] at h2
      omega
    obtain ⟨⟨hg0, n1, n2, n3, n4⟩, hg2⟩ := hg
    refine lv_iload_n hx hcb (k := 1) (i := 1) (x := Int32.ofNat k) (by decide +kernel) rfl (pow_lv hl (by simp)) ?_
    refine lv_iconst hx hcb (n := 1) (v := Int32.ofNat 1) (by decide +kernel) rfl ?_
    refine lv_isub hx hcb (by decide +kernel) ?_
    rw [i32_p (by omega)]
    refine lv_i2d hx hcb (by decide +kernel) ?_
    refine lv_dload hx hcb (i := 4) (x := g) (by decide +kernel) (pow_lv hl (by simp)) ?_
    refine lv_dmul hx hcb (by decide +kernel) (dat_vf n1) ?_
    refine lv_dload_n hx hcb (k := 2) (i := 2) (x := z) (by decide +kernel) rfl (pow_lv hl (by simp)) ?_
    refine lv_dload hx hcb (i := 4) (x := g) (by decide +kernel) (pow_lv hl (by simp)) ?_
    refine lv_iload_n hx hcb (k := 1) (i := 1) (x := Int32.ofNat k) (by decide +kernel) rfl (pow_lv hl (by simp)) ?_
    refine lv_iconst hx hcb (n := 1) (v := Int32.ofNat 1) (by decide +kernel) rfl ?_
    refine lv_isub hx hcb (by decide +kernel) ?_
    rw [i32_p (by omega)]
    refine pow_call A (by decide +kernel) C0 hRf hRl hl (k := k - 1) (by omega) hg0 hc hs (Nat.le_of_ble_eq_true rfl) hS (fun locs1 hS1 => ?_)
    rw [show k - 1 - 1 = k - 2 by omega]
    refine lv_ddiv hx hcb (by decide +kernel) (dat_vf n2) ?_
    refine lv_dadd hx hcb (by decide +kernel) (dat_vf n3) ?_
    refine lv_iload_n hx hcb (k := 1) (i := 1) (x := Int32.ofNat k) (by decide +kernel) rfl (pow_lv hl (by simp)) ?_
    refine lv_i2d hx hcb (by decide +kernel) ?_
    refine lv_ddiv hx hcb (by decide +kernel) (dat_vf n4) ?_
    refine lv_dstore hx hcb (i := 4) (lv' := [(4, .double (nw (FP.i2d (Int32.ofNat (k - 1))) (FP.i2d (Int32.ofNat k)) z (k - 2) g)), (6, .int (Int32.ofNat i)), (2, .double z), (1, .int (Int32.ofNat k)), (0, rv)]) (by decide +kernel) (lvs_sub hl (lv' := [(6, .int (Int32.ofNat i)), (2, .double z), (1, .int (Int32.ofNat k)), (0, rv)]) (by simp)) (by decide) rfl (fun ls1 hl1 => ?_)
    refine lv_iinc hx hcb (k := 1) (lv' := [(6, .int (Int32.ofNat (i + 1))), (4, .double (nw (FP.i2d (Int32.ofNat (k - 1))) (FP.i2d (Int32.ofNat k)) z (k - 2) g)), (2, .double z), (1, .int (Int32.ofNat k)), (0, rv)]) (by decide +kernel) hl1 rfl (i32_s i) (by decide) rfl (fun ls2 hl2 => ?_)
    refine lv_goto hx hcb (off := -33) (tgt := 96) (by decide +kernel) (by decide) ?_
    exact ih (i + 1) _ ls2 locs1 (by omega) hS1 hg2 hl2 kk
end DBL11
