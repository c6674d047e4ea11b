/-! THE MACHINE on a guessed root: its loops. -/
section DBL10
variable {p : Program} {l : Launch} {e : Env} {R : Room} {s : State} {m : MethodId} {args : Array Value} {below : List Frame} {meth : Method} {c : Code} {H H0 : Heap} {locs : List Loc} {cells slots : Nat} {Q : State → Prop} {A0 : Nat → Prop}
theorem lvs_sub {ls : Array Slot} {n : Nat} {lv lv' : List (Nat × Value)} (h : lv_has ls n lv) (hs : ∀ q ∈ lv', q ∈ lv) : lv_has ls n lv' := ⟨h.1, h.2.1, fun q hq => h.2.2 q (hs q hq)⟩
theorem c2_in : Jvm.Cond.constantDouble RX8 179 4611686018427387904 ∈ bw_G := bw_in (by decide +kernel) rfl
theorem cT_in : Jvm.Cond.constantDouble RX8 173 (FP.l2d 10000000000) ∈ bw_G := bw_in (by decide +kernel) rfl
theorem g_loop1 {K : KE} {scr : List Int32} (A : bAll K (bPr scr)) {k : Nat} {z : UInt64} {rv : Value} (C0 : CallFix p m c cX8_guessRoot 7 s args bw_G RX8) (hRf : 17 ≤ R.frames) (hRl : 425 ≤ R.locals) (hk : 1 ≤ k ∧ k < 2147483648) (hc : cells ≤ R.cells) (hs : slots ≤ R.slots) : ∀ (n i : Nat) (g : UInt64) (ls : Array Slot) (locs : List Loc), i + n = 64 → va_S A0 H0 H locs → dat g ≠ .nan → lv_has ls 7 [(6, .int (Int32.ofNat i)), (4, .double g), (2, .double z), (1, .int (Int32.ofNat k)), (0, rv)] →
    (∀ (ls' : Array Slot) (locs' : List Loc), va_S A0 H0 H locs' → lv_has ls' 7 [(4, .double (gdo z (k - 1) n g)), (2, .double z), (1, .int (Int32.ofNat k)), (0, rv)] → W p l e R s m args below meth c H locs' cells slots Q (F0 m 54 ls' [])) → W p l e R s m args below meth c H locs cells slots Q (F0 m 22 ls []) := by
  have hx := C0.1
  have hcb := C0.2.1
  intro n
  induction n with
  | zero =>
    intro i g ls locs hi hS hg hl kk
    refine lv_iload hx hcb (i := 6) (x := Int32.ofNat i) (by decide +kernel) (pow_lv hl (by simp)) ?_
    refine lv_bipush hx hcb (n := 64) (v := Int32.ofNat 64) (by decide +kernel) rfl ?_
    refine lv_icmp_ge hx hcb (off := 28) (tgt := 54) (by decide +kernel) (by decide) (fun h => ?_) (fun h => absurd ?_ h)
    · exact kk ls locs hS (lvs_sub hl (by simp [gdo]))
    · rw [show i = 64 by omega]
      exact Int32.le_refl _
  | succ n ih =>
    intro i g ls locs hi hS hg hl kk
    refine lv_iload hx hcb (i := 6) (x := Int32.ofNat i) (by decide +kernel) (pow_lv hl (by simp)) ?_
    refine lv_bipush hx hcb (n := 64) (v := Int32.ofNat 64) (by decide +kernel) rfl ?_
    refine lv_icmp_ge hx hcb (off := 28) (tgt := 54) (by decide +kernel) (by decide) (fun h => absurd h ?_) (fun h => ?_)
    · intro h
      have h2 := Int32.le_iff_toInt_le.mp h
      rw [Int32.toInt_ofNat_of_lt (by omega), Int32.toInt_ofNat_of_lt (by omega)] at h2
      omega
    refine lv_dload hx hcb (i := 4) (x := g) (by decide +kernel) (pow_lv hl (by simp)) ?_
    refine lv_iload_n hx hcb (k := 1) (i := 1) (x := Int32.ofNat k) (by decide +kernel) rfl (pow_lv hl (by simp)) ?_
    refine pow_call A (by decide +kernel) C0 hRf hRl hl hk hg hc hs (by decide) hS (fun locs1 hS1 => ?_)
    refine lv_dload_n hx hcb (k := 2) (i := 2) (x := z) (by decide +kernel) rfl (pow_lv hl (by simp)) ?_
    refine lv_dcmp hx hcb (op := .g) (by decide +kernel) ?_
    have eD : gdo z (k - 1) (n + 1) g = if FP.dcmp (pwN g (k - 1) g) z = some .lt then gdo z (k - 1) n (FP.dmul g 4611686018427387904) else g := rfl
    rw [eD] at kk
    by_cases hd : FP.dcmp (pwN g (k - 1) g) z = some .lt
    · rw [if_pos hd] at kk
      rw [hd]
      refine lv_if_ge hx hcb (off := 17) (tgt := 54) (by decide +kernel) (by decide) (fun h => absurd h (by decide)) (fun _ => ?_)
      refine lv_dload hx hcb (i := 4) (x := g) (by decide +kernel) (pow_lv hl (by simp)) ?_
      refine lv_ldc2d hx hcb C0.2.2.2.1 (C0.2.2.2.2 _ c2_in) (by decide +kernel) ?_
      have hg2 := mulR_N two_fin (by decide) hg
      refine lv_dmul hx hcb (by decide +kernel) (dat_vf hg2) ?_
      refine lv_dstore hx hcb (i := 4) (lv' := [(4, .double (FP.dmul g 4611686018427387904)), (6, .int (Int32.ofNat i)), (2, .double z), (1, .int (Int32.ofNat k)), (0, rv)]) (by decide +kernel) (lvs_sub hl (lv' := [(6, .int (Int32.ofNat i)), (2, .double z), (1, .int (Int32.ofNat k)), (0, rv)]) (by simp)) (by decide) rfl (fun ls1 hl1 => ?_)
      refine lv_iinc hx hcb (k := 1) (lv' := [(6, .int (Int32.ofNat (i + 1))), (4, .double (FP.dmul g 4611686018427387904)), (2, .double z), (1, .int (Int32.ofNat k)), (0, rv)]) (by decide +kernel) hl1 rfl (i32_s i) (by decide) rfl (fun ls2 hl2 => ?_)
      refine lv_goto hx hcb (off := -29) (tgt := 22) (by decide +kernel) (by decide) ?_
      exact ih (i + 1) _ ls2 locs1 (by omega) hS1 hg2 hl2 kk
    · rw [if_neg hd] at kk
      refine lv_if_ge hx hcb (off := 17) (tgt := 54) (by decide +kernel) (by decide) (fun _ => kk ls locs1 hS1 (lvs_sub hl (by simp))) (fun h => absurd ?_ h)
      cases h : FP.dcmp (pwN g (k - 1) g) z with
      | none => decide
      | some o =>
        cases o with
        | lt => exact absurd h hd
        | eq => decide
        | gt => decide
end DBL10
