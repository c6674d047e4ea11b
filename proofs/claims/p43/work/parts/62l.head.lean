/-! THE MACHINE on a guessed root: from its entry to its loops. -/
section DBL12
variable {p : Program} {l : Launch} {e : Env} {R : Room} {s : State} {m : MethodId} {args : Array Value} {below : List Frame} {meth : Method} {c : Code} {H : Heap} {locs : List Loc} {cells slots : Nat} {Q : State → Prop}
theorem szd_N {w q : Int64} : dat (FP.ddiv (FP.l2d q) (FP.l2d 10000000000)) ≠ .nan ∧ dat (szd w q) ≠ .nan := by
  obtain ⟨s1, c1, q1, e1, e2, e3⟩ := l2d_fin w
  obtain ⟨s2, c2, q2, f1, f2, f3⟩ := l2d_fin q
  obtain ⟨s3, c3, q3, g1, g2, g3⟩ := div_fin f1 f2 f3 ten_fin (by decide) (by decide +kernel)
  obtain ⟨s4, c4, q4, h1, h2, h3⟩ := add_fin e1 e2 (by omega) g1 g2 g3
  have h1 : dat (szd w q) = .fin s4 c4 q4 := h1
  rw [g1, h1]
  exact ⟨fun h => (by cases h), fun h => (by cases h)⟩
theorem g_head {K : KE} {scr : List Int32} (A : bAll K (bPr scr)) {n k r : Nat} {ct : Nat → va_E} {w q : Int64} {ls : Array Slot} (C0 : CallFix p m c cX8_guessRoot 7 s args bw_G RX8) (hb : bK K s) (hw : bS K.D K.B n ct s H locs) (hr : r < n) (he : ct r = .inr (3, [.long w, .long q])) (hl : lv_has ls 7 [(0, .ref (K.B + r)), (1, .int (Int32.ofNat k))])
    (kk : ∀ ls' : Array Slot, lv_has ls' 7 [(6, .int (Int32.ofNat 0)), (4, .double 4607182418800017408), (2, .double (szd w q)), (1, .int (Int32.ofNat k)), (0, .ref (K.B + r))] → W p l e R s m args below meth c H locs cells slots Q (F0 m 22 ls' [])) : W p l e R s m args below meth c H locs cells slots Q (F0 m 0 ls []) := by
  have hx := C0.1
  have hcb := C0.2.1
  obtain ⟨a1, a2, a3, -⟩ := A
  obtain ⟨b1, ⟨-, C, T, N, g2, g3, g4⟩, -⟩ := a3 2564 1 _ (show bop 2564 1 = some (.getfield 70, 1075, 3, 0, 0) by decide +kernel)
  obtain ⟨d1, ⟨-, C', T', N', k2, k3, k4⟩, -⟩ := a3 2564 6 _ (show bop 2564 6 = some (.getfield 73, 1080, 3, 1, 0) by decide +kernel)
  obtain ⟨-, -, h3, -, -⟩ := a1 3 C T N g2 (by decide)
  obtain ⟨-, -, j3, -, -⟩ := a1 3 C' T' N' k2 (by decide)
  obtain ⟨n1, n2⟩ := szd_N (w := w) (q := q)
  refine lv_aload_n hx hcb (k := 0) (i := 0) (x := K.B + r) (by decide +kernel) rfl (pow_lv hl (by simp)) ?_
  refine br_get C0 hb hw hr he g2 h3 0 g3 g4 rfl b1 ?_
  refine lv_l2d hx hcb (by decide +kernel) ?_
  refine lv_aload_n hx hcb (k := 0) (i := 0) (x := K.B + r) (by decide +kernel) rfl (pow_lv hl (by simp)) ?_
  refine br_get C0 hb hw hr he k2 j3 1 k3 k4 rfl d1 ?_
  refine lv_l2d hx hcb (by decide +kernel) ?_
  refine lv_ldc2d hx hcb C0.2.2.2.1 (C0.2.2.2.2 _ cT_in) (by decide +kernel) ?_
  refine lv_ddiv hx hcb (by decide +kernel) (dat_vf n1) ?_
  refine lv_dadd hx hcb (by decide +kernel) (dat_vf n2) ?_
  refine lv_dstore_n hx hcb (k := 2) (i := 2) (lv' := [(2, .double (szd w q)), (1, .int (Int32.ofNat k)), (0, .ref (K.B + r))]) (by decide +kernel) rfl (lvs_sub hl (lv' := [(1, .int (Int32.ofNat k)), (0, .ref (K.B + r))]) (by simp)) (by decide) rfl (fun ls1 hl1 => ?_)
  refine lv_dconst1 hx hcb (by decide +kernel) ?_
  refine lv_dstore hx hcb (i := 4) (lv' := [(4, .double 4607182418800017408), (2, .double (szd w q)), (1, .int (Int32.ofNat k)), (0, .ref (K.B + r))]) (by decide +kernel) hl1 (by decide) rfl (fun ls2 hl2 => ?_)
  refine lv_iconst hx hcb (n := 0) (v := Int32.ofNat 0) (by decide +kernel) rfl ?_
  exact lv_istore hx hcb (i := 6) (lv' := [(6, .int (Int32.ofNat 0)), (4, .double 4607182418800017408), (2, .double (szd w q)), (1, .int (Int32.ofNat k)), (0, .ref (K.B + r))]) (by decide +kernel) hl2 (by decide) rfl (fun ls3 hl3 => kk ls3 hl3)
end DBL12
